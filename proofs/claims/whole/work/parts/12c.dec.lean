/-! decode rows -/
theorem d_sc_init_0 : decode m_sc_init.2.2.1 0 = .ok (.aload_n 0, 1) := by decide +kernel
theorem d_sc_init_1 : decode m_sc_init.2.2.1 1 = .ok (.invokespecial 3, 3) := by decide +kernel
theorem d_sc_init_4 : decode m_sc_init.2.2.1 4 = .ok (.aload_n 0, 1) := by decide +kernel
theorem d_sc_init_5 : decode m_sc_init.2.2.1 5 = .ok (.new 9, 3) := by decide +kernel
theorem d_sc_init_8 : decode m_sc_init.2.2.1 8 = .ok (.dup, 1) := by decide +kernel
theorem d_sc_init_9 : decode m_sc_init.2.2.1 9 = .ok (.invokespecial 11, 3) := by decide +kernel
theorem d_sc_init_12 : decode m_sc_init.2.2.1 12 = .ok (.putfield 12, 3) := by decide +kernel
theorem d_sc_init_15 : decode m_sc_init.2.2.1 15 = .ok (.aload_n 0, 1) := by decide +kernel
theorem d_sc_init_16 : decode m_sc_init.2.2.1 16 = .ok (.new 9, 3) := by decide +kernel
theorem d_sc_init_19 : decode m_sc_init.2.2.1 19 = .ok (.dup, 1) := by decide +kernel
theorem d_sc_init_20 : decode m_sc_init.2.2.1 20 = .ok (.invokespecial 11, 3) := by decide +kernel
theorem d_sc_init_23 : decode m_sc_init.2.2.1 23 = .ok (.putfield 16, 3) := by decide +kernel
theorem d_sc_init_26 : decode m_sc_init.2.2.1 26 = .ok (.aload_n 0, 1) := by decide +kernel
theorem d_sc_init_27 : decode m_sc_init.2.2.1 27 = .ok (.iconst 0, 1) := by decide +kernel
theorem d_sc_init_28 : decode m_sc_init.2.2.1 28 = .ok (.putfield 19, 3) := by decide +kernel
theorem d_sc_init_31 : decode m_sc_init.2.2.1 31 = .ok (.aload_n 0, 1) := by decide +kernel
theorem d_sc_init_32 : decode m_sc_init.2.2.1 32 = .ok (.new 23, 3) := by decide +kernel
theorem d_sc_init_35 : decode m_sc_init.2.2.1 35 = .ok (.dup, 1) := by decide +kernel
theorem d_sc_init_36 : decode m_sc_init.2.2.1 36 = .ok (.invokespecial 25, 3) := by decide +kernel
theorem d_sc_init_39 : decode m_sc_init.2.2.1 39 = .ok (.putfield 26, 3) := by decide +kernel
theorem d_sc_init_42 : decode m_sc_init.2.2.1 42 = .ok (.aload_n 0, 1) := by decide +kernel
theorem d_sc_init_43 : decode m_sc_init.2.2.1 43 = .ok (.new 30, 3) := by decide +kernel
theorem d_sc_init_46 : decode m_sc_init.2.2.1 46 = .ok (.dup, 1) := by decide +kernel
theorem d_sc_init_47 : decode m_sc_init.2.2.1 47 = .ok (.invokespecial 32, 3) := by decide +kernel
theorem d_sc_init_50 : decode m_sc_init.2.2.1 50 = .ok (.putfield 33, 3) := by decide +kernel
theorem d_sc_init_53 : decode m_sc_init.2.2.1 53 = .ok (.aload_n 0, 1) := by decide +kernel
theorem d_sc_init_54 : decode m_sc_init.2.2.1 54 = .ok (.new 37, 3) := by decide +kernel
theorem d_sc_init_57 : decode m_sc_init.2.2.1 57 = .ok (.dup, 1) := by decide +kernel
theorem d_sc_init_58 : decode m_sc_init.2.2.1 58 = .ok (.invokespecial 39, 3) := by decide +kernel
theorem d_sc_init_61 : decode m_sc_init.2.2.1 61 = .ok (.putfield 40, 3) := by decide +kernel
theorem d_sc_init_64 : decode m_sc_init.2.2.1 64 = .ok (.aload_n 0, 1) := by decide +kernel
theorem d_sc_init_65 : decode m_sc_init.2.2.1 65 = .ok (.new 37, 3) := by decide +kernel
theorem d_sc_init_68 : decode m_sc_init.2.2.1 68 = .ok (.dup, 1) := by decide +kernel
theorem d_sc_init_69 : decode m_sc_init.2.2.1 69 = .ok (.invokespecial 39, 3) := by decide +kernel
theorem d_sc_init_72 : decode m_sc_init.2.2.1 72 = .ok (.putfield 44, 3) := by decide +kernel
theorem d_sc_init_75 : decode m_sc_init.2.2.1 75 = .ok (.return_, 1) := by decide +kernel
theorem d_sc_addProvision_0 : decode m_sc_addProvision.2.2.1 0 = .ok (.iload_n 1, 1) := by decide +kernel
theorem d_sc_addProvision_1 : decode m_sc_addProvision.2.2.1 1 = .ok (.iconst (-1), 1) := by decide +kernel
theorem d_sc_addProvision_2 : decode m_sc_addProvision.2.2.1 2 = .ok (.if_icmp .eq 16, 3) := by decide +kernel
theorem d_sc_addProvision_5 : decode m_sc_addProvision.2.2.1 5 = .ok (.aload_n 0, 1) := by decide +kernel
theorem d_sc_addProvision_6 : decode m_sc_addProvision.2.2.1 6 = .ok (.getfield 12, 3) := by decide +kernel
theorem d_sc_addProvision_9 : decode m_sc_addProvision.2.2.1 9 = .ok (.iload_n 1, 1) := by decide +kernel
theorem d_sc_addProvision_10 : decode m_sc_addProvision.2.2.1 10 = .ok (.invokevirtual 47, 3) := by decide +kernel
theorem d_sc_addProvision_13 : decode m_sc_addProvision.2.2.1 13 = .ok (.ifCond .ne 5, 3) := by decide +kernel
theorem d_sc_addProvision_16 : decode m_sc_addProvision.2.2.1 16 = .ok (.iconst (-1), 1) := by decide +kernel
theorem d_sc_addProvision_17 : decode m_sc_addProvision.2.2.1 17 = .ok (.ireturn, 1) := by decide +kernel
theorem d_sc_addProvision_18 : decode m_sc_addProvision.2.2.1 18 = .ok (.iload_n 2, 1) := by decide +kernel
theorem d_sc_addProvision_19 : decode m_sc_addProvision.2.2.1 19 = .ok (.invokestatic 51, 3) := by decide +kernel
theorem d_sc_addProvision_22 : decode m_sc_addProvision.2.2.1 22 = .ok (.ifCond .ne 6, 3) := by decide +kernel
theorem d_sc_addProvision_25 : decode m_sc_addProvision.2.2.1 25 = .ok (.bipush (-5), 2) := by decide +kernel
theorem d_sc_addProvision_27 : decode m_sc_addProvision.2.2.1 27 = .ok (.ireturn, 1) := by decide +kernel
theorem d_sc_addProvision_28 : decode m_sc_addProvision.2.2.1 28 = .ok (.iload_n 1, 1) := by decide +kernel
theorem d_sc_addProvision_29 : decode m_sc_addProvision.2.2.1 29 = .ok (.iconst (-1), 1) := by decide +kernel
theorem d_sc_addProvision_30 : decode m_sc_addProvision.2.2.1 30 = .ok (.if_icmp .ne 7, 3) := by decide +kernel
theorem d_sc_addProvision_33 : decode m_sc_addProvision.2.2.1 33 = .ok (.lconst 0, 1) := by decide +kernel
theorem d_sc_addProvision_34 : decode m_sc_addProvision.2.2.1 34 = .ok (.goto 11, 3) := by decide +kernel
theorem d_sc_addProvision_37 : decode m_sc_addProvision.2.2.1 37 = .ok (.aload_n 0, 1) := by decide +kernel
theorem d_sc_addProvision_38 : decode m_sc_addProvision.2.2.1 38 = .ok (.getfield 12, 3) := by decide +kernel
theorem d_sc_addProvision_41 : decode m_sc_addProvision.2.2.1 41 = .ok (.iload_n 1, 1) := by decide +kernel
theorem d_sc_addProvision_42 : decode m_sc_addProvision.2.2.1 42 = .ok (.invokevirtual 56, 3) := by decide +kernel
theorem d_sc_addProvision_45 : decode m_sc_addProvision.2.2.1 45 = .ok (.lstore_n 3, 1) := by decide +kernel
theorem d_sc_addProvision_46 : decode m_sc_addProvision.2.2.1 46 = .ok (.lload_n 3, 1) := by decide +kernel
theorem d_sc_addProvision_47 : decode m_sc_addProvision.2.2.1 47 = .ok (.invokestatic 60, 3) := by decide +kernel
theorem d_sc_addProvision_50 : decode m_sc_addProvision.2.2.1 50 = .ok (.iconst 3, 1) := by decide +kernel
theorem d_sc_addProvision_51 : decode m_sc_addProvision.2.2.1 51 = .ok (.if_icmp .lt 6, 3) := by decide +kernel
theorem d_sc_addProvision_54 : decode m_sc_addProvision.2.2.1 54 = .ok (.bipush (-8), 2) := by decide +kernel
theorem d_sc_addProvision_56 : decode m_sc_addProvision.2.2.1 56 = .ok (.ireturn, 1) := by decide +kernel
theorem d_sc_addProvision_57 : decode m_sc_addProvision.2.2.1 57 = .ok (.aload_n 0, 1) := by decide +kernel
theorem d_sc_addProvision_58 : decode m_sc_addProvision.2.2.1 58 = .ok (.getfield 12, 3) := by decide +kernel
theorem d_sc_addProvision_61 : decode m_sc_addProvision.2.2.1 61 = .ok (.getfield 64, 3) := by decide +kernel
theorem d_sc_addProvision_64 : decode m_sc_addProvision.2.2.1 64 = .ok (.getfield 68, 3) := by decide +kernel
theorem d_sc_addProvision_67 : decode m_sc_addProvision.2.2.1 67 = .ok (.bipush 30, 2) := by decide +kernel
theorem d_sc_addProvision_69 : decode m_sc_addProvision.2.2.1 69 = .ok (.if_icmp .lt 6, 3) := by decide +kernel
theorem d_sc_addProvision_72 : decode m_sc_addProvision.2.2.1 72 = .ok (.bipush (-6), 2) := by decide +kernel
theorem d_sc_addProvision_74 : decode m_sc_addProvision.2.2.1 74 = .ok (.ireturn, 1) := by decide +kernel
theorem d_sc_addProvision_75 : decode m_sc_addProvision.2.2.1 75 = .ok (.aload_n 0, 1) := by decide +kernel
theorem d_sc_addProvision_76 : decode m_sc_addProvision.2.2.1 76 = .ok (.getfield 12, 3) := by decide +kernel
theorem d_sc_addProvision_79 : decode m_sc_addProvision.2.2.1 79 = .ok (.getfield 64, 3) := by decide +kernel
theorem d_sc_addProvision_82 : decode m_sc_addProvision.2.2.1 82 = .ok (.lload_n 3, 1) := by decide +kernel
theorem d_sc_addProvision_83 : decode m_sc_addProvision.2.2.1 83 = .ok (.invokevirtual 74, 3) := by decide +kernel
theorem d_sc_addProvision_86 : decode m_sc_addProvision.2.2.1 86 = .ok (.istore 5, 2) := by decide +kernel
theorem d_sc_addProvision_88 : decode m_sc_addProvision.2.2.1 88 = .ok (.iload 5, 2) := by decide +kernel
theorem d_sc_addProvision_90 : decode m_sc_addProvision.2.2.1 90 = .ok (.ifCond .ge 8, 3) := by decide +kernel
theorem d_sc_addProvision_93 : decode m_sc_addProvision.2.2.1 93 = .ok (.bipush (-7), 2) := by decide +kernel
theorem d_sc_addProvision_95 : decode m_sc_addProvision.2.2.1 95 = .ok (.goto 17, 3) := by decide +kernel
theorem d_sc_addProvision_98 : decode m_sc_addProvision.2.2.1 98 = .ok (.aload_n 0, 1) := by decide +kernel
theorem d_sc_addProvision_99 : decode m_sc_addProvision.2.2.1 99 = .ok (.getfield 12, 3) := by decide +kernel
theorem d_sc_addProvision_102 : decode m_sc_addProvision.2.2.1 102 = .ok (.lload_n 3, 1) := by decide +kernel
theorem d_sc_addProvision_103 : decode m_sc_addProvision.2.2.1 103 = .ok (.iload 5, 2) := by decide +kernel
theorem d_sc_addProvision_105 : decode m_sc_addProvision.2.2.1 105 = .ok (.invokestatic 77, 3) := by decide +kernel
theorem d_sc_addProvision_108 : decode m_sc_addProvision.2.2.1 108 = .ok (.iload_n 2, 1) := by decide +kernel
theorem d_sc_addProvision_109 : decode m_sc_addProvision.2.2.1 109 = .ok (.invokevirtual 81, 3) := by decide +kernel
theorem d_sc_addProvision_112 : decode m_sc_addProvision.2.2.1 112 = .ok (.ireturn, 1) := by decide +kernel
theorem d_sc_insertProvision_0 : decode m_sc_insertProvision.2.2.1 0 = .ok (.aload_n 0, 1) := by decide +kernel
theorem d_sc_insertProvision_1 : decode m_sc_insertProvision.2.2.1 1 = .ok (.getfield 12, 3) := by decide +kernel
theorem d_sc_insertProvision_4 : decode m_sc_insertProvision.2.2.1 4 = .ok (.iload_n 1, 1) := by decide +kernel
theorem d_sc_insertProvision_5 : decode m_sc_insertProvision.2.2.1 5 = .ok (.invokevirtual 47, 3) := by decide +kernel
theorem d_sc_insertProvision_8 : decode m_sc_insertProvision.2.2.1 8 = .ok (.ifCond .ne 5, 3) := by decide +kernel
theorem d_sc_insertProvision_11 : decode m_sc_insertProvision.2.2.1 11 = .ok (.iconst (-1), 1) := by decide +kernel
theorem d_sc_insertProvision_12 : decode m_sc_insertProvision.2.2.1 12 = .ok (.ireturn, 1) := by decide +kernel
theorem d_sc_insertProvision_13 : decode m_sc_insertProvision.2.2.1 13 = .ok (.iload_n 2, 1) := by decide +kernel
theorem d_sc_insertProvision_14 : decode m_sc_insertProvision.2.2.1 14 = .ok (.invokestatic 51, 3) := by decide +kernel
theorem d_sc_insertProvision_17 : decode m_sc_insertProvision.2.2.1 17 = .ok (.ifCond .ne 6, 3) := by decide +kernel
theorem d_sc_insertProvision_20 : decode m_sc_insertProvision.2.2.1 20 = .ok (.bipush (-5), 2) := by decide +kernel
theorem d_sc_insertProvision_22 : decode m_sc_insertProvision.2.2.1 22 = .ok (.ireturn, 1) := by decide +kernel
theorem d_sc_insertProvision_23 : decode m_sc_insertProvision.2.2.1 23 = .ok (.aload_n 0, 1) := by decide +kernel
theorem d_sc_insertProvision_24 : decode m_sc_insertProvision.2.2.1 24 = .ok (.getfield 12, 3) := by decide +kernel
theorem d_sc_insertProvision_27 : decode m_sc_insertProvision.2.2.1 27 = .ok (.getfield 64, 3) := by decide +kernel
theorem d_sc_insertProvision_30 : decode m_sc_insertProvision.2.2.1 30 = .ok (.getfield 68, 3) := by decide +kernel
theorem d_sc_insertProvision_33 : decode m_sc_insertProvision.2.2.1 33 = .ok (.bipush 30, 2) := by decide +kernel
theorem d_sc_insertProvision_35 : decode m_sc_insertProvision.2.2.1 35 = .ok (.if_icmp .lt 6, 3) := by decide +kernel
theorem d_sc_insertProvision_38 : decode m_sc_insertProvision.2.2.1 38 = .ok (.bipush (-6), 2) := by decide +kernel
theorem d_sc_insertProvision_40 : decode m_sc_insertProvision.2.2.1 40 = .ok (.ireturn, 1) := by decide +kernel
theorem d_sc_insertProvision_41 : decode m_sc_insertProvision.2.2.1 41 = .ok (.aload_n 0, 1) := by decide +kernel
theorem d_sc_insertProvision_42 : decode m_sc_insertProvision.2.2.1 42 = .ok (.getfield 12, 3) := by decide +kernel
theorem d_sc_insertProvision_45 : decode m_sc_insertProvision.2.2.1 45 = .ok (.iload_n 1, 1) := by decide +kernel
theorem d_sc_insertProvision_46 : decode m_sc_insertProvision.2.2.1 46 = .ok (.invokevirtual 56, 3) := by decide +kernel
theorem d_sc_insertProvision_49 : decode m_sc_insertProvision.2.2.1 49 = .ok (.lstore_n 3, 1) := by decide +kernel
theorem d_sc_insertProvision_50 : decode m_sc_insertProvision.2.2.1 50 = .ok (.aload_n 0, 1) := by decide +kernel
theorem d_sc_insertProvision_51 : decode m_sc_insertProvision.2.2.1 51 = .ok (.getfield 12, 3) := by decide +kernel
theorem d_sc_insertProvision_54 : decode m_sc_insertProvision.2.2.1 54 = .ok (.getfield 64, 3) := by decide +kernel
theorem d_sc_insertProvision_57 : decode m_sc_insertProvision.2.2.1 57 = .ok (.lload_n 3, 1) := by decide +kernel
theorem d_sc_insertProvision_58 : decode m_sc_insertProvision.2.2.1 58 = .ok (.lconst 0, 1) := by decide +kernel
theorem d_sc_insertProvision_59 : decode m_sc_insertProvision.2.2.1 59 = .ok (.invokevirtual 85, 3) := by decide +kernel
theorem d_sc_insertProvision_62 : decode m_sc_insertProvision.2.2.1 62 = .ok (.istore 5, 2) := by decide +kernel
theorem d_sc_insertProvision_64 : decode m_sc_insertProvision.2.2.1 64 = .ok (.iload 5, 2) := by decide +kernel
theorem d_sc_insertProvision_66 : decode m_sc_insertProvision.2.2.1 66 = .ok (.ifCond .ge 8, 3) := by decide +kernel
theorem d_sc_insertProvision_69 : decode m_sc_insertProvision.2.2.1 69 = .ok (.bipush (-7), 2) := by decide +kernel
theorem d_sc_insertProvision_71 : decode m_sc_insertProvision.2.2.1 71 = .ok (.goto 17, 3) := by decide +kernel
theorem d_sc_insertProvision_74 : decode m_sc_insertProvision.2.2.1 74 = .ok (.aload_n 0, 1) := by decide +kernel
theorem d_sc_insertProvision_75 : decode m_sc_insertProvision.2.2.1 75 = .ok (.getfield 12, 3) := by decide +kernel
theorem d_sc_insertProvision_78 : decode m_sc_insertProvision.2.2.1 78 = .ok (.lload_n 3, 1) := by decide +kernel
theorem d_sc_insertProvision_79 : decode m_sc_insertProvision.2.2.1 79 = .ok (.iload 5, 2) := by decide +kernel
theorem d_sc_insertProvision_81 : decode m_sc_insertProvision.2.2.1 81 = .ok (.invokestatic 89, 3) := by decide +kernel
theorem d_sc_insertProvision_84 : decode m_sc_insertProvision.2.2.1 84 = .ok (.iload_n 2, 1) := by decide +kernel
theorem d_sc_insertProvision_85 : decode m_sc_insertProvision.2.2.1 85 = .ok (.invokevirtual 81, 3) := by decide +kernel
theorem d_sc_insertProvision_88 : decode m_sc_insertProvision.2.2.1 88 = .ok (.ireturn, 1) := by decide +kernel
theorem d_sc_setText_0 : decode m_sc_setText.2.2.1 0 = .ok (.aload_n 0, 1) := by decide +kernel
theorem d_sc_setText_1 : decode m_sc_setText.2.2.1 1 = .ok (.getfield 12, 3) := by decide +kernel
theorem d_sc_setText_4 : decode m_sc_setText.2.2.1 4 = .ok (.getfield 64, 3) := by decide +kernel
theorem d_sc_setText_7 : decode m_sc_setText.2.2.1 7 = .ok (.iload_n 1, 1) := by decide +kernel
theorem d_sc_setText_8 : decode m_sc_setText.2.2.1 8 = .ok (.invokevirtual 92, 3) := by decide +kernel
theorem d_sc_setText_11 : decode m_sc_setText.2.2.1 11 = .ok (.istore_n 3, 1) := by decide +kernel
theorem d_sc_setText_12 : decode m_sc_setText.2.2.1 12 = .ok (.iload_n 3, 1) := by decide +kernel
theorem d_sc_setText_13 : decode m_sc_setText.2.2.1 13 = .ok (.ifCond .ge 5, 3) := by decide +kernel
theorem d_sc_setText_16 : decode m_sc_setText.2.2.1 16 = .ok (.iconst (-1), 1) := by decide +kernel
theorem d_sc_setText_17 : decode m_sc_setText.2.2.1 17 = .ok (.ireturn, 1) := by decide +kernel
theorem d_sc_setText_18 : decode m_sc_setText.2.2.1 18 = .ok (.iload_n 2, 1) := by decide +kernel
theorem d_sc_setText_19 : decode m_sc_setText.2.2.1 19 = .ok (.invokestatic 51, 3) := by decide +kernel
theorem d_sc_setText_22 : decode m_sc_setText.2.2.1 22 = .ok (.ifCond .ne 6, 3) := by decide +kernel
theorem d_sc_setText_25 : decode m_sc_setText.2.2.1 25 = .ok (.bipush (-5), 2) := by decide +kernel
theorem d_sc_setText_27 : decode m_sc_setText.2.2.1 27 = .ok (.ireturn, 1) := by decide +kernel
theorem d_sc_setText_28 : decode m_sc_setText.2.2.1 28 = .ok (.aload_n 0, 1) := by decide +kernel
theorem d_sc_setText_29 : decode m_sc_setText.2.2.1 29 = .ok (.getfield 12, 3) := by decide +kernel
theorem d_sc_setText_32 : decode m_sc_setText.2.2.1 32 = .ok (.getfield 64, 3) := by decide +kernel
theorem d_sc_setText_35 : decode m_sc_setText.2.2.1 35 = .ok (.getfield 96, 3) := by decide +kernel
theorem d_sc_setText_38 : decode m_sc_setText.2.2.1 38 = .ok (.iload_n 3, 1) := by decide +kernel
theorem d_sc_setText_39 : decode m_sc_setText.2.2.1 39 = .ok (.iaload, 1) := by decide +kernel
theorem d_sc_setText_40 : decode m_sc_setText.2.2.1 40 = .ok (.istore 4, 2) := by decide +kernel
theorem d_sc_setText_42 : decode m_sc_setText.2.2.1 42 = .ok (.aload_n 0, 1) := by decide +kernel
theorem d_sc_setText_43 : decode m_sc_setText.2.2.1 43 = .ok (.getfield 12, 3) := by decide +kernel
theorem d_sc_setText_46 : decode m_sc_setText.2.2.1 46 = .ok (.getfield 64, 3) := by decide +kernel
theorem d_sc_setText_49 : decode m_sc_setText.2.2.1 49 = .ok (.getfield 96, 3) := by decide +kernel
theorem d_sc_setText_52 : decode m_sc_setText.2.2.1 52 = .ok (.iload_n 3, 1) := by decide +kernel
theorem d_sc_setText_53 : decode m_sc_setText.2.2.1 53 = .ok (.iload_n 2, 1) := by decide +kernel
theorem d_sc_setText_54 : decode m_sc_setText.2.2.1 54 = .ok (.iastore, 1) := by decide +kernel
theorem d_sc_setText_55 : decode m_sc_setText.2.2.1 55 = .ok (.iload 4, 2) := by decide +kernel
theorem d_sc_setText_57 : decode m_sc_setText.2.2.1 57 = .ok (.ireturn, 1) := by decide +kernel
theorem d_sc_addReference_0 : decode m_sc_addReference.2.2.1 0 = .ok (.aload_n 0, 1) := by decide +kernel
theorem d_sc_addReference_1 : decode m_sc_addReference.2.2.1 1 = .ok (.getfield 12, 3) := by decide +kernel
theorem d_sc_addReference_4 : decode m_sc_addReference.2.2.1 4 = .ok (.iload_n 1, 1) := by decide +kernel
theorem d_sc_addReference_5 : decode m_sc_addReference.2.2.1 5 = .ok (.invokevirtual 47, 3) := by decide +kernel
theorem d_sc_addReference_8 : decode m_sc_addReference.2.2.1 8 = .ok (.ifCond .eq 14, 3) := by decide +kernel
theorem d_sc_addReference_11 : decode m_sc_addReference.2.2.1 11 = .ok (.aload_n 0, 1) := by decide +kernel
theorem d_sc_addReference_12 : decode m_sc_addReference.2.2.1 12 = .ok (.getfield 12, 3) := by decide +kernel
theorem d_sc_addReference_15 : decode m_sc_addReference.2.2.1 15 = .ok (.iload_n 2, 1) := by decide +kernel
theorem d_sc_addReference_16 : decode m_sc_addReference.2.2.1 16 = .ok (.invokevirtual 47, 3) := by decide +kernel
theorem d_sc_addReference_19 : decode m_sc_addReference.2.2.1 19 = .ok (.ifCond .ne 5, 3) := by decide +kernel
theorem d_sc_addReference_22 : decode m_sc_addReference.2.2.1 22 = .ok (.iconst (-1), 1) := by decide +kernel
theorem d_sc_addReference_23 : decode m_sc_addReference.2.2.1 23 = .ok (.ireturn, 1) := by decide +kernel
theorem d_sc_addReference_24 : decode m_sc_addReference.2.2.1 24 = .ok (.aload_n 0, 1) := by decide +kernel
theorem d_sc_addReference_25 : decode m_sc_addReference.2.2.1 25 = .ok (.getfield 12, 3) := by decide +kernel
theorem d_sc_addReference_28 : decode m_sc_addReference.2.2.1 28 = .ok (.getfield 100, 3) := by decide +kernel
theorem d_sc_addReference_31 : decode m_sc_addReference.2.2.1 31 = .ok (.iload_n 1, 1) := by decide +kernel
theorem d_sc_addReference_32 : decode m_sc_addReference.2.2.1 32 = .ok (.iaload, 1) := by decide +kernel
theorem d_sc_addReference_33 : decode m_sc_addReference.2.2.1 33 = .ok (.iconst 4, 1) := by decide +kernel
theorem d_sc_addReference_34 : decode m_sc_addReference.2.2.1 34 = .ok (.if_icmp .lt 6, 3) := by decide +kernel
theorem d_sc_addReference_37 : decode m_sc_addReference.2.2.1 37 = .ok (.bipush (-6), 2) := by decide +kernel
theorem d_sc_addReference_39 : decode m_sc_addReference.2.2.1 39 = .ok (.ireturn, 1) := by decide +kernel
theorem d_sc_addReference_40 : decode m_sc_addReference.2.2.1 40 = .ok (.aload_n 0, 1) := by decide +kernel
theorem d_sc_addReference_41 : decode m_sc_addReference.2.2.1 41 = .ok (.getfield 12, 3) := by decide +kernel
theorem d_sc_addReference_44 : decode m_sc_addReference.2.2.1 44 = .ok (.getfield 103, 3) := by decide +kernel
theorem d_sc_addReference_47 : decode m_sc_addReference.2.2.1 47 = .ok (.iload_n 1, 1) := by decide +kernel
theorem d_sc_addReference_48 : decode m_sc_addReference.2.2.1 48 = .ok (.aaload, 1) := by decide +kernel
theorem d_sc_addReference_49 : decode m_sc_addReference.2.2.1 49 = .ok (.aload_n 0, 1) := by decide +kernel
theorem d_sc_addReference_50 : decode m_sc_addReference.2.2.1 50 = .ok (.getfield 12, 3) := by decide +kernel
theorem d_sc_addReference_53 : decode m_sc_addReference.2.2.1 53 = .ok (.getfield 100, 3) := by decide +kernel
theorem d_sc_addReference_56 : decode m_sc_addReference.2.2.1 56 = .ok (.iload_n 1, 1) := by decide +kernel
theorem d_sc_addReference_57 : decode m_sc_addReference.2.2.1 57 = .ok (.iaload, 1) := by decide +kernel
theorem d_sc_addReference_58 : decode m_sc_addReference.2.2.1 58 = .ok (.iload_n 2, 1) := by decide +kernel
theorem d_sc_addReference_59 : decode m_sc_addReference.2.2.1 59 = .ok (.iastore, 1) := by decide +kernel
theorem d_sc_addReference_60 : decode m_sc_addReference.2.2.1 60 = .ok (.aload_n 0, 1) := by decide +kernel
theorem d_sc_addReference_61 : decode m_sc_addReference.2.2.1 61 = .ok (.getfield 12, 3) := by decide +kernel
theorem d_sc_addReference_64 : decode m_sc_addReference.2.2.1 64 = .ok (.getfield 100, 3) := by decide +kernel
theorem d_sc_addReference_67 : decode m_sc_addReference.2.2.1 67 = .ok (.iload_n 1, 1) := by decide +kernel
theorem d_sc_addReference_68 : decode m_sc_addReference.2.2.1 68 = .ok (.dup2, 1) := by decide +kernel
theorem d_sc_addReference_69 : decode m_sc_addReference.2.2.1 69 = .ok (.iaload, 1) := by decide +kernel
theorem d_sc_addReference_70 : decode m_sc_addReference.2.2.1 70 = .ok (.iconst 1, 1) := by decide +kernel
theorem d_sc_addReference_71 : decode m_sc_addReference.2.2.1 71 = .ok (.iadd, 1) := by decide +kernel
theorem d_sc_addReference_72 : decode m_sc_addReference.2.2.1 72 = .ok (.iastore, 1) := by decide +kernel
theorem d_sc_addReference_73 : decode m_sc_addReference.2.2.1 73 = .ok (.aload_n 0, 1) := by decide +kernel
theorem d_sc_addReference_74 : decode m_sc_addReference.2.2.1 74 = .ok (.getfield 12, 3) := by decide +kernel
theorem d_sc_addReference_77 : decode m_sc_addReference.2.2.1 77 = .ok (.getfield 100, 3) := by decide +kernel
theorem d_sc_addReference_80 : decode m_sc_addReference.2.2.1 80 = .ok (.iload_n 1, 1) := by decide +kernel
theorem d_sc_addReference_81 : decode m_sc_addReference.2.2.1 81 = .ok (.iaload, 1) := by decide +kernel
theorem d_sc_addReference_82 : decode m_sc_addReference.2.2.1 82 = .ok (.ireturn, 1) := by decide +kernel
theorem d_sc_clear_0 : decode m_sc_clear.2.2.1 0 = .ok (.aload_n 0, 1) := by decide +kernel
theorem d_sc_clear_1 : decode m_sc_clear.2.2.1 1 = .ok (.getfield 12, 3) := by decide +kernel
theorem d_sc_clear_4 : decode m_sc_clear.2.2.1 4 = .ok (.getfield 64, 3) := by decide +kernel
theorem d_sc_clear_7 : decode m_sc_clear.2.2.1 7 = .ok (.getfield 68, 3) := by decide +kernel
theorem d_sc_clear_10 : decode m_sc_clear.2.2.1 10 = .ok (.istore_n 1, 1) := by decide +kernel
theorem d_sc_clear_11 : decode m_sc_clear.2.2.1 11 = .ok (.aload_n 0, 1) := by decide +kernel
theorem d_sc_clear_12 : decode m_sc_clear.2.2.1 12 = .ok (.getfield 12, 3) := by decide +kernel
theorem d_sc_clear_15 : decode m_sc_clear.2.2.1 15 = .ok (.getfield 64, 3) := by decide +kernel
theorem d_sc_clear_18 : decode m_sc_clear.2.2.1 18 = .ok (.iconst 0, 1) := by decide +kernel
theorem d_sc_clear_19 : decode m_sc_clear.2.2.1 19 = .ok (.putfield 68, 3) := by decide +kernel
theorem d_sc_clear_22 : decode m_sc_clear.2.2.1 22 = .ok (.aload_n 0, 1) := by decide +kernel
theorem d_sc_clear_23 : decode m_sc_clear.2.2.1 23 = .ok (.getfield 12, 3) := by decide +kernel
theorem d_sc_clear_26 : decode m_sc_clear.2.2.1 26 = .ok (.getfield 107, 3) := by decide +kernel
theorem d_sc_clear_29 : decode m_sc_clear.2.2.1 29 = .ok (.iconst 0, 1) := by decide +kernel
theorem d_sc_clear_30 : decode m_sc_clear.2.2.1 30 = .ok (.putfield 111, 3) := by decide +kernel
theorem d_sc_clear_33 : decode m_sc_clear.2.2.1 33 = .ok (.aload_n 0, 1) := by decide +kernel
theorem d_sc_clear_34 : decode m_sc_clear.2.2.1 34 = .ok (.getfield 33, 3) := by decide +kernel
theorem d_sc_clear_37 : decode m_sc_clear.2.2.1 37 = .ok (.invokevirtual 114, 3) := by decide +kernel
theorem d_sc_clear_40 : decode m_sc_clear.2.2.1 40 = .ok (.iload_n 1, 1) := by decide +kernel
theorem d_sc_clear_41 : decode m_sc_clear.2.2.1 41 = .ok (.ireturn, 1) := by decide +kernel
theorem d_sc_originalCount_0 : decode m_sc_originalCount.2.2.1 0 = .ok (.aload_n 0, 1) := by decide +kernel
theorem d_sc_originalCount_1 : decode m_sc_originalCount.2.2.1 1 = .ok (.getfield 12, 3) := by decide +kernel
theorem d_sc_originalCount_4 : decode m_sc_originalCount.2.2.1 4 = .ok (.getfield 64, 3) := by decide +kernel
theorem d_sc_originalCount_7 : decode m_sc_originalCount.2.2.1 7 = .ok (.getfield 68, 3) := by decide +kernel
theorem d_sc_originalCount_10 : decode m_sc_originalCount.2.2.1 10 = .ok (.ireturn, 1) := by decide +kernel
theorem d_sc_appendCharacter_0 : decode m_sc_appendCharacter.2.2.1 0 = .ok (.iload_n 1, 1) := by decide +kernel
theorem d_sc_appendCharacter_1 : decode m_sc_appendCharacter.2.2.1 1 = .ok (.bipush 32, 2) := by decide +kernel
theorem d_sc_appendCharacter_3 : decode m_sc_appendCharacter.2.2.1 3 = .ok (.if_icmp .lt 9, 3) := by decide +kernel
theorem d_sc_appendCharacter_6 : decode m_sc_appendCharacter.2.2.1 6 = .ok (.iload_n 1, 1) := by decide +kernel
theorem d_sc_appendCharacter_7 : decode m_sc_appendCharacter.2.2.1 7 = .ok (.bipush 126, 2) := by decide +kernel
theorem d_sc_appendCharacter_9 : decode m_sc_appendCharacter.2.2.1 9 = .ok (.if_icmp .le 6, 3) := by decide +kernel
theorem d_sc_appendCharacter_12 : decode m_sc_appendCharacter.2.2.1 12 = .ok (.bipush (-5), 2) := by decide +kernel
theorem d_sc_appendCharacter_14 : decode m_sc_appendCharacter.2.2.1 14 = .ok (.ireturn, 1) := by decide +kernel
theorem d_sc_appendCharacter_15 : decode m_sc_appendCharacter.2.2.1 15 = .ok (.aload_n 0, 1) := by decide +kernel
theorem d_sc_appendCharacter_16 : decode m_sc_appendCharacter.2.2.1 16 = .ok (.getfield 26, 3) := by decide +kernel
theorem d_sc_appendCharacter_19 : decode m_sc_appendCharacter.2.2.1 19 = .ok (.getfield 117, 3) := by decide +kernel
theorem d_sc_appendCharacter_22 : decode m_sc_appendCharacter.2.2.1 22 = .ok (.bipush 120, 2) := by decide +kernel
theorem d_sc_appendCharacter_24 : decode m_sc_appendCharacter.2.2.1 24 = .ok (.if_icmp .lt 6, 3) := by decide +kernel
theorem d_sc_appendCharacter_27 : decode m_sc_appendCharacter.2.2.1 27 = .ok (.bipush (-6), 2) := by decide +kernel
theorem d_sc_appendCharacter_29 : decode m_sc_appendCharacter.2.2.1 29 = .ok (.ireturn, 1) := by decide +kernel
theorem d_sc_appendCharacter_30 : decode m_sc_appendCharacter.2.2.1 30 = .ok (.aload_n 0, 1) := by decide +kernel
theorem d_sc_appendCharacter_31 : decode m_sc_appendCharacter.2.2.1 31 = .ok (.getfield 26, 3) := by decide +kernel
theorem d_sc_appendCharacter_34 : decode m_sc_appendCharacter.2.2.1 34 = .ok (.getfield 120, 3) := by decide +kernel
theorem d_sc_appendCharacter_37 : decode m_sc_appendCharacter.2.2.1 37 = .ok (.aload_n 0, 1) := by decide +kernel
theorem d_sc_appendCharacter_38 : decode m_sc_appendCharacter.2.2.1 38 = .ok (.getfield 26, 3) := by decide +kernel
theorem d_sc_appendCharacter_41 : decode m_sc_appendCharacter.2.2.1 41 = .ok (.getfield 117, 3) := by decide +kernel
theorem d_sc_appendCharacter_44 : decode m_sc_appendCharacter.2.2.1 44 = .ok (.iload_n 1, 1) := by decide +kernel
theorem d_sc_appendCharacter_45 : decode m_sc_appendCharacter.2.2.1 45 = .ok (.iastore, 1) := by decide +kernel
theorem d_sc_appendCharacter_46 : decode m_sc_appendCharacter.2.2.1 46 = .ok (.aload_n 0, 1) := by decide +kernel
theorem d_sc_appendCharacter_47 : decode m_sc_appendCharacter.2.2.1 47 = .ok (.getfield 26, 3) := by decide +kernel
theorem d_sc_appendCharacter_50 : decode m_sc_appendCharacter.2.2.1 50 = .ok (.dup, 1) := by decide +kernel
theorem d_sc_appendCharacter_51 : decode m_sc_appendCharacter.2.2.1 51 = .ok (.getfield 117, 3) := by decide +kernel
theorem d_sc_appendCharacter_54 : decode m_sc_appendCharacter.2.2.1 54 = .ok (.iconst 1, 1) := by decide +kernel
theorem d_sc_appendCharacter_55 : decode m_sc_appendCharacter.2.2.1 55 = .ok (.iadd, 1) := by decide +kernel
theorem d_sc_appendCharacter_56 : decode m_sc_appendCharacter.2.2.1 56 = .ok (.putfield 117, 3) := by decide +kernel
theorem d_sc_appendCharacter_59 : decode m_sc_appendCharacter.2.2.1 59 = .ok (.aload_n 0, 1) := by decide +kernel
theorem d_sc_appendCharacter_60 : decode m_sc_appendCharacter.2.2.1 60 = .ok (.getfield 26, 3) := by decide +kernel
theorem d_sc_appendCharacter_63 : decode m_sc_appendCharacter.2.2.1 63 = .ok (.getfield 117, 3) := by decide +kernel
theorem d_sc_appendCharacter_66 : decode m_sc_appendCharacter.2.2.1 66 = .ok (.ireturn, 1) := by decide +kernel
theorem d_sc_clearInput_0 : decode m_sc_clearInput.2.2.1 0 = .ok (.aload_n 0, 1) := by decide +kernel
theorem d_sc_clearInput_1 : decode m_sc_clearInput.2.2.1 1 = .ok (.getfield 26, 3) := by decide +kernel
theorem d_sc_clearInput_4 : decode m_sc_clearInput.2.2.1 4 = .ok (.getfield 117, 3) := by decide +kernel
theorem d_sc_clearInput_7 : decode m_sc_clearInput.2.2.1 7 = .ok (.istore_n 1, 1) := by decide +kernel
theorem d_sc_clearInput_8 : decode m_sc_clearInput.2.2.1 8 = .ok (.aload_n 0, 1) := by decide +kernel
theorem d_sc_clearInput_9 : decode m_sc_clearInput.2.2.1 9 = .ok (.getfield 26, 3) := by decide +kernel
theorem d_sc_clearInput_12 : decode m_sc_clearInput.2.2.1 12 = .ok (.iconst 0, 1) := by decide +kernel
theorem d_sc_clearInput_13 : decode m_sc_clearInput.2.2.1 13 = .ok (.putfield 117, 3) := by decide +kernel
theorem d_sc_clearInput_16 : decode m_sc_clearInput.2.2.1 16 = .ok (.iload_n 1, 1) := by decide +kernel
theorem d_sc_clearInput_17 : decode m_sc_clearInput.2.2.1 17 = .ok (.ireturn, 1) := by decide +kernel
theorem d_sc_addAmendment_0 : decode m_sc_addAmendment.2.2.1 0 = .ok (.aload_n 0, 1) := by decide +kernel
theorem d_sc_addAmendment_1 : decode m_sc_addAmendment.2.2.1 1 = .ok (.iload_n 1, 1) := by decide +kernel
theorem d_sc_addAmendment_2 : decode m_sc_addAmendment.2.2.1 2 = .ok (.invokevirtual 123, 3) := by decide +kernel
theorem d_sc_addAmendment_5 : decode m_sc_addAmendment.2.2.1 5 = .ok (.istore_n 2, 1) := by decide +kernel
theorem d_sc_addAmendment_6 : decode m_sc_addAmendment.2.2.1 6 = .ok (.aload_n 0, 1) := by decide +kernel
theorem d_sc_addAmendment_7 : decode m_sc_addAmendment.2.2.1 7 = .ok (.getfield 26, 3) := by decide +kernel
theorem d_sc_addAmendment_10 : decode m_sc_addAmendment.2.2.1 10 = .ok (.iconst 0, 1) := by decide +kernel
theorem d_sc_addAmendment_11 : decode m_sc_addAmendment.2.2.1 11 = .ok (.putfield 117, 3) := by decide +kernel
theorem d_sc_addAmendment_14 : decode m_sc_addAmendment.2.2.1 14 = .ok (.iload_n 2, 1) := by decide +kernel
theorem d_sc_addAmendment_15 : decode m_sc_addAmendment.2.2.1 15 = .ok (.ireturn, 1) := by decide +kernel
theorem d_sc_amendmentCount_0 : decode m_sc_amendmentCount.2.2.1 0 = .ok (.aload_n 0, 1) := by decide +kernel
theorem d_sc_amendmentCount_1 : decode m_sc_amendmentCount.2.2.1 1 = .ok (.getfield 12, 3) := by decide +kernel
theorem d_sc_amendmentCount_4 : decode m_sc_amendmentCount.2.2.1 4 = .ok (.getfield 107, 3) := by decide +kernel
theorem d_sc_amendmentCount_7 : decode m_sc_amendmentCount.2.2.1 7 = .ok (.getfield 111, 3) := by decide +kernel
theorem d_sc_amendmentCount_10 : decode m_sc_amendmentCount.2.2.1 10 = .ok (.ireturn, 1) := by decide +kernel
theorem d_sc_instructionCount_0 : decode m_sc_instructionCount.2.2.1 0 = .ok (.aload_n 0, 1) := by decide +kernel
theorem d_sc_instructionCount_1 : decode m_sc_instructionCount.2.2.1 1 = .ok (.getfield 12, 3) := by decide +kernel
theorem d_sc_instructionCount_4 : decode m_sc_instructionCount.2.2.1 4 = .ok (.getfield 107, 3) := by decide +kernel
theorem d_sc_instructionCount_7 : decode m_sc_instructionCount.2.2.1 7 = .ok (.iload_n 1, 1) := by decide +kernel
theorem d_sc_instructionCount_8 : decode m_sc_instructionCount.2.2.1 8 = .ok (.invokevirtual 126, 3) := by decide +kernel
theorem d_sc_instructionCount_11 : decode m_sc_instructionCount.2.2.1 11 = .ok (.ifCond .ne 6, 3) := by decide +kernel
theorem d_sc_instructionCount_14 : decode m_sc_instructionCount.2.2.1 14 = .ok (.bipush (-3), 2) := by decide +kernel
theorem d_sc_instructionCount_16 : decode m_sc_instructionCount.2.2.1 16 = .ok (.ireturn, 1) := by decide +kernel
theorem d_sc_instructionCount_17 : decode m_sc_instructionCount.2.2.1 17 = .ok (.aload_n 0, 1) := by decide +kernel
theorem d_sc_instructionCount_18 : decode m_sc_instructionCount.2.2.1 18 = .ok (.getfield 12, 3) := by decide +kernel
theorem d_sc_instructionCount_21 : decode m_sc_instructionCount.2.2.1 21 = .ok (.getfield 107, 3) := by decide +kernel
theorem d_sc_instructionCount_24 : decode m_sc_instructionCount.2.2.1 24 = .ok (.getfield 129, 3) := by decide +kernel
theorem d_sc_instructionCount_27 : decode m_sc_instructionCount.2.2.1 27 = .ok (.iload_n 1, 1) := by decide +kernel
theorem d_sc_instructionCount_28 : decode m_sc_instructionCount.2.2.1 28 = .ok (.iaload, 1) := by decide +kernel
theorem d_sc_instructionCount_29 : decode m_sc_instructionCount.2.2.1 29 = .ok (.ireturn, 1) := by decide +kernel
theorem d_sc_setCommencement_0 : decode m_sc_setCommencement.2.2.1 0 = .ok (.aload_n 0, 1) := by decide +kernel
theorem d_sc_setCommencement_1 : decode m_sc_setCommencement.2.2.1 1 = .ok (.getfield 12, 3) := by decide +kernel
theorem d_sc_setCommencement_4 : decode m_sc_setCommencement.2.2.1 4 = .ok (.getfield 107, 3) := by decide +kernel
theorem d_sc_setCommencement_7 : decode m_sc_setCommencement.2.2.1 7 = .ok (.iload_n 1, 1) := by decide +kernel
theorem d_sc_setCommencement_8 : decode m_sc_setCommencement.2.2.1 8 = .ok (.invokevirtual 126, 3) := by decide +kernel
theorem d_sc_setCommencement_11 : decode m_sc_setCommencement.2.2.1 11 = .ok (.ifCond .ne 6, 3) := by decide +kernel
theorem d_sc_setCommencement_14 : decode m_sc_setCommencement.2.2.1 14 = .ok (.bipush (-3), 2) := by decide +kernel
theorem d_sc_setCommencement_16 : decode m_sc_setCommencement.2.2.1 16 = .ok (.ireturn, 1) := by decide +kernel
theorem d_sc_setCommencement_17 : decode m_sc_setCommencement.2.2.1 17 = .ok (.iload_n 2, 1) := by decide +kernel
theorem d_sc_setCommencement_18 : decode m_sc_setCommencement.2.2.1 18 = .ok (.invokestatic 132, 3) := by decide +kernel
theorem d_sc_setCommencement_21 : decode m_sc_setCommencement.2.2.1 21 = .ok (.ifCond .ne 6, 3) := by decide +kernel
theorem d_sc_setCommencement_24 : decode m_sc_setCommencement.2.2.1 24 = .ok (.bipush (-4), 2) := by decide +kernel
theorem d_sc_setCommencement_26 : decode m_sc_setCommencement.2.2.1 26 = .ok (.ireturn, 1) := by decide +kernel
theorem d_sc_setCommencement_27 : decode m_sc_setCommencement.2.2.1 27 = .ok (.aload_n 0, 1) := by decide +kernel
theorem d_sc_setCommencement_28 : decode m_sc_setCommencement.2.2.1 28 = .ok (.getfield 12, 3) := by decide +kernel
theorem d_sc_setCommencement_31 : decode m_sc_setCommencement.2.2.1 31 = .ok (.getfield 107, 3) := by decide +kernel
theorem d_sc_setCommencement_34 : decode m_sc_setCommencement.2.2.1 34 = .ok (.getfield 135, 3) := by decide +kernel
theorem d_sc_setCommencement_37 : decode m_sc_setCommencement.2.2.1 37 = .ok (.iload_n 1, 1) := by decide +kernel
theorem d_sc_setCommencement_38 : decode m_sc_setCommencement.2.2.1 38 = .ok (.iaload, 1) := by decide +kernel
theorem d_sc_setCommencement_39 : decode m_sc_setCommencement.2.2.1 39 = .ok (.istore_n 3, 1) := by decide +kernel
theorem d_sc_setCommencement_40 : decode m_sc_setCommencement.2.2.1 40 = .ok (.aload_n 0, 1) := by decide +kernel
theorem d_sc_setCommencement_41 : decode m_sc_setCommencement.2.2.1 41 = .ok (.getfield 12, 3) := by decide +kernel
theorem d_sc_setCommencement_44 : decode m_sc_setCommencement.2.2.1 44 = .ok (.getfield 107, 3) := by decide +kernel
theorem d_sc_setCommencement_47 : decode m_sc_setCommencement.2.2.1 47 = .ok (.getfield 135, 3) := by decide +kernel
theorem d_sc_setCommencement_50 : decode m_sc_setCommencement.2.2.1 50 = .ok (.iload_n 1, 1) := by decide +kernel
theorem d_sc_setCommencement_51 : decode m_sc_setCommencement.2.2.1 51 = .ok (.iload_n 2, 1) := by decide +kernel
theorem d_sc_setCommencement_52 : decode m_sc_setCommencement.2.2.1 52 = .ok (.iastore, 1) := by decide +kernel
theorem d_sc_setCommencement_53 : decode m_sc_setCommencement.2.2.1 53 = .ok (.iload_n 3, 1) := by decide +kernel
theorem d_sc_setCommencement_54 : decode m_sc_setCommencement.2.2.1 54 = .ok (.ireturn, 1) := by decide +kernel
theorem d_sc_removeLastAmendment_0 : decode m_sc_removeLastAmendment.2.2.1 0 = .ok (.aload_n 0, 1) := by decide +kernel
theorem d_sc_removeLastAmendment_1 : decode m_sc_removeLastAmendment.2.2.1 1 = .ok (.getfield 12, 3) := by decide +kernel
theorem d_sc_removeLastAmendment_4 : decode m_sc_removeLastAmendment.2.2.1 4 = .ok (.getfield 107, 3) := by decide +kernel
theorem d_sc_removeLastAmendment_7 : decode m_sc_removeLastAmendment.2.2.1 7 = .ok (.getfield 111, 3) := by decide +kernel
theorem d_sc_removeLastAmendment_10 : decode m_sc_removeLastAmendment.2.2.1 10 = .ok (.ifCond .ne 6, 3) := by decide +kernel
theorem d_sc_removeLastAmendment_13 : decode m_sc_removeLastAmendment.2.2.1 13 = .ok (.bipush (-9), 2) := by decide +kernel
theorem d_sc_removeLastAmendment_15 : decode m_sc_removeLastAmendment.2.2.1 15 = .ok (.ireturn, 1) := by decide +kernel
theorem d_sc_removeLastAmendment_16 : decode m_sc_removeLastAmendment.2.2.1 16 = .ok (.aload_n 0, 1) := by decide +kernel
theorem d_sc_removeLastAmendment_17 : decode m_sc_removeLastAmendment.2.2.1 17 = .ok (.getfield 12, 3) := by decide +kernel
theorem d_sc_removeLastAmendment_20 : decode m_sc_removeLastAmendment.2.2.1 20 = .ok (.getfield 107, 3) := by decide +kernel
theorem d_sc_removeLastAmendment_23 : decode m_sc_removeLastAmendment.2.2.1 23 = .ok (.dup, 1) := by decide +kernel
theorem d_sc_removeLastAmendment_24 : decode m_sc_removeLastAmendment.2.2.1 24 = .ok (.getfield 111, 3) := by decide +kernel
theorem d_sc_removeLastAmendment_27 : decode m_sc_removeLastAmendment.2.2.1 27 = .ok (.iconst 1, 1) := by decide +kernel
theorem d_sc_removeLastAmendment_28 : decode m_sc_removeLastAmendment.2.2.1 28 = .ok (.isub, 1) := by decide +kernel
theorem d_sc_removeLastAmendment_29 : decode m_sc_removeLastAmendment.2.2.1 29 = .ok (.putfield 111, 3) := by decide +kernel
theorem d_sc_removeLastAmendment_32 : decode m_sc_removeLastAmendment.2.2.1 32 = .ok (.aload_n 0, 1) := by decide +kernel
theorem d_sc_removeLastAmendment_33 : decode m_sc_removeLastAmendment.2.2.1 33 = .ok (.getfield 12, 3) := by decide +kernel
theorem d_sc_removeLastAmendment_36 : decode m_sc_removeLastAmendment.2.2.1 36 = .ok (.getfield 107, 3) := by decide +kernel
theorem d_sc_removeLastAmendment_39 : decode m_sc_removeLastAmendment.2.2.1 39 = .ok (.getfield 111, 3) := by decide +kernel
theorem d_sc_removeLastAmendment_42 : decode m_sc_removeLastAmendment.2.2.1 42 = .ok (.ireturn, 1) := by decide +kernel
theorem d_sc_provisionCount_0 : decode m_sc_provisionCount.2.2.1 0 = .ok (.aload_n 0, 1) := by decide +kernel
theorem d_sc_provisionCount_1 : decode m_sc_provisionCount.2.2.1 1 = .ok (.getfield 40, 3) := by decide +kernel
theorem d_sc_provisionCount_4 : decode m_sc_provisionCount.2.2.1 4 = .ok (.aload_n 0, 1) := by decide +kernel
theorem d_sc_provisionCount_5 : decode m_sc_provisionCount.2.2.1 5 = .ok (.getfield 12, 3) := by decide +kernel
theorem d_sc_provisionCount_8 : decode m_sc_provisionCount.2.2.1 8 = .ok (.iload_n 1, 1) := by decide +kernel
theorem d_sc_provisionCount_9 : decode m_sc_provisionCount.2.2.1 9 = .ok (.invokevirtual 138, 3) := by decide +kernel
theorem d_sc_provisionCount_12 : decode m_sc_provisionCount.2.2.1 12 = .ok (.ifCond .ne 6, 3) := by decide +kernel
theorem d_sc_provisionCount_15 : decode m_sc_provisionCount.2.2.1 15 = .ok (.bipush (-4), 2) := by decide +kernel
theorem d_sc_provisionCount_17 : decode m_sc_provisionCount.2.2.1 17 = .ok (.ireturn, 1) := by decide +kernel
theorem d_sc_provisionCount_18 : decode m_sc_provisionCount.2.2.1 18 = .ok (.aload_n 0, 1) := by decide +kernel
theorem d_sc_provisionCount_19 : decode m_sc_provisionCount.2.2.1 19 = .ok (.getfield 40, 3) := by decide +kernel
theorem d_sc_provisionCount_22 : decode m_sc_provisionCount.2.2.1 22 = .ok (.getfield 142, 3) := by decide +kernel
theorem d_sc_provisionCount_25 : decode m_sc_provisionCount.2.2.1 25 = .ok (.getfield 68, 3) := by decide +kernel
theorem d_sc_provisionCount_28 : decode m_sc_provisionCount.2.2.1 28 = .ok (.ireturn, 1) := by decide +kernel
theorem d_sc_levelAt_0 : decode m_sc_levelAt.2.2.1 0 = .ok (.aload_n 0, 1) := by decide +kernel
theorem d_sc_levelAt_1 : decode m_sc_levelAt.2.2.1 1 = .ok (.iload_n 1, 1) := by decide +kernel
theorem d_sc_levelAt_2 : decode m_sc_levelAt.2.2.1 2 = .ok (.iload_n 2, 1) := by decide +kernel
theorem d_sc_levelAt_3 : decode m_sc_levelAt.2.2.1 3 = .ok (.invokevirtual 145, 3) := by decide +kernel
theorem d_sc_levelAt_6 : decode m_sc_levelAt.2.2.1 6 = .ok (.istore_n 3, 1) := by decide +kernel
theorem d_sc_levelAt_7 : decode m_sc_levelAt.2.2.1 7 = .ok (.iload_n 3, 1) := by decide +kernel
theorem d_sc_levelAt_8 : decode m_sc_levelAt.2.2.1 8 = .ok (.ifCond .eq 7, 3) := by decide +kernel
theorem d_sc_levelAt_11 : decode m_sc_levelAt.2.2.1 11 = .ok (.iload_n 3, 1) := by decide +kernel
theorem d_sc_levelAt_12 : decode m_sc_levelAt.2.2.1 12 = .ok (.goto 18, 3) := by decide +kernel
theorem d_sc_levelAt_15 : decode m_sc_levelAt.2.2.1 15 = .ok (.aload_n 0, 1) := by decide +kernel
theorem d_sc_levelAt_16 : decode m_sc_levelAt.2.2.1 16 = .ok (.getfield 40, 3) := by decide +kernel
theorem d_sc_levelAt_19 : decode m_sc_levelAt.2.2.1 19 = .ok (.getfield 142, 3) := by decide +kernel
theorem d_sc_levelAt_22 : decode m_sc_levelAt.2.2.1 22 = .ok (.getfield 149, 3) := by decide +kernel
theorem d_sc_levelAt_25 : decode m_sc_levelAt.2.2.1 25 = .ok (.iload_n 2, 1) := by decide +kernel
theorem d_sc_levelAt_26 : decode m_sc_levelAt.2.2.1 26 = .ok (.laload, 1) := by decide +kernel
theorem d_sc_levelAt_27 : decode m_sc_levelAt.2.2.1 27 = .ok (.invokestatic 60, 3) := by decide +kernel
theorem d_sc_levelAt_30 : decode m_sc_levelAt.2.2.1 30 = .ok (.ireturn, 1) := by decide +kernel
theorem d_sc_textAt_0 : decode m_sc_textAt.2.2.1 0 = .ok (.aload_n 0, 1) := by decide +kernel
theorem d_sc_textAt_1 : decode m_sc_textAt.2.2.1 1 = .ok (.iload_n 1, 1) := by decide +kernel
theorem d_sc_textAt_2 : decode m_sc_textAt.2.2.1 2 = .ok (.iload_n 2, 1) := by decide +kernel
theorem d_sc_textAt_3 : decode m_sc_textAt.2.2.1 3 = .ok (.invokevirtual 145, 3) := by decide +kernel
theorem d_sc_textAt_6 : decode m_sc_textAt.2.2.1 6 = .ok (.istore_n 3, 1) := by decide +kernel
theorem d_sc_textAt_7 : decode m_sc_textAt.2.2.1 7 = .ok (.iload_n 3, 1) := by decide +kernel
theorem d_sc_textAt_8 : decode m_sc_textAt.2.2.1 8 = .ok (.ifCond .eq 7, 3) := by decide +kernel
theorem d_sc_textAt_11 : decode m_sc_textAt.2.2.1 11 = .ok (.iload_n 3, 1) := by decide +kernel
theorem d_sc_textAt_12 : decode m_sc_textAt.2.2.1 12 = .ok (.goto 15, 3) := by decide +kernel
theorem d_sc_textAt_15 : decode m_sc_textAt.2.2.1 15 = .ok (.aload_n 0, 1) := by decide +kernel
theorem d_sc_textAt_16 : decode m_sc_textAt.2.2.1 16 = .ok (.getfield 40, 3) := by decide +kernel
theorem d_sc_textAt_19 : decode m_sc_textAt.2.2.1 19 = .ok (.getfield 142, 3) := by decide +kernel
theorem d_sc_textAt_22 : decode m_sc_textAt.2.2.1 22 = .ok (.getfield 96, 3) := by decide +kernel
theorem d_sc_textAt_25 : decode m_sc_textAt.2.2.1 25 = .ok (.iload_n 2, 1) := by decide +kernel
theorem d_sc_textAt_26 : decode m_sc_textAt.2.2.1 26 = .ok (.iaload, 1) := by decide +kernel
theorem d_sc_textAt_27 : decode m_sc_textAt.2.2.1 27 = .ok (.ireturn, 1) := by decide +kernel
theorem d_sc_isRepealedAt_0 : decode m_sc_isRepealedAt.2.2.1 0 = .ok (.aload_n 0, 1) := by decide +kernel
theorem d_sc_isRepealedAt_1 : decode m_sc_isRepealedAt.2.2.1 1 = .ok (.iload_n 1, 1) := by decide +kernel
theorem d_sc_isRepealedAt_2 : decode m_sc_isRepealedAt.2.2.1 2 = .ok (.iload_n 2, 1) := by decide +kernel
theorem d_sc_isRepealedAt_3 : decode m_sc_isRepealedAt.2.2.1 3 = .ok (.invokevirtual 145, 3) := by decide +kernel
theorem d_sc_isRepealedAt_6 : decode m_sc_isRepealedAt.2.2.1 6 = .ok (.istore_n 3, 1) := by decide +kernel
theorem d_sc_isRepealedAt_7 : decode m_sc_isRepealedAt.2.2.1 7 = .ok (.iload_n 3, 1) := by decide +kernel
theorem d_sc_isRepealedAt_8 : decode m_sc_isRepealedAt.2.2.1 8 = .ok (.ifCond .eq 5, 3) := by decide +kernel
theorem d_sc_isRepealedAt_11 : decode m_sc_isRepealedAt.2.2.1 11 = .ok (.iload_n 3, 1) := by decide +kernel
theorem d_sc_isRepealedAt_12 : decode m_sc_isRepealedAt.2.2.1 12 = .ok (.ireturn, 1) := by decide +kernel
theorem d_sc_isRepealedAt_13 : decode m_sc_isRepealedAt.2.2.1 13 = .ok (.aload_n 0, 1) := by decide +kernel
theorem d_sc_isRepealedAt_14 : decode m_sc_isRepealedAt.2.2.1 14 = .ok (.getfield 40, 3) := by decide +kernel
theorem d_sc_isRepealedAt_17 : decode m_sc_isRepealedAt.2.2.1 17 = .ok (.getfield 142, 3) := by decide +kernel
theorem d_sc_isRepealedAt_20 : decode m_sc_isRepealedAt.2.2.1 20 = .ok (.getfield 153, 3) := by decide +kernel
theorem d_sc_isRepealedAt_23 : decode m_sc_isRepealedAt.2.2.1 23 = .ok (.iload_n 2, 1) := by decide +kernel
theorem d_sc_isRepealedAt_24 : decode m_sc_isRepealedAt.2.2.1 24 = .ok (.baload, 1) := by decide +kernel
theorem d_sc_isRepealedAt_25 : decode m_sc_isRepealedAt.2.2.1 25 = .ok (.ifCond .eq 7, 3) := by decide +kernel
theorem d_sc_isRepealedAt_28 : decode m_sc_isRepealedAt.2.2.1 28 = .ok (.iconst 1, 1) := by decide +kernel
theorem d_sc_isRepealedAt_29 : decode m_sc_isRepealedAt.2.2.1 29 = .ok (.goto 4, 3) := by decide +kernel
theorem d_sc_isRepealedAt_32 : decode m_sc_isRepealedAt.2.2.1 32 = .ok (.iconst 0, 1) := by decide +kernel
theorem d_sc_isRepealedAt_33 : decode m_sc_isRepealedAt.2.2.1 33 = .ok (.ireturn, 1) := by decide +kernel
theorem d_sc_pathLengthAt_0 : decode m_sc_pathLengthAt.2.2.1 0 = .ok (.aload_n 0, 1) := by decide +kernel
theorem d_sc_pathLengthAt_1 : decode m_sc_pathLengthAt.2.2.1 1 = .ok (.iload_n 1, 1) := by decide +kernel
theorem d_sc_pathLengthAt_2 : decode m_sc_pathLengthAt.2.2.1 2 = .ok (.iload_n 2, 1) := by decide +kernel
theorem d_sc_pathLengthAt_3 : decode m_sc_pathLengthAt.2.2.1 3 = .ok (.invokevirtual 145, 3) := by decide +kernel
theorem d_sc_pathLengthAt_6 : decode m_sc_pathLengthAt.2.2.1 6 = .ok (.istore_n 3, 1) := by decide +kernel
theorem d_sc_pathLengthAt_7 : decode m_sc_pathLengthAt.2.2.1 7 = .ok (.iload_n 3, 1) := by decide +kernel
theorem d_sc_pathLengthAt_8 : decode m_sc_pathLengthAt.2.2.1 8 = .ok (.ifCond .eq 7, 3) := by decide +kernel
theorem d_sc_pathLengthAt_11 : decode m_sc_pathLengthAt.2.2.1 11 = .ok (.iload_n 3, 1) := by decide +kernel
theorem d_sc_pathLengthAt_12 : decode m_sc_pathLengthAt.2.2.1 12 = .ok (.goto 18, 3) := by decide +kernel
theorem d_sc_pathLengthAt_15 : decode m_sc_pathLengthAt.2.2.1 15 = .ok (.aload_n 0, 1) := by decide +kernel
theorem d_sc_pathLengthAt_16 : decode m_sc_pathLengthAt.2.2.1 16 = .ok (.getfield 40, 3) := by decide +kernel
theorem d_sc_pathLengthAt_19 : decode m_sc_pathLengthAt.2.2.1 19 = .ok (.getfield 142, 3) := by decide +kernel
theorem d_sc_pathLengthAt_22 : decode m_sc_pathLengthAt.2.2.1 22 = .ok (.getfield 149, 3) := by decide +kernel
theorem d_sc_pathLengthAt_25 : decode m_sc_pathLengthAt.2.2.1 25 = .ok (.iload_n 2, 1) := by decide +kernel
theorem d_sc_pathLengthAt_26 : decode m_sc_pathLengthAt.2.2.1 26 = .ok (.laload, 1) := by decide +kernel
theorem d_sc_pathLengthAt_27 : decode m_sc_pathLengthAt.2.2.1 27 = .ok (.invokestatic 157, 3) := by decide +kernel
theorem d_sc_pathLengthAt_30 : decode m_sc_pathLengthAt.2.2.1 30 = .ok (.ireturn, 1) := by decide +kernel
theorem d_sc_pathCharacterAt_0 : decode m_sc_pathCharacterAt.2.2.1 0 = .ok (.aload_n 0, 1) := by decide +kernel
theorem d_sc_pathCharacterAt_1 : decode m_sc_pathCharacterAt.2.2.1 1 = .ok (.iload_n 1, 1) := by decide +kernel
theorem d_sc_pathCharacterAt_2 : decode m_sc_pathCharacterAt.2.2.1 2 = .ok (.iload_n 2, 1) := by decide +kernel
theorem d_sc_pathCharacterAt_3 : decode m_sc_pathCharacterAt.2.2.1 3 = .ok (.invokevirtual 145, 3) := by decide +kernel
theorem d_sc_pathCharacterAt_6 : decode m_sc_pathCharacterAt.2.2.1 6 = .ok (.istore 4, 2) := by decide +kernel
theorem d_sc_pathCharacterAt_8 : decode m_sc_pathCharacterAt.2.2.1 8 = .ok (.iload 4, 2) := by decide +kernel
theorem d_sc_pathCharacterAt_10 : decode m_sc_pathCharacterAt.2.2.1 10 = .ok (.ifCond .eq 8, 3) := by decide +kernel
theorem d_sc_pathCharacterAt_13 : decode m_sc_pathCharacterAt.2.2.1 13 = .ok (.iload 4, 2) := by decide +kernel
theorem d_sc_pathCharacterAt_15 : decode m_sc_pathCharacterAt.2.2.1 15 = .ok (.goto 19, 3) := by decide +kernel
theorem d_sc_pathCharacterAt_18 : decode m_sc_pathCharacterAt.2.2.1 18 = .ok (.aload_n 0, 1) := by decide +kernel
theorem d_sc_pathCharacterAt_19 : decode m_sc_pathCharacterAt.2.2.1 19 = .ok (.getfield 40, 3) := by decide +kernel
theorem d_sc_pathCharacterAt_22 : decode m_sc_pathCharacterAt.2.2.1 22 = .ok (.getfield 142, 3) := by decide +kernel
theorem d_sc_pathCharacterAt_25 : decode m_sc_pathCharacterAt.2.2.1 25 = .ok (.getfield 149, 3) := by decide +kernel
theorem d_sc_pathCharacterAt_28 : decode m_sc_pathCharacterAt.2.2.1 28 = .ok (.iload_n 2, 1) := by decide +kernel
theorem d_sc_pathCharacterAt_29 : decode m_sc_pathCharacterAt.2.2.1 29 = .ok (.laload, 1) := by decide +kernel
theorem d_sc_pathCharacterAt_30 : decode m_sc_pathCharacterAt.2.2.1 30 = .ok (.iload_n 3, 1) := by decide +kernel
theorem d_sc_pathCharacterAt_31 : decode m_sc_pathCharacterAt.2.2.1 31 = .ok (.invokestatic 160, 3) := by decide +kernel
theorem d_sc_pathCharacterAt_34 : decode m_sc_pathCharacterAt.2.2.1 34 = .ok (.ireturn, 1) := by decide +kernel
theorem d_sc_originAt_0 : decode m_sc_originAt.2.2.1 0 = .ok (.aload_n 0, 1) := by decide +kernel
theorem d_sc_originAt_1 : decode m_sc_originAt.2.2.1 1 = .ok (.iload_n 1, 1) := by decide +kernel
theorem d_sc_originAt_2 : decode m_sc_originAt.2.2.1 2 = .ok (.iload_n 2, 1) := by decide +kernel
theorem d_sc_originAt_3 : decode m_sc_originAt.2.2.1 3 = .ok (.invokevirtual 145, 3) := by decide +kernel
theorem d_sc_originAt_6 : decode m_sc_originAt.2.2.1 6 = .ok (.istore_n 3, 1) := by decide +kernel
theorem d_sc_originAt_7 : decode m_sc_originAt.2.2.1 7 = .ok (.iload_n 3, 1) := by decide +kernel
theorem d_sc_originAt_8 : decode m_sc_originAt.2.2.1 8 = .ok (.ifCond .eq 7, 3) := by decide +kernel
theorem d_sc_originAt_11 : decode m_sc_originAt.2.2.1 11 = .ok (.iload_n 3, 1) := by decide +kernel
theorem d_sc_originAt_12 : decode m_sc_originAt.2.2.1 12 = .ok (.goto 15, 3) := by decide +kernel
theorem d_sc_originAt_15 : decode m_sc_originAt.2.2.1 15 = .ok (.aload_n 0, 1) := by decide +kernel
theorem d_sc_originAt_16 : decode m_sc_originAt.2.2.1 16 = .ok (.getfield 40, 3) := by decide +kernel
theorem d_sc_originAt_19 : decode m_sc_originAt.2.2.1 19 = .ok (.getfield 142, 3) := by decide +kernel
theorem d_sc_originAt_22 : decode m_sc_originAt.2.2.1 22 = .ok (.getfield 163, 3) := by decide +kernel
theorem d_sc_originAt_25 : decode m_sc_originAt.2.2.1 25 = .ok (.iload_n 2, 1) := by decide +kernel
theorem d_sc_originAt_26 : decode m_sc_originAt.2.2.1 26 = .ok (.iaload, 1) := by decide +kernel
theorem d_sc_originAt_27 : decode m_sc_originAt.2.2.1 27 = .ok (.ireturn, 1) := by decide +kernel
theorem d_sc_creatorAt_0 : decode m_sc_creatorAt.2.2.1 0 = .ok (.aload_n 0, 1) := by decide +kernel
theorem d_sc_creatorAt_1 : decode m_sc_creatorAt.2.2.1 1 = .ok (.iload_n 1, 1) := by decide +kernel
theorem d_sc_creatorAt_2 : decode m_sc_creatorAt.2.2.1 2 = .ok (.iload_n 2, 1) := by decide +kernel
theorem d_sc_creatorAt_3 : decode m_sc_creatorAt.2.2.1 3 = .ok (.invokevirtual 145, 3) := by decide +kernel
theorem d_sc_creatorAt_6 : decode m_sc_creatorAt.2.2.1 6 = .ok (.istore_n 3, 1) := by decide +kernel
theorem d_sc_creatorAt_7 : decode m_sc_creatorAt.2.2.1 7 = .ok (.iload_n 3, 1) := by decide +kernel
theorem d_sc_creatorAt_8 : decode m_sc_creatorAt.2.2.1 8 = .ok (.ifCond .eq 7, 3) := by decide +kernel
theorem d_sc_creatorAt_11 : decode m_sc_creatorAt.2.2.1 11 = .ok (.iload_n 3, 1) := by decide +kernel
theorem d_sc_creatorAt_12 : decode m_sc_creatorAt.2.2.1 12 = .ok (.goto 15, 3) := by decide +kernel
theorem d_sc_creatorAt_15 : decode m_sc_creatorAt.2.2.1 15 = .ok (.aload_n 0, 1) := by decide +kernel
theorem d_sc_creatorAt_16 : decode m_sc_creatorAt.2.2.1 16 = .ok (.getfield 40, 3) := by decide +kernel
theorem d_sc_creatorAt_19 : decode m_sc_creatorAt.2.2.1 19 = .ok (.getfield 142, 3) := by decide +kernel
theorem d_sc_creatorAt_22 : decode m_sc_creatorAt.2.2.1 22 = .ok (.getfield 166, 3) := by decide +kernel
theorem d_sc_creatorAt_25 : decode m_sc_creatorAt.2.2.1 25 = .ok (.iload_n 2, 1) := by decide +kernel
theorem d_sc_creatorAt_26 : decode m_sc_creatorAt.2.2.1 26 = .ok (.iaload, 1) := by decide +kernel
theorem d_sc_creatorAt_27 : decode m_sc_creatorAt.2.2.1 27 = .ok (.ireturn, 1) := by decide +kernel
theorem d_sc_find_0 : decode m_sc_find.2.2.1 0 = .ok (.aload_n 0, 1) := by decide +kernel
theorem d_sc_find_1 : decode m_sc_find.2.2.1 1 = .ok (.getfield 26, 3) := by decide +kernel
theorem d_sc_find_4 : decode m_sc_find.2.2.1 4 = .ok (.invokevirtual 169, 3) := by decide +kernel
theorem d_sc_find_7 : decode m_sc_find.2.2.1 7 = .ok (.lstore_n 2, 1) := by decide +kernel
theorem d_sc_find_8 : decode m_sc_find.2.2.1 8 = .ok (.aload_n 0, 1) := by decide +kernel
theorem d_sc_find_9 : decode m_sc_find.2.2.1 9 = .ok (.getfield 26, 3) := by decide +kernel
theorem d_sc_find_12 : decode m_sc_find.2.2.1 12 = .ok (.iconst 0, 1) := by decide +kernel
theorem d_sc_find_13 : decode m_sc_find.2.2.1 13 = .ok (.putfield 117, 3) := by decide +kernel
theorem d_sc_find_16 : decode m_sc_find.2.2.1 16 = .ok (.aload_n 0, 1) := by decide +kernel
theorem d_sc_find_17 : decode m_sc_find.2.2.1 17 = .ok (.getfield 40, 3) := by decide +kernel
theorem d_sc_find_20 : decode m_sc_find.2.2.1 20 = .ok (.aload_n 0, 1) := by decide +kernel
theorem d_sc_find_21 : decode m_sc_find.2.2.1 21 = .ok (.getfield 12, 3) := by decide +kernel
theorem d_sc_find_24 : decode m_sc_find.2.2.1 24 = .ok (.iload_n 1, 1) := by decide +kernel
theorem d_sc_find_25 : decode m_sc_find.2.2.1 25 = .ok (.invokevirtual 138, 3) := by decide +kernel
theorem d_sc_find_28 : decode m_sc_find.2.2.1 28 = .ok (.ifCond .ne 6, 3) := by decide +kernel
theorem d_sc_find_31 : decode m_sc_find.2.2.1 31 = .ok (.bipush (-4), 2) := by decide +kernel
theorem d_sc_find_33 : decode m_sc_find.2.2.1 33 = .ok (.ireturn, 1) := by decide +kernel
theorem d_sc_find_34 : decode m_sc_find.2.2.1 34 = .ok (.lload_n 2, 1) := by decide +kernel
theorem d_sc_find_35 : decode m_sc_find.2.2.1 35 = .ok (.lconst 0, 1) := by decide +kernel
theorem d_sc_find_36 : decode m_sc_find.2.2.1 36 = .ok (.lcmp, 1) := by decide +kernel
theorem d_sc_find_37 : decode m_sc_find.2.2.1 37 = .ok (.ifCond .ne 15, 3) := by decide +kernel
theorem d_sc_find_40 : decode m_sc_find.2.2.1 40 = .ok (.sipush (-1000), 3) := by decide +kernel
theorem d_sc_find_43 : decode m_sc_find.2.2.1 43 = .ok (.aload_n 0, 1) := by decide +kernel
theorem d_sc_find_44 : decode m_sc_find.2.2.1 44 = .ok (.getfield 26, 3) := by decide +kernel
theorem d_sc_find_47 : decode m_sc_find.2.2.1 47 = .ok (.getfield 173, 3) := by decide +kernel
theorem d_sc_find_50 : decode m_sc_find.2.2.1 50 = .ok (.isub, 1) := by decide +kernel
theorem d_sc_find_51 : decode m_sc_find.2.2.1 51 = .ok (.ireturn, 1) := by decide +kernel
theorem d_sc_find_52 : decode m_sc_find.2.2.1 52 = .ok (.aload_n 0, 1) := by decide +kernel
theorem d_sc_find_53 : decode m_sc_find.2.2.1 53 = .ok (.getfield 40, 3) := by decide +kernel
theorem d_sc_find_56 : decode m_sc_find.2.2.1 56 = .ok (.getfield 142, 3) := by decide +kernel
theorem d_sc_find_59 : decode m_sc_find.2.2.1 59 = .ok (.lload_n 2, 1) := by decide +kernel
theorem d_sc_find_60 : decode m_sc_find.2.2.1 60 = .ok (.invokevirtual 176, 3) := by decide +kernel
theorem d_sc_find_63 : decode m_sc_find.2.2.1 63 = .ok (.istore 4, 2) := by decide +kernel
theorem d_sc_find_65 : decode m_sc_find.2.2.1 65 = .ok (.iload 4, 2) := by decide +kernel
theorem d_sc_find_67 : decode m_sc_find.2.2.1 67 = .ok (.ifCond .ge 8, 3) := by decide +kernel
theorem d_sc_find_70 : decode m_sc_find.2.2.1 70 = .ok (.bipush (-9), 2) := by decide +kernel
theorem d_sc_find_72 : decode m_sc_find.2.2.1 72 = .ok (.goto 5, 3) := by decide +kernel
theorem d_sc_find_75 : decode m_sc_find.2.2.1 75 = .ok (.iload 4, 2) := by decide +kernel
theorem d_sc_find_77 : decode m_sc_find.2.2.1 77 = .ok (.ireturn, 1) := by decide +kernel
theorem d_sc_firstDifference_0 : decode m_sc_firstDifference.2.2.1 0 = .ok (.aload_n 0, 1) := by decide +kernel
theorem d_sc_firstDifference_1 : decode m_sc_firstDifference.2.2.1 1 = .ok (.getfield 40, 3) := by decide +kernel
theorem d_sc_firstDifference_4 : decode m_sc_firstDifference.2.2.1 4 = .ok (.aload_n 0, 1) := by decide +kernel
theorem d_sc_firstDifference_5 : decode m_sc_firstDifference.2.2.1 5 = .ok (.getfield 12, 3) := by decide +kernel
theorem d_sc_firstDifference_8 : decode m_sc_firstDifference.2.2.1 8 = .ok (.iload_n 1, 1) := by decide +kernel
theorem d_sc_firstDifference_9 : decode m_sc_firstDifference.2.2.1 9 = .ok (.invokevirtual 138, 3) := by decide +kernel
theorem d_sc_firstDifference_12 : decode m_sc_firstDifference.2.2.1 12 = .ok (.ifCond .eq 18, 3) := by decide +kernel
theorem d_sc_firstDifference_15 : decode m_sc_firstDifference.2.2.1 15 = .ok (.aload_n 0, 1) := by decide +kernel
theorem d_sc_firstDifference_16 : decode m_sc_firstDifference.2.2.1 16 = .ok (.getfield 44, 3) := by decide +kernel
theorem d_sc_firstDifference_19 : decode m_sc_firstDifference.2.2.1 19 = .ok (.aload_n 0, 1) := by decide +kernel
theorem d_sc_firstDifference_20 : decode m_sc_firstDifference.2.2.1 20 = .ok (.getfield 12, 3) := by decide +kernel
theorem d_sc_firstDifference_23 : decode m_sc_firstDifference.2.2.1 23 = .ok (.iload_n 2, 1) := by decide +kernel
theorem d_sc_firstDifference_24 : decode m_sc_firstDifference.2.2.1 24 = .ok (.invokevirtual 138, 3) := by decide +kernel
theorem d_sc_firstDifference_27 : decode m_sc_firstDifference.2.2.1 27 = .ok (.ifCond .ne 6, 3) := by decide +kernel
theorem d_sc_firstDifference_30 : decode m_sc_firstDifference.2.2.1 30 = .ok (.bipush (-4), 2) := by decide +kernel
theorem d_sc_firstDifference_32 : decode m_sc_firstDifference.2.2.1 32 = .ok (.ireturn, 1) := by decide +kernel
theorem d_sc_firstDifference_33 : decode m_sc_firstDifference.2.2.1 33 = .ok (.aload_n 0, 1) := by decide +kernel
theorem d_sc_firstDifference_34 : decode m_sc_firstDifference.2.2.1 34 = .ok (.getfield 40, 3) := by decide +kernel
theorem d_sc_firstDifference_37 : decode m_sc_firstDifference.2.2.1 37 = .ok (.getfield 142, 3) := by decide +kernel
theorem d_sc_firstDifference_40 : decode m_sc_firstDifference.2.2.1 40 = .ok (.aload_n 0, 1) := by decide +kernel
theorem d_sc_firstDifference_41 : decode m_sc_firstDifference.2.2.1 41 = .ok (.getfield 44, 3) := by decide +kernel
theorem d_sc_firstDifference_44 : decode m_sc_firstDifference.2.2.1 44 = .ok (.getfield 142, 3) := by decide +kernel
theorem d_sc_firstDifference_47 : decode m_sc_firstDifference.2.2.1 47 = .ok (.invokevirtual 179, 3) := by decide +kernel
theorem d_sc_firstDifference_50 : decode m_sc_firstDifference.2.2.1 50 = .ok (.ireturn, 1) := by decide +kernel
theorem d_sc_referenceCountAt_0 : decode m_sc_referenceCountAt.2.2.1 0 = .ok (.aload_n 0, 1) := by decide +kernel
theorem d_sc_referenceCountAt_1 : decode m_sc_referenceCountAt.2.2.1 1 = .ok (.iload_n 1, 1) := by decide +kernel
theorem d_sc_referenceCountAt_2 : decode m_sc_referenceCountAt.2.2.1 2 = .ok (.iload_n 2, 1) := by decide +kernel
theorem d_sc_referenceCountAt_3 : decode m_sc_referenceCountAt.2.2.1 3 = .ok (.invokevirtual 145, 3) := by decide +kernel
theorem d_sc_referenceCountAt_6 : decode m_sc_referenceCountAt.2.2.1 6 = .ok (.istore_n 3, 1) := by decide +kernel
theorem d_sc_referenceCountAt_7 : decode m_sc_referenceCountAt.2.2.1 7 = .ok (.iload_n 3, 1) := by decide +kernel
theorem d_sc_referenceCountAt_8 : decode m_sc_referenceCountAt.2.2.1 8 = .ok (.ifCond .eq 7, 3) := by decide +kernel
theorem d_sc_referenceCountAt_11 : decode m_sc_referenceCountAt.2.2.1 11 = .ok (.iload_n 3, 1) := by decide +kernel
theorem d_sc_referenceCountAt_12 : decode m_sc_referenceCountAt.2.2.1 12 = .ok (.goto 22, 3) := by decide +kernel
theorem d_sc_referenceCountAt_15 : decode m_sc_referenceCountAt.2.2.1 15 = .ok (.aload_n 0, 1) := by decide +kernel
theorem d_sc_referenceCountAt_16 : decode m_sc_referenceCountAt.2.2.1 16 = .ok (.getfield 12, 3) := by decide +kernel
theorem d_sc_referenceCountAt_19 : decode m_sc_referenceCountAt.2.2.1 19 = .ok (.aload_n 0, 1) := by decide +kernel
theorem d_sc_referenceCountAt_20 : decode m_sc_referenceCountAt.2.2.1 20 = .ok (.getfield 40, 3) := by decide +kernel
theorem d_sc_referenceCountAt_23 : decode m_sc_referenceCountAt.2.2.1 23 = .ok (.getfield 142, 3) := by decide +kernel
theorem d_sc_referenceCountAt_26 : decode m_sc_referenceCountAt.2.2.1 26 = .ok (.getfield 163, 3) := by decide +kernel
theorem d_sc_referenceCountAt_29 : decode m_sc_referenceCountAt.2.2.1 29 = .ok (.iload_n 2, 1) := by decide +kernel
theorem d_sc_referenceCountAt_30 : decode m_sc_referenceCountAt.2.2.1 30 = .ok (.iaload, 1) := by decide +kernel
theorem d_sc_referenceCountAt_31 : decode m_sc_referenceCountAt.2.2.1 31 = .ok (.invokevirtual 183, 3) := by decide +kernel
theorem d_sc_referenceCountAt_34 : decode m_sc_referenceCountAt.2.2.1 34 = .ok (.ireturn, 1) := by decide +kernel
theorem d_sc_referenceAt_0 : decode m_sc_referenceAt.2.2.1 0 = .ok (.aload_n 0, 1) := by decide +kernel
theorem d_sc_referenceAt_1 : decode m_sc_referenceAt.2.2.1 1 = .ok (.iload_n 1, 1) := by decide +kernel
theorem d_sc_referenceAt_2 : decode m_sc_referenceAt.2.2.1 2 = .ok (.iload_n 2, 1) := by decide +kernel
theorem d_sc_referenceAt_3 : decode m_sc_referenceAt.2.2.1 3 = .ok (.invokevirtual 145, 3) := by decide +kernel
theorem d_sc_referenceAt_6 : decode m_sc_referenceAt.2.2.1 6 = .ok (.istore 4, 2) := by decide +kernel
theorem d_sc_referenceAt_8 : decode m_sc_referenceAt.2.2.1 8 = .ok (.iload 4, 2) := by decide +kernel
theorem d_sc_referenceAt_10 : decode m_sc_referenceAt.2.2.1 10 = .ok (.ifCond .eq 6, 3) := by decide +kernel
theorem d_sc_referenceAt_13 : decode m_sc_referenceAt.2.2.1 13 = .ok (.iload 4, 2) := by decide +kernel
theorem d_sc_referenceAt_15 : decode m_sc_referenceAt.2.2.1 15 = .ok (.ireturn, 1) := by decide +kernel
theorem d_sc_referenceAt_16 : decode m_sc_referenceAt.2.2.1 16 = .ok (.aload_n 0, 1) := by decide +kernel
theorem d_sc_referenceAt_17 : decode m_sc_referenceAt.2.2.1 17 = .ok (.getfield 40, 3) := by decide +kernel
theorem d_sc_referenceAt_20 : decode m_sc_referenceAt.2.2.1 20 = .ok (.getfield 142, 3) := by decide +kernel
theorem d_sc_referenceAt_23 : decode m_sc_referenceAt.2.2.1 23 = .ok (.getfield 163, 3) := by decide +kernel
theorem d_sc_referenceAt_26 : decode m_sc_referenceAt.2.2.1 26 = .ok (.iload_n 2, 1) := by decide +kernel
theorem d_sc_referenceAt_27 : decode m_sc_referenceAt.2.2.1 27 = .ok (.iaload, 1) := by decide +kernel
theorem d_sc_referenceAt_28 : decode m_sc_referenceAt.2.2.1 28 = .ok (.istore 5, 2) := by decide +kernel
theorem d_sc_referenceAt_30 : decode m_sc_referenceAt.2.2.1 30 = .ok (.iload_n 3, 1) := by decide +kernel
theorem d_sc_referenceAt_31 : decode m_sc_referenceAt.2.2.1 31 = .ok (.ifCond .lt 16, 3) := by decide +kernel
theorem d_sc_referenceAt_34 : decode m_sc_referenceAt.2.2.1 34 = .ok (.iload_n 3, 1) := by decide +kernel
theorem d_sc_referenceAt_35 : decode m_sc_referenceAt.2.2.1 35 = .ok (.aload_n 0, 1) := by decide +kernel
theorem d_sc_referenceAt_36 : decode m_sc_referenceAt.2.2.1 36 = .ok (.getfield 12, 3) := by decide +kernel
theorem d_sc_referenceAt_39 : decode m_sc_referenceAt.2.2.1 39 = .ok (.iload 5, 2) := by decide +kernel
theorem d_sc_referenceAt_41 : decode m_sc_referenceAt.2.2.1 41 = .ok (.invokevirtual 183, 3) := by decide +kernel
theorem d_sc_referenceAt_44 : decode m_sc_referenceAt.2.2.1 44 = .ok (.if_icmp .lt 6, 3) := by decide +kernel
theorem d_sc_referenceAt_47 : decode m_sc_referenceAt.2.2.1 47 = .ok (.bipush (-9), 2) := by decide +kernel
theorem d_sc_referenceAt_49 : decode m_sc_referenceAt.2.2.1 49 = .ok (.ireturn, 1) := by decide +kernel
theorem d_sc_referenceAt_50 : decode m_sc_referenceAt.2.2.1 50 = .ok (.aload_n 0, 1) := by decide +kernel
theorem d_sc_referenceAt_51 : decode m_sc_referenceAt.2.2.1 51 = .ok (.getfield 40, 3) := by decide +kernel
theorem d_sc_referenceAt_54 : decode m_sc_referenceAt.2.2.1 54 = .ok (.getfield 142, 3) := by decide +kernel
theorem d_sc_referenceAt_57 : decode m_sc_referenceAt.2.2.1 57 = .ok (.aload_n 0, 1) := by decide +kernel
theorem d_sc_referenceAt_58 : decode m_sc_referenceAt.2.2.1 58 = .ok (.getfield 12, 3) := by decide +kernel
theorem d_sc_referenceAt_61 : decode m_sc_referenceAt.2.2.1 61 = .ok (.getfield 103, 3) := by decide +kernel
theorem d_sc_referenceAt_64 : decode m_sc_referenceAt.2.2.1 64 = .ok (.iload 5, 2) := by decide +kernel
theorem d_sc_referenceAt_66 : decode m_sc_referenceAt.2.2.1 66 = .ok (.aaload, 1) := by decide +kernel
theorem d_sc_referenceAt_67 : decode m_sc_referenceAt.2.2.1 67 = .ok (.iload_n 3, 1) := by decide +kernel
theorem d_sc_referenceAt_68 : decode m_sc_referenceAt.2.2.1 68 = .ok (.iaload, 1) := by decide +kernel
theorem d_sc_referenceAt_69 : decode m_sc_referenceAt.2.2.1 69 = .ok (.invokevirtual 186, 3) := by decide +kernel
theorem d_sc_referenceAt_72 : decode m_sc_referenceAt.2.2.1 72 = .ok (.istore 6, 2) := by decide +kernel
theorem d_sc_referenceAt_74 : decode m_sc_referenceAt.2.2.1 74 = .ok (.iload 6, 2) := by decide +kernel
theorem d_sc_referenceAt_76 : decode m_sc_referenceAt.2.2.1 76 = .ok (.ifCond .ge 8, 3) := by decide +kernel
theorem d_sc_referenceAt_79 : decode m_sc_referenceAt.2.2.1 79 = .ok (.bipush (-10), 2) := by decide +kernel
theorem d_sc_referenceAt_81 : decode m_sc_referenceAt.2.2.1 81 = .ok (.goto 5, 3) := by decide +kernel
theorem d_sc_referenceAt_84 : decode m_sc_referenceAt.2.2.1 84 = .ok (.iload 6, 2) := by decide +kernel
theorem d_sc_referenceAt_86 : decode m_sc_referenceAt.2.2.1 86 = .ok (.ireturn, 1) := by decide +kernel
theorem d_sc_danglingCount_0 : decode m_sc_danglingCount.2.2.1 0 = .ok (.aload_n 0, 1) := by decide +kernel
theorem d_sc_danglingCount_1 : decode m_sc_danglingCount.2.2.1 1 = .ok (.getfield 40, 3) := by decide +kernel
theorem d_sc_danglingCount_4 : decode m_sc_danglingCount.2.2.1 4 = .ok (.aload_n 0, 1) := by decide +kernel
theorem d_sc_danglingCount_5 : decode m_sc_danglingCount.2.2.1 5 = .ok (.getfield 12, 3) := by decide +kernel
theorem d_sc_danglingCount_8 : decode m_sc_danglingCount.2.2.1 8 = .ok (.iload_n 1, 1) := by decide +kernel
theorem d_sc_danglingCount_9 : decode m_sc_danglingCount.2.2.1 9 = .ok (.invokevirtual 138, 3) := by decide +kernel
theorem d_sc_danglingCount_12 : decode m_sc_danglingCount.2.2.1 12 = .ok (.ifCond .ne 6, 3) := by decide +kernel
theorem d_sc_danglingCount_15 : decode m_sc_danglingCount.2.2.1 15 = .ok (.bipush (-4), 2) := by decide +kernel
theorem d_sc_danglingCount_17 : decode m_sc_danglingCount.2.2.1 17 = .ok (.ireturn, 1) := by decide +kernel
theorem d_sc_danglingCount_18 : decode m_sc_danglingCount.2.2.1 18 = .ok (.iconst 0, 1) := by decide +kernel
theorem d_sc_danglingCount_19 : decode m_sc_danglingCount.2.2.1 19 = .ok (.istore_n 2, 1) := by decide +kernel
theorem d_sc_danglingCount_20 : decode m_sc_danglingCount.2.2.1 20 = .ok (.iconst 0, 1) := by decide +kernel
theorem d_sc_danglingCount_21 : decode m_sc_danglingCount.2.2.1 21 = .ok (.istore_n 3, 1) := by decide +kernel
theorem d_sc_danglingCount_22 : decode m_sc_danglingCount.2.2.1 22 = .ok (.iload_n 3, 1) := by decide +kernel
theorem d_sc_danglingCount_23 : decode m_sc_danglingCount.2.2.1 23 = .ok (.aload_n 0, 1) := by decide +kernel
theorem d_sc_danglingCount_24 : decode m_sc_danglingCount.2.2.1 24 = .ok (.getfield 40, 3) := by decide +kernel
theorem d_sc_danglingCount_27 : decode m_sc_danglingCount.2.2.1 27 = .ok (.getfield 142, 3) := by decide +kernel
theorem d_sc_danglingCount_30 : decode m_sc_danglingCount.2.2.1 30 = .ok (.getfield 68, 3) := by decide +kernel
theorem d_sc_danglingCount_33 : decode m_sc_danglingCount.2.2.1 33 = .ok (.if_icmp .ge 43, 3) := by decide +kernel
theorem d_sc_danglingCount_36 : decode m_sc_danglingCount.2.2.1 36 = .ok (.aload_n 0, 1) := by decide +kernel
theorem d_sc_danglingCount_37 : decode m_sc_danglingCount.2.2.1 37 = .ok (.getfield 40, 3) := by decide +kernel
theorem d_sc_danglingCount_40 : decode m_sc_danglingCount.2.2.1 40 = .ok (.getfield 142, 3) := by decide +kernel
theorem d_sc_danglingCount_43 : decode m_sc_danglingCount.2.2.1 43 = .ok (.getfield 153, 3) := by decide +kernel
theorem d_sc_danglingCount_46 : decode m_sc_danglingCount.2.2.1 46 = .ok (.iload_n 3, 1) := by decide +kernel
theorem d_sc_danglingCount_47 : decode m_sc_danglingCount.2.2.1 47 = .ok (.baload, 1) := by decide +kernel
theorem d_sc_danglingCount_48 : decode m_sc_danglingCount.2.2.1 48 = .ok (.ifCond .ne 22, 3) := by decide +kernel
theorem d_sc_danglingCount_51 : decode m_sc_danglingCount.2.2.1 51 = .ok (.iload_n 2, 1) := by decide +kernel
theorem d_sc_danglingCount_52 : decode m_sc_danglingCount.2.2.1 52 = .ok (.aload_n 0, 1) := by decide +kernel
theorem d_sc_danglingCount_53 : decode m_sc_danglingCount.2.2.1 53 = .ok (.aload_n 0, 1) := by decide +kernel
theorem d_sc_danglingCount_54 : decode m_sc_danglingCount.2.2.1 54 = .ok (.getfield 40, 3) := by decide +kernel
theorem d_sc_danglingCount_57 : decode m_sc_danglingCount.2.2.1 57 = .ok (.getfield 142, 3) := by decide +kernel
theorem d_sc_danglingCount_60 : decode m_sc_danglingCount.2.2.1 60 = .ok (.getfield 163, 3) := by decide +kernel
theorem d_sc_danglingCount_63 : decode m_sc_danglingCount.2.2.1 63 = .ok (.iload_n 3, 1) := by decide +kernel
theorem d_sc_danglingCount_64 : decode m_sc_danglingCount.2.2.1 64 = .ok (.iaload, 1) := by decide +kernel
theorem d_sc_danglingCount_65 : decode m_sc_danglingCount.2.2.1 65 = .ok (.invokevirtual 189, 3) := by decide +kernel
theorem d_sc_danglingCount_68 : decode m_sc_danglingCount.2.2.1 68 = .ok (.iadd, 1) := by decide +kernel
theorem d_sc_danglingCount_69 : decode m_sc_danglingCount.2.2.1 69 = .ok (.istore_n 2, 1) := by decide +kernel
theorem d_sc_danglingCount_70 : decode m_sc_danglingCount.2.2.1 70 = .ok (.iinc 3 1, 3) := by decide +kernel
theorem d_sc_danglingCount_73 : decode m_sc_danglingCount.2.2.1 73 = .ok (.goto (-51), 3) := by decide +kernel
theorem d_sc_danglingCount_76 : decode m_sc_danglingCount.2.2.1 76 = .ok (.iload_n 2, 1) := by decide +kernel
theorem d_sc_danglingCount_77 : decode m_sc_danglingCount.2.2.1 77 = .ok (.ireturn, 1) := by decide +kernel
theorem d_sc_conflictCount_0 : decode m_sc_conflictCount.2.2.1 0 = .ok (.aload_n 0, 1) := by decide +kernel
theorem d_sc_conflictCount_1 : decode m_sc_conflictCount.2.2.1 1 = .ok (.getfield 40, 3) := by decide +kernel
theorem d_sc_conflictCount_4 : decode m_sc_conflictCount.2.2.1 4 = .ok (.aload_n 0, 1) := by decide +kernel
theorem d_sc_conflictCount_5 : decode m_sc_conflictCount.2.2.1 5 = .ok (.getfield 12, 3) := by decide +kernel
theorem d_sc_conflictCount_8 : decode m_sc_conflictCount.2.2.1 8 = .ok (.iload_n 1, 1) := by decide +kernel
theorem d_sc_conflictCount_9 : decode m_sc_conflictCount.2.2.1 9 = .ok (.invokevirtual 138, 3) := by decide +kernel
theorem d_sc_conflictCount_12 : decode m_sc_conflictCount.2.2.1 12 = .ok (.ifCond .ne 6, 3) := by decide +kernel
theorem d_sc_conflictCount_15 : decode m_sc_conflictCount.2.2.1 15 = .ok (.bipush (-4), 2) := by decide +kernel
theorem d_sc_conflictCount_17 : decode m_sc_conflictCount.2.2.1 17 = .ok (.ireturn, 1) := by decide +kernel
theorem d_sc_conflictCount_18 : decode m_sc_conflictCount.2.2.1 18 = .ok (.aload_n 0, 1) := by decide +kernel
theorem d_sc_conflictCount_19 : decode m_sc_conflictCount.2.2.1 19 = .ok (.getfield 40, 3) := by decide +kernel
theorem d_sc_conflictCount_22 : decode m_sc_conflictCount.2.2.1 22 = .ok (.getfield 192, 3) := by decide +kernel
theorem d_sc_conflictCount_25 : decode m_sc_conflictCount.2.2.1 25 = .ok (.ireturn, 1) := by decide +kernel
theorem d_sc_conflictAmendment_0 : decode m_sc_conflictAmendment.2.2.1 0 = .ok (.aload_n 0, 1) := by decide +kernel
theorem d_sc_conflictAmendment_1 : decode m_sc_conflictAmendment.2.2.1 1 = .ok (.getfield 40, 3) := by decide +kernel
theorem d_sc_conflictAmendment_4 : decode m_sc_conflictAmendment.2.2.1 4 = .ok (.aload_n 0, 1) := by decide +kernel
theorem d_sc_conflictAmendment_5 : decode m_sc_conflictAmendment.2.2.1 5 = .ok (.getfield 12, 3) := by decide +kernel
theorem d_sc_conflictAmendment_8 : decode m_sc_conflictAmendment.2.2.1 8 = .ok (.iload_n 1, 1) := by decide +kernel
theorem d_sc_conflictAmendment_9 : decode m_sc_conflictAmendment.2.2.1 9 = .ok (.invokevirtual 138, 3) := by decide +kernel
theorem d_sc_conflictAmendment_12 : decode m_sc_conflictAmendment.2.2.1 12 = .ok (.ifCond .ne 6, 3) := by decide +kernel
theorem d_sc_conflictAmendment_15 : decode m_sc_conflictAmendment.2.2.1 15 = .ok (.bipush (-4), 2) := by decide +kernel
theorem d_sc_conflictAmendment_17 : decode m_sc_conflictAmendment.2.2.1 17 = .ok (.ireturn, 1) := by decide +kernel
theorem d_sc_conflictAmendment_18 : decode m_sc_conflictAmendment.2.2.1 18 = .ok (.aload_n 0, 1) := by decide +kernel
theorem d_sc_conflictAmendment_19 : decode m_sc_conflictAmendment.2.2.1 19 = .ok (.getfield 40, 3) := by decide +kernel
theorem d_sc_conflictAmendment_22 : decode m_sc_conflictAmendment.2.2.1 22 = .ok (.iload_n 2, 1) := by decide +kernel
theorem d_sc_conflictAmendment_23 : decode m_sc_conflictAmendment.2.2.1 23 = .ok (.invokevirtual 195, 3) := by decide +kernel
theorem d_sc_conflictAmendment_26 : decode m_sc_conflictAmendment.2.2.1 26 = .ok (.ifCond .eq 15, 3) := by decide +kernel
theorem d_sc_conflictAmendment_29 : decode m_sc_conflictAmendment.2.2.1 29 = .ok (.aload_n 0, 1) := by decide +kernel
theorem d_sc_conflictAmendment_30 : decode m_sc_conflictAmendment.2.2.1 30 = .ok (.getfield 40, 3) := by decide +kernel
theorem d_sc_conflictAmendment_33 : decode m_sc_conflictAmendment.2.2.1 33 = .ok (.getfield 198, 3) := by decide +kernel
theorem d_sc_conflictAmendment_36 : decode m_sc_conflictAmendment.2.2.1 36 = .ok (.iload_n 2, 1) := by decide +kernel
theorem d_sc_conflictAmendment_37 : decode m_sc_conflictAmendment.2.2.1 37 = .ok (.iaload, 1) := by decide +kernel
theorem d_sc_conflictAmendment_38 : decode m_sc_conflictAmendment.2.2.1 38 = .ok (.goto 5, 3) := by decide +kernel
theorem d_sc_conflictAmendment_41 : decode m_sc_conflictAmendment.2.2.1 41 = .ok (.bipush (-9), 2) := by decide +kernel
theorem d_sc_conflictAmendment_43 : decode m_sc_conflictAmendment.2.2.1 43 = .ok (.ireturn, 1) := by decide +kernel
theorem d_sc_conflictInstruction_0 : decode m_sc_conflictInstruction.2.2.1 0 = .ok (.aload_n 0, 1) := by decide +kernel
theorem d_sc_conflictInstruction_1 : decode m_sc_conflictInstruction.2.2.1 1 = .ok (.getfield 40, 3) := by decide +kernel
theorem d_sc_conflictInstruction_4 : decode m_sc_conflictInstruction.2.2.1 4 = .ok (.aload_n 0, 1) := by decide +kernel
theorem d_sc_conflictInstruction_5 : decode m_sc_conflictInstruction.2.2.1 5 = .ok (.getfield 12, 3) := by decide +kernel
theorem d_sc_conflictInstruction_8 : decode m_sc_conflictInstruction.2.2.1 8 = .ok (.iload_n 1, 1) := by decide +kernel
theorem d_sc_conflictInstruction_9 : decode m_sc_conflictInstruction.2.2.1 9 = .ok (.invokevirtual 138, 3) := by decide +kernel
theorem d_sc_conflictInstruction_12 : decode m_sc_conflictInstruction.2.2.1 12 = .ok (.ifCond .ne 6, 3) := by decide +kernel
theorem d_sc_conflictInstruction_15 : decode m_sc_conflictInstruction.2.2.1 15 = .ok (.bipush (-4), 2) := by decide +kernel
theorem d_sc_conflictInstruction_17 : decode m_sc_conflictInstruction.2.2.1 17 = .ok (.ireturn, 1) := by decide +kernel
theorem d_sc_conflictInstruction_18 : decode m_sc_conflictInstruction.2.2.1 18 = .ok (.aload_n 0, 1) := by decide +kernel
theorem d_sc_conflictInstruction_19 : decode m_sc_conflictInstruction.2.2.1 19 = .ok (.getfield 40, 3) := by decide +kernel
theorem d_sc_conflictInstruction_22 : decode m_sc_conflictInstruction.2.2.1 22 = .ok (.iload_n 2, 1) := by decide +kernel
theorem d_sc_conflictInstruction_23 : decode m_sc_conflictInstruction.2.2.1 23 = .ok (.invokevirtual 195, 3) := by decide +kernel
theorem d_sc_conflictInstruction_26 : decode m_sc_conflictInstruction.2.2.1 26 = .ok (.ifCond .eq 15, 3) := by decide +kernel
theorem d_sc_conflictInstruction_29 : decode m_sc_conflictInstruction.2.2.1 29 = .ok (.aload_n 0, 1) := by decide +kernel
theorem d_sc_conflictInstruction_30 : decode m_sc_conflictInstruction.2.2.1 30 = .ok (.getfield 40, 3) := by decide +kernel
theorem d_sc_conflictInstruction_33 : decode m_sc_conflictInstruction.2.2.1 33 = .ok (.getfield 201, 3) := by decide +kernel
theorem d_sc_conflictInstruction_36 : decode m_sc_conflictInstruction.2.2.1 36 = .ok (.iload_n 2, 1) := by decide +kernel
theorem d_sc_conflictInstruction_37 : decode m_sc_conflictInstruction.2.2.1 37 = .ok (.iaload, 1) := by decide +kernel
theorem d_sc_conflictInstruction_38 : decode m_sc_conflictInstruction.2.2.1 38 = .ok (.goto 5, 3) := by decide +kernel
theorem d_sc_conflictInstruction_41 : decode m_sc_conflictInstruction.2.2.1 41 = .ok (.bipush (-9), 2) := by decide +kernel
theorem d_sc_conflictInstruction_43 : decode m_sc_conflictInstruction.2.2.1 43 = .ok (.ireturn, 1) := by decide +kernel
theorem d_sc_conflictReason_0 : decode m_sc_conflictReason.2.2.1 0 = .ok (.aload_n 0, 1) := by decide +kernel
theorem d_sc_conflictReason_1 : decode m_sc_conflictReason.2.2.1 1 = .ok (.getfield 40, 3) := by decide +kernel
theorem d_sc_conflictReason_4 : decode m_sc_conflictReason.2.2.1 4 = .ok (.aload_n 0, 1) := by decide +kernel
theorem d_sc_conflictReason_5 : decode m_sc_conflictReason.2.2.1 5 = .ok (.getfield 12, 3) := by decide +kernel
theorem d_sc_conflictReason_8 : decode m_sc_conflictReason.2.2.1 8 = .ok (.iload_n 1, 1) := by decide +kernel
theorem d_sc_conflictReason_9 : decode m_sc_conflictReason.2.2.1 9 = .ok (.invokevirtual 138, 3) := by decide +kernel
theorem d_sc_conflictReason_12 : decode m_sc_conflictReason.2.2.1 12 = .ok (.ifCond .ne 6, 3) := by decide +kernel
theorem d_sc_conflictReason_15 : decode m_sc_conflictReason.2.2.1 15 = .ok (.bipush (-4), 2) := by decide +kernel
theorem d_sc_conflictReason_17 : decode m_sc_conflictReason.2.2.1 17 = .ok (.ireturn, 1) := by decide +kernel
theorem d_sc_conflictReason_18 : decode m_sc_conflictReason.2.2.1 18 = .ok (.aload_n 0, 1) := by decide +kernel
theorem d_sc_conflictReason_19 : decode m_sc_conflictReason.2.2.1 19 = .ok (.getfield 40, 3) := by decide +kernel
theorem d_sc_conflictReason_22 : decode m_sc_conflictReason.2.2.1 22 = .ok (.iload_n 2, 1) := by decide +kernel
theorem d_sc_conflictReason_23 : decode m_sc_conflictReason.2.2.1 23 = .ok (.invokevirtual 195, 3) := by decide +kernel
theorem d_sc_conflictReason_26 : decode m_sc_conflictReason.2.2.1 26 = .ok (.ifCond .eq 15, 3) := by decide +kernel
theorem d_sc_conflictReason_29 : decode m_sc_conflictReason.2.2.1 29 = .ok (.aload_n 0, 1) := by decide +kernel
theorem d_sc_conflictReason_30 : decode m_sc_conflictReason.2.2.1 30 = .ok (.getfield 40, 3) := by decide +kernel
theorem d_sc_conflictReason_33 : decode m_sc_conflictReason.2.2.1 33 = .ok (.getfield 204, 3) := by decide +kernel
theorem d_sc_conflictReason_36 : decode m_sc_conflictReason.2.2.1 36 = .ok (.iload_n 2, 1) := by decide +kernel
theorem d_sc_conflictReason_37 : decode m_sc_conflictReason.2.2.1 37 = .ok (.iaload, 1) := by decide +kernel
theorem d_sc_conflictReason_38 : decode m_sc_conflictReason.2.2.1 38 = .ok (.goto 5, 3) := by decide +kernel
theorem d_sc_conflictReason_41 : decode m_sc_conflictReason.2.2.1 41 = .ok (.bipush (-9), 2) := by decide +kernel
theorem d_sc_conflictReason_43 : decode m_sc_conflictReason.2.2.1 43 = .ok (.ireturn, 1) := by decide +kernel
theorem d_sc_doCommute_0 : decode m_sc_doCommute.2.2.1 0 = .ok (.aload_n 0, 1) := by decide +kernel
theorem d_sc_doCommute_1 : decode m_sc_doCommute.2.2.1 1 = .ok (.getfield 12, 3) := by decide +kernel
theorem d_sc_doCommute_4 : decode m_sc_doCommute.2.2.1 4 = .ok (.getfield 107, 3) := by decide +kernel
theorem d_sc_doCommute_7 : decode m_sc_doCommute.2.2.1 7 = .ok (.iload_n 1, 1) := by decide +kernel
theorem d_sc_doCommute_8 : decode m_sc_doCommute.2.2.1 8 = .ok (.invokevirtual 126, 3) := by decide +kernel
theorem d_sc_doCommute_11 : decode m_sc_doCommute.2.2.1 11 = .ok (.ifCond .eq 17, 3) := by decide +kernel
theorem d_sc_doCommute_14 : decode m_sc_doCommute.2.2.1 14 = .ok (.aload_n 0, 1) := by decide +kernel
theorem d_sc_doCommute_15 : decode m_sc_doCommute.2.2.1 15 = .ok (.getfield 12, 3) := by decide +kernel
theorem d_sc_doCommute_18 : decode m_sc_doCommute.2.2.1 18 = .ok (.getfield 107, 3) := by decide +kernel
theorem d_sc_doCommute_21 : decode m_sc_doCommute.2.2.1 21 = .ok (.iload_n 2, 1) := by decide +kernel
theorem d_sc_doCommute_22 : decode m_sc_doCommute.2.2.1 22 = .ok (.invokevirtual 126, 3) := by decide +kernel
theorem d_sc_doCommute_25 : decode m_sc_doCommute.2.2.1 25 = .ok (.ifCond .ne 6, 3) := by decide +kernel
theorem d_sc_doCommute_28 : decode m_sc_doCommute.2.2.1 28 = .ok (.bipush (-3), 2) := by decide +kernel
theorem d_sc_doCommute_30 : decode m_sc_doCommute.2.2.1 30 = .ok (.ireturn, 1) := by decide +kernel
theorem d_sc_doCommute_31 : decode m_sc_doCommute.2.2.1 31 = .ok (.aload_n 0, 1) := by decide +kernel
theorem d_sc_doCommute_32 : decode m_sc_doCommute.2.2.1 32 = .ok (.getfield 40, 3) := by decide +kernel
theorem d_sc_doCommute_35 : decode m_sc_doCommute.2.2.1 35 = .ok (.aload_n 0, 1) := by decide +kernel
theorem d_sc_doCommute_36 : decode m_sc_doCommute.2.2.1 36 = .ok (.getfield 12, 3) := by decide +kernel
theorem d_sc_doCommute_39 : decode m_sc_doCommute.2.2.1 39 = .ok (.iload_n 1, 1) := by decide +kernel
theorem d_sc_doCommute_40 : decode m_sc_doCommute.2.2.1 40 = .ok (.iload_n 2, 1) := by decide +kernel
theorem d_sc_doCommute_41 : decode m_sc_doCommute.2.2.1 41 = .ok (.invokevirtual 207, 3) := by decide +kernel
theorem d_sc_doCommute_44 : decode m_sc_doCommute.2.2.1 44 = .ok (.aload_n 0, 1) := by decide +kernel
theorem d_sc_doCommute_45 : decode m_sc_doCommute.2.2.1 45 = .ok (.getfield 44, 3) := by decide +kernel
theorem d_sc_doCommute_48 : decode m_sc_doCommute.2.2.1 48 = .ok (.aload_n 0, 1) := by decide +kernel
theorem d_sc_doCommute_49 : decode m_sc_doCommute.2.2.1 49 = .ok (.getfield 12, 3) := by decide +kernel
theorem d_sc_doCommute_52 : decode m_sc_doCommute.2.2.1 52 = .ok (.iload_n 2, 1) := by decide +kernel
theorem d_sc_doCommute_53 : decode m_sc_doCommute.2.2.1 53 = .ok (.iload_n 1, 1) := by decide +kernel
theorem d_sc_doCommute_54 : decode m_sc_doCommute.2.2.1 54 = .ok (.invokevirtual 207, 3) := by decide +kernel
theorem d_sc_doCommute_57 : decode m_sc_doCommute.2.2.1 57 = .ok (.aload_n 0, 1) := by decide +kernel
theorem d_sc_doCommute_58 : decode m_sc_doCommute.2.2.1 58 = .ok (.getfield 40, 3) := by decide +kernel
theorem d_sc_doCommute_61 : decode m_sc_doCommute.2.2.1 61 = .ok (.getfield 142, 3) := by decide +kernel
theorem d_sc_doCommute_64 : decode m_sc_doCommute.2.2.1 64 = .ok (.aload_n 0, 1) := by decide +kernel
theorem d_sc_doCommute_65 : decode m_sc_doCommute.2.2.1 65 = .ok (.getfield 44, 3) := by decide +kernel
theorem d_sc_doCommute_68 : decode m_sc_doCommute.2.2.1 68 = .ok (.getfield 142, 3) := by decide +kernel
theorem d_sc_doCommute_71 : decode m_sc_doCommute.2.2.1 71 = .ok (.invokevirtual 211, 3) := by decide +kernel
theorem d_sc_doCommute_74 : decode m_sc_doCommute.2.2.1 74 = .ok (.ifCond .eq 7, 3) := by decide +kernel
theorem d_sc_doCommute_77 : decode m_sc_doCommute.2.2.1 77 = .ok (.iconst 1, 1) := by decide +kernel
theorem d_sc_doCommute_78 : decode m_sc_doCommute.2.2.1 78 = .ok (.goto 4, 3) := by decide +kernel
theorem d_sc_doCommute_81 : decode m_sc_doCommute.2.2.1 81 = .ok (.iconst 0, 1) := by decide +kernel
theorem d_sc_doCommute_82 : decode m_sc_doCommute.2.2.1 82 = .ok (.ireturn, 1) := by decide +kernel
theorem d_sc_averageLevel_0 : decode m_sc_averageLevel.2.2.1 0 = .ok (.aload_n 0, 1) := by decide +kernel
theorem d_sc_averageLevel_1 : decode m_sc_averageLevel.2.2.1 1 = .ok (.getfield 40, 3) := by decide +kernel
theorem d_sc_averageLevel_4 : decode m_sc_averageLevel.2.2.1 4 = .ok (.aload_n 0, 1) := by decide +kernel
theorem d_sc_averageLevel_5 : decode m_sc_averageLevel.2.2.1 5 = .ok (.getfield 12, 3) := by decide +kernel
theorem d_sc_averageLevel_8 : decode m_sc_averageLevel.2.2.1 8 = .ok (.iload_n 1, 1) := by decide +kernel
theorem d_sc_averageLevel_9 : decode m_sc_averageLevel.2.2.1 9 = .ok (.invokevirtual 138, 3) := by decide +kernel
theorem d_sc_averageLevel_12 : decode m_sc_averageLevel.2.2.1 12 = .ok (.ifCond .ne 6, 3) := by decide +kernel
theorem d_sc_averageLevel_15 : decode m_sc_averageLevel.2.2.1 15 = .ok (.bipush (-4), 2) := by decide +kernel
theorem d_sc_averageLevel_17 : decode m_sc_averageLevel.2.2.1 17 = .ok (.ireturn, 1) := by decide +kernel
theorem d_sc_averageLevel_18 : decode m_sc_averageLevel.2.2.1 18 = .ok (.iconst 0, 1) := by decide +kernel
theorem d_sc_averageLevel_19 : decode m_sc_averageLevel.2.2.1 19 = .ok (.istore_n 2, 1) := by decide +kernel
theorem d_sc_averageLevel_20 : decode m_sc_averageLevel.2.2.1 20 = .ok (.iconst 0, 1) := by decide +kernel
theorem d_sc_averageLevel_21 : decode m_sc_averageLevel.2.2.1 21 = .ok (.istore_n 3, 1) := by decide +kernel
theorem d_sc_averageLevel_22 : decode m_sc_averageLevel.2.2.1 22 = .ok (.iconst 0, 1) := by decide +kernel
theorem d_sc_averageLevel_23 : decode m_sc_averageLevel.2.2.1 23 = .ok (.istore 4, 2) := by decide +kernel
theorem d_sc_averageLevel_25 : decode m_sc_averageLevel.2.2.1 25 = .ok (.iload 4, 2) := by decide +kernel
theorem d_sc_averageLevel_27 : decode m_sc_averageLevel.2.2.1 27 = .ok (.aload_n 0, 1) := by decide +kernel
theorem d_sc_averageLevel_28 : decode m_sc_averageLevel.2.2.1 28 = .ok (.getfield 40, 3) := by decide +kernel
theorem d_sc_averageLevel_31 : decode m_sc_averageLevel.2.2.1 31 = .ok (.getfield 142, 3) := by decide +kernel
theorem d_sc_averageLevel_34 : decode m_sc_averageLevel.2.2.1 34 = .ok (.getfield 68, 3) := by decide +kernel
theorem d_sc_averageLevel_37 : decode m_sc_averageLevel.2.2.1 37 = .ok (.if_icmp .ge 47, 3) := by decide +kernel
theorem d_sc_averageLevel_40 : decode m_sc_averageLevel.2.2.1 40 = .ok (.aload_n 0, 1) := by decide +kernel
theorem d_sc_averageLevel_41 : decode m_sc_averageLevel.2.2.1 41 = .ok (.getfield 40, 3) := by decide +kernel
theorem d_sc_averageLevel_44 : decode m_sc_averageLevel.2.2.1 44 = .ok (.getfield 142, 3) := by decide +kernel
theorem d_sc_averageLevel_47 : decode m_sc_averageLevel.2.2.1 47 = .ok (.getfield 153, 3) := by decide +kernel
theorem d_sc_averageLevel_50 : decode m_sc_averageLevel.2.2.1 50 = .ok (.iload 4, 2) := by decide +kernel
theorem d_sc_averageLevel_52 : decode m_sc_averageLevel.2.2.1 52 = .ok (.baload, 1) := by decide +kernel
theorem d_sc_averageLevel_53 : decode m_sc_averageLevel.2.2.1 53 = .ok (.ifCond .ne 25, 3) := by decide +kernel
theorem d_sc_averageLevel_56 : decode m_sc_averageLevel.2.2.1 56 = .ok (.iload_n 2, 1) := by decide +kernel
theorem d_sc_averageLevel_57 : decode m_sc_averageLevel.2.2.1 57 = .ok (.aload_n 0, 1) := by decide +kernel
theorem d_sc_averageLevel_58 : decode m_sc_averageLevel.2.2.1 58 = .ok (.getfield 40, 3) := by decide +kernel
theorem d_sc_averageLevel_61 : decode m_sc_averageLevel.2.2.1 61 = .ok (.getfield 142, 3) := by decide +kernel
theorem d_sc_averageLevel_64 : decode m_sc_averageLevel.2.2.1 64 = .ok (.getfield 149, 3) := by decide +kernel
theorem d_sc_averageLevel_67 : decode m_sc_averageLevel.2.2.1 67 = .ok (.iload 4, 2) := by decide +kernel
theorem d_sc_averageLevel_69 : decode m_sc_averageLevel.2.2.1 69 = .ok (.laload, 1) := by decide +kernel
theorem d_sc_averageLevel_70 : decode m_sc_averageLevel.2.2.1 70 = .ok (.invokestatic 60, 3) := by decide +kernel
theorem d_sc_averageLevel_73 : decode m_sc_averageLevel.2.2.1 73 = .ok (.iadd, 1) := by decide +kernel
theorem d_sc_averageLevel_74 : decode m_sc_averageLevel.2.2.1 74 = .ok (.istore_n 2, 1) := by decide +kernel
theorem d_sc_averageLevel_75 : decode m_sc_averageLevel.2.2.1 75 = .ok (.iinc 3 1, 3) := by decide +kernel
theorem d_sc_averageLevel_78 : decode m_sc_averageLevel.2.2.1 78 = .ok (.iinc 4 1, 3) := by decide +kernel
theorem d_sc_averageLevel_81 : decode m_sc_averageLevel.2.2.1 81 = .ok (.goto (-56), 3) := by decide +kernel
theorem d_sc_averageLevel_84 : decode m_sc_averageLevel.2.2.1 84 = .ok (.iload_n 3, 1) := by decide +kernel
theorem d_sc_averageLevel_85 : decode m_sc_averageLevel.2.2.1 85 = .ok (.ifCond .ne 6, 3) := by decide +kernel
theorem d_sc_averageLevel_88 : decode m_sc_averageLevel.2.2.1 88 = .ok (.ldc 215, 2) := by decide +kernel
theorem d_sc_averageLevel_90 : decode m_sc_averageLevel.2.2.1 90 = .ok (.ireturn, 1) := by decide +kernel
theorem d_sc_averageLevel_91 : decode m_sc_averageLevel.2.2.1 91 = .ok (.iload_n 2, 1) := by decide +kernel
theorem d_sc_averageLevel_92 : decode m_sc_averageLevel.2.2.1 92 = .ok (.iload_n 3, 1) := by decide +kernel
theorem d_sc_averageLevel_93 : decode m_sc_averageLevel.2.2.1 93 = .ok (.bipush 24, 2) := by decide +kernel
theorem d_sc_averageLevel_95 : decode m_sc_averageLevel.2.2.1 95 = .ok (.bipush 127, 2) := by decide +kernel
theorem d_sc_averageLevel_97 : decode m_sc_averageLevel.2.2.1 97 = .ok (.invokestatic 216, 3) := by decide +kernel
theorem d_sc_averageLevel_100 : decode m_sc_averageLevel.2.2.1 100 = .ok (.l2i, 1) := by decide +kernel
theorem d_sc_averageLevel_101 : decode m_sc_averageLevel.2.2.1 101 = .ok (.ireturn, 1) := by decide +kernel
theorem d_sc_repealedShare_0 : decode m_sc_repealedShare.2.2.1 0 = .ok (.aload_n 0, 1) := by decide +kernel
theorem d_sc_repealedShare_1 : decode m_sc_repealedShare.2.2.1 1 = .ok (.getfield 40, 3) := by decide +kernel
theorem d_sc_repealedShare_4 : decode m_sc_repealedShare.2.2.1 4 = .ok (.aload_n 0, 1) := by decide +kernel
theorem d_sc_repealedShare_5 : decode m_sc_repealedShare.2.2.1 5 = .ok (.getfield 12, 3) := by decide +kernel
theorem d_sc_repealedShare_8 : decode m_sc_repealedShare.2.2.1 8 = .ok (.iload_n 1, 1) := by decide +kernel
theorem d_sc_repealedShare_9 : decode m_sc_repealedShare.2.2.1 9 = .ok (.invokevirtual 138, 3) := by decide +kernel
theorem d_sc_repealedShare_12 : decode m_sc_repealedShare.2.2.1 12 = .ok (.ifCond .ne 7, 3) := by decide +kernel
theorem d_sc_repealedShare_15 : decode m_sc_repealedShare.2.2.1 15 = .ok (.ldc2_w 220, 3) := by decide +kernel
theorem d_sc_repealedShare_18 : decode m_sc_repealedShare.2.2.1 18 = .ok (.lreturn, 1) := by decide +kernel
theorem d_sc_repealedShare_19 : decode m_sc_repealedShare.2.2.1 19 = .ok (.iconst 0, 1) := by decide +kernel
theorem d_sc_repealedShare_20 : decode m_sc_repealedShare.2.2.1 20 = .ok (.istore_n 2, 1) := by decide +kernel
theorem d_sc_repealedShare_21 : decode m_sc_repealedShare.2.2.1 21 = .ok (.iconst 0, 1) := by decide +kernel
theorem d_sc_repealedShare_22 : decode m_sc_repealedShare.2.2.1 22 = .ok (.istore_n 3, 1) := by decide +kernel
theorem d_sc_repealedShare_23 : decode m_sc_repealedShare.2.2.1 23 = .ok (.iload_n 3, 1) := by decide +kernel
theorem d_sc_repealedShare_24 : decode m_sc_repealedShare.2.2.1 24 = .ok (.aload_n 0, 1) := by decide +kernel
theorem d_sc_repealedShare_25 : decode m_sc_repealedShare.2.2.1 25 = .ok (.getfield 40, 3) := by decide +kernel
theorem d_sc_repealedShare_28 : decode m_sc_repealedShare.2.2.1 28 = .ok (.getfield 142, 3) := by decide +kernel
theorem d_sc_repealedShare_31 : decode m_sc_repealedShare.2.2.1 31 = .ok (.getfield 68, 3) := by decide +kernel
theorem d_sc_repealedShare_34 : decode m_sc_repealedShare.2.2.1 34 = .ok (.if_icmp .ge 27, 3) := by decide +kernel
theorem d_sc_repealedShare_37 : decode m_sc_repealedShare.2.2.1 37 = .ok (.aload_n 0, 1) := by decide +kernel
theorem d_sc_repealedShare_38 : decode m_sc_repealedShare.2.2.1 38 = .ok (.getfield 40, 3) := by decide +kernel
theorem d_sc_repealedShare_41 : decode m_sc_repealedShare.2.2.1 41 = .ok (.getfield 142, 3) := by decide +kernel
theorem d_sc_repealedShare_44 : decode m_sc_repealedShare.2.2.1 44 = .ok (.getfield 153, 3) := by decide +kernel
theorem d_sc_repealedShare_47 : decode m_sc_repealedShare.2.2.1 47 = .ok (.iload_n 3, 1) := by decide +kernel
theorem d_sc_repealedShare_48 : decode m_sc_repealedShare.2.2.1 48 = .ok (.baload, 1) := by decide +kernel
theorem d_sc_repealedShare_49 : decode m_sc_repealedShare.2.2.1 49 = .ok (.ifCond .eq 6, 3) := by decide +kernel
theorem d_sc_repealedShare_52 : decode m_sc_repealedShare.2.2.1 52 = .ok (.iinc 2 1, 3) := by decide +kernel
theorem d_sc_repealedShare_55 : decode m_sc_repealedShare.2.2.1 55 = .ok (.iinc 3 1, 3) := by decide +kernel
theorem d_sc_repealedShare_58 : decode m_sc_repealedShare.2.2.1 58 = .ok (.goto (-35), 3) := by decide +kernel
theorem d_sc_repealedShare_61 : decode m_sc_repealedShare.2.2.1 61 = .ok (.aload_n 0, 1) := by decide +kernel
theorem d_sc_repealedShare_62 : decode m_sc_repealedShare.2.2.1 62 = .ok (.getfield 40, 3) := by decide +kernel
theorem d_sc_repealedShare_65 : decode m_sc_repealedShare.2.2.1 65 = .ok (.getfield 142, 3) := by decide +kernel
theorem d_sc_repealedShare_68 : decode m_sc_repealedShare.2.2.1 68 = .ok (.getfield 68, 3) := by decide +kernel
theorem d_sc_repealedShare_71 : decode m_sc_repealedShare.2.2.1 71 = .ok (.ifCond .ne 7, 3) := by decide +kernel
theorem d_sc_repealedShare_74 : decode m_sc_repealedShare.2.2.1 74 = .ok (.ldc2_w 222, 3) := by decide +kernel
theorem d_sc_repealedShare_77 : decode m_sc_repealedShare.2.2.1 77 = .ok (.lreturn, 1) := by decide +kernel
theorem d_sc_repealedShare_78 : decode m_sc_repealedShare.2.2.1 78 = .ok (.iload_n 2, 1) := by decide +kernel
theorem d_sc_repealedShare_79 : decode m_sc_repealedShare.2.2.1 79 = .ok (.aload_n 0, 1) := by decide +kernel
theorem d_sc_repealedShare_80 : decode m_sc_repealedShare.2.2.1 80 = .ok (.getfield 40, 3) := by decide +kernel
theorem d_sc_repealedShare_83 : decode m_sc_repealedShare.2.2.1 83 = .ok (.getfield 142, 3) := by decide +kernel
theorem d_sc_repealedShare_86 : decode m_sc_repealedShare.2.2.1 86 = .ok (.getfield 68, 3) := by decide +kernel
theorem d_sc_repealedShare_89 : decode m_sc_repealedShare.2.2.1 89 = .ok (.bipush 53, 2) := by decide +kernel
theorem d_sc_repealedShare_91 : decode m_sc_repealedShare.2.2.1 91 = .ok (.sipush 1023, 3) := by decide +kernel
theorem d_sc_repealedShare_94 : decode m_sc_repealedShare.2.2.1 94 = .ok (.invokestatic 216, 3) := by decide +kernel
theorem d_sc_repealedShare_97 : decode m_sc_repealedShare.2.2.1 97 = .ok (.lreturn, 1) := by decide +kernel
theorem d_sc_newShelf_0 : decode m_sc_newShelf.2.2.1 0 = .ok (.iload_n 1, 1) := by decide +kernel
theorem d_sc_newShelf_1 : decode m_sc_newShelf.2.2.1 1 = .ok (.invokestatic 224, 3) := by decide +kernel
theorem d_sc_newShelf_4 : decode m_sc_newShelf.2.2.1 4 = .ok (.ifCond .eq 18, 3) := by decide +kernel
theorem d_sc_newShelf_7 : decode m_sc_newShelf.2.2.1 7 = .ok (.iload_n 2, 1) := by decide +kernel
theorem d_sc_newShelf_8 : decode m_sc_newShelf.2.2.1 8 = .ok (.ifCond .lt 14, 3) := by decide +kernel
theorem d_sc_newShelf_11 : decode m_sc_newShelf.2.2.1 11 = .ok (.iload_n 2, 1) := by decide +kernel
theorem d_sc_newShelf_12 : decode m_sc_newShelf.2.2.1 12 = .ok (.iconst 3, 1) := by decide +kernel
theorem d_sc_newShelf_13 : decode m_sc_newShelf.2.2.1 13 = .ok (.if_icmp .gt 9, 3) := by decide +kernel
theorem d_sc_newShelf_16 : decode m_sc_newShelf.2.2.1 16 = .ok (.iload_n 3, 1) := by decide +kernel
theorem d_sc_newShelf_17 : decode m_sc_newShelf.2.2.1 17 = .ok (.bipush 10, 2) := by decide +kernel
theorem d_sc_newShelf_19 : decode m_sc_newShelf.2.2.1 19 = .ok (.if_icmp .le 6, 3) := by decide +kernel
theorem d_sc_newShelf_22 : decode m_sc_newShelf.2.2.1 22 = .ok (.bipush (-5), 2) := by decide +kernel
theorem d_sc_newShelf_24 : decode m_sc_newShelf.2.2.1 24 = .ok (.ireturn, 1) := by decide +kernel
theorem d_sc_newShelf_25 : decode m_sc_newShelf.2.2.1 25 = .ok (.iload_n 3, 1) := by decide +kernel
theorem d_sc_newShelf_26 : decode m_sc_newShelf.2.2.1 26 = .ok (.ifCond .ge 6, 3) := by decide +kernel
theorem d_sc_newShelf_29 : decode m_sc_newShelf.2.2.1 29 = .ok (.bipush (-14), 2) := by decide +kernel
theorem d_sc_newShelf_31 : decode m_sc_newShelf.2.2.1 31 = .ok (.ireturn, 1) := by decide +kernel
theorem d_sc_newShelf_32 : decode m_sc_newShelf.2.2.1 32 = .ok (.aload_n 0, 1) := by decide +kernel
theorem d_sc_newShelf_33 : decode m_sc_newShelf.2.2.1 33 = .ok (.getfield 33, 3) := by decide +kernel
theorem d_sc_newShelf_36 : decode m_sc_newShelf.2.2.1 36 = .ok (.iload_n 1, 1) := by decide +kernel
theorem d_sc_newShelf_37 : decode m_sc_newShelf.2.2.1 37 = .ok (.iload_n 2, 1) := by decide +kernel
theorem d_sc_newShelf_38 : decode m_sc_newShelf.2.2.1 38 = .ok (.iload_n 3, 1) := by decide +kernel
theorem d_sc_newShelf_39 : decode m_sc_newShelf.2.2.1 39 = .ok (.invokevirtual 227, 3) := by decide +kernel
theorem d_sc_newShelf_42 : decode m_sc_newShelf.2.2.1 42 = .ok (.iconst 1, 1) := by decide +kernel
theorem d_sc_newShelf_43 : decode m_sc_newShelf.2.2.1 43 = .ok (.ireturn, 1) := by decide +kernel
theorem d_sc_place_0 : decode m_sc_place.2.2.1 0 = .ok (.iload_n 1, 1) := by decide +kernel
theorem d_sc_place_1 : decode m_sc_place.2.2.1 1 = .ok (.invokestatic 224, 3) := by decide +kernel
theorem d_sc_place_4 : decode m_sc_place.2.2.1 4 = .ok (.ifCond .ne 6, 3) := by decide +kernel
theorem d_sc_place_7 : decode m_sc_place.2.2.1 7 = .ok (.bipush (-5), 2) := by decide +kernel
theorem d_sc_place_9 : decode m_sc_place.2.2.1 9 = .ok (.ireturn, 1) := by decide +kernel
theorem d_sc_place_10 : decode m_sc_place.2.2.1 10 = .ok (.aload_n 0, 1) := by decide +kernel
theorem d_sc_place_11 : decode m_sc_place.2.2.1 11 = .ok (.getfield 12, 3) := by decide +kernel
theorem d_sc_place_14 : decode m_sc_place.2.2.1 14 = .ok (.iload_n 3, 1) := by decide +kernel
theorem d_sc_place_15 : decode m_sc_place.2.2.1 15 = .ok (.invokevirtual 47, 3) := by decide +kernel
theorem d_sc_place_18 : decode m_sc_place.2.2.1 18 = .ok (.ifCond .ne 5, 3) := by decide +kernel
theorem d_sc_place_21 : decode m_sc_place.2.2.1 21 = .ok (.iconst (-1), 1) := by decide +kernel
theorem d_sc_place_22 : decode m_sc_place.2.2.1 22 = .ok (.ireturn, 1) := by decide +kernel
theorem d_sc_place_23 : decode m_sc_place.2.2.1 23 = .ok (.aload_n 0, 1) := by decide +kernel
theorem d_sc_place_24 : decode m_sc_place.2.2.1 24 = .ok (.getfield 33, 3) := by decide +kernel
theorem d_sc_place_27 : decode m_sc_place.2.2.1 27 = .ok (.iload_n 1, 1) := by decide +kernel
theorem d_sc_place_28 : decode m_sc_place.2.2.1 28 = .ok (.iload_n 2, 1) := by decide +kernel
theorem d_sc_place_29 : decode m_sc_place.2.2.1 29 = .ok (.invokevirtual 231, 3) := by decide +kernel
theorem d_sc_place_32 : decode m_sc_place.2.2.1 32 = .ok (.istore 4, 2) := by decide +kernel
theorem d_sc_place_34 : decode m_sc_place.2.2.1 34 = .ok (.iload 4, 2) := by decide +kernel
theorem d_sc_place_36 : decode m_sc_place.2.2.1 36 = .ok (.ifCond .eq 6, 3) := by decide +kernel
theorem d_sc_place_39 : decode m_sc_place.2.2.1 39 = .ok (.iload 4, 2) := by decide +kernel
theorem d_sc_place_41 : decode m_sc_place.2.2.1 41 = .ok (.ireturn, 1) := by decide +kernel
theorem d_sc_place_42 : decode m_sc_place.2.2.1 42 = .ok (.aload_n 0, 1) := by decide +kernel
theorem d_sc_place_43 : decode m_sc_place.2.2.1 43 = .ok (.getfield 33, 3) := by decide +kernel
theorem d_sc_place_46 : decode m_sc_place.2.2.1 46 = .ok (.getfield 234, 3) := by decide +kernel
theorem d_sc_place_49 : decode m_sc_place.2.2.1 49 = .ok (.iload_n 1, 1) := by decide +kernel
theorem d_sc_place_50 : decode m_sc_place.2.2.1 50 = .ok (.iaload, 1) := by decide +kernel
theorem d_sc_place_51 : decode m_sc_place.2.2.1 51 = .ok (.istore 5, 2) := by decide +kernel
theorem d_sc_place_53 : decode m_sc_place.2.2.1 53 = .ok (.iload 5, 2) := by decide +kernel
theorem d_sc_place_55 : decode m_sc_place.2.2.1 55 = .ok (.ifCond .eq 22, 3) := by decide +kernel
theorem d_sc_place_58 : decode m_sc_place.2.2.1 58 = .ok (.iload 5, 2) := by decide +kernel
theorem d_sc_place_60 : decode m_sc_place.2.2.1 60 = .ok (.aload_n 0, 1) := by decide +kernel
theorem d_sc_place_61 : decode m_sc_place.2.2.1 61 = .ok (.getfield 12, 3) := by decide +kernel
theorem d_sc_place_64 : decode m_sc_place.2.2.1 64 = .ok (.iload_n 3, 1) := by decide +kernel
theorem d_sc_place_65 : decode m_sc_place.2.2.1 65 = .ok (.invokevirtual 56, 3) := by decide +kernel
theorem d_sc_place_68 : decode m_sc_place.2.2.1 68 = .ok (.invokestatic 60, 3) := by decide +kernel
theorem d_sc_place_71 : decode m_sc_place.2.2.1 71 = .ok (.if_icmp .eq 6, 3) := by decide +kernel
theorem d_sc_place_74 : decode m_sc_place.2.2.1 74 = .ok (.bipush (-13), 2) := by decide +kernel
theorem d_sc_place_76 : decode m_sc_place.2.2.1 76 = .ok (.ireturn, 1) := by decide +kernel
theorem d_sc_place_77 : decode m_sc_place.2.2.1 77 = .ok (.aload_n 0, 1) := by decide +kernel
theorem d_sc_place_78 : decode m_sc_place.2.2.1 78 = .ok (.getfield 33, 3) := by decide +kernel
theorem d_sc_place_81 : decode m_sc_place.2.2.1 81 = .ok (.getfield 237, 3) := by decide +kernel
theorem d_sc_place_84 : decode m_sc_place.2.2.1 84 = .ok (.iload_n 1, 1) := by decide +kernel
theorem d_sc_place_85 : decode m_sc_place.2.2.1 85 = .ok (.aaload, 1) := by decide +kernel
theorem d_sc_place_86 : decode m_sc_place.2.2.1 86 = .ok (.iload_n 2, 1) := by decide +kernel
theorem d_sc_place_87 : decode m_sc_place.2.2.1 87 = .ok (.iload_n 3, 1) := by decide +kernel
theorem d_sc_place_88 : decode m_sc_place.2.2.1 88 = .ok (.iastore, 1) := by decide +kernel
theorem d_sc_place_89 : decode m_sc_place.2.2.1 89 = .ok (.iconst 1, 1) := by decide +kernel
theorem d_sc_place_90 : decode m_sc_place.2.2.1 90 = .ok (.ireturn, 1) := by decide +kernel
theorem d_sc_shelved_0 : decode m_sc_shelved.2.2.1 0 = .ok (.iload_n 1, 1) := by decide +kernel
theorem d_sc_shelved_1 : decode m_sc_shelved.2.2.1 1 = .ok (.invokestatic 224, 3) := by decide +kernel
theorem d_sc_shelved_4 : decode m_sc_shelved.2.2.1 4 = .ok (.ifCond .ne 6, 3) := by decide +kernel
theorem d_sc_shelved_7 : decode m_sc_shelved.2.2.1 7 = .ok (.bipush (-5), 2) := by decide +kernel
theorem d_sc_shelved_9 : decode m_sc_shelved.2.2.1 9 = .ok (.ireturn, 1) := by decide +kernel
theorem d_sc_shelved_10 : decode m_sc_shelved.2.2.1 10 = .ok (.aload_n 0, 1) := by decide +kernel
theorem d_sc_shelved_11 : decode m_sc_shelved.2.2.1 11 = .ok (.getfield 33, 3) := by decide +kernel
theorem d_sc_shelved_14 : decode m_sc_shelved.2.2.1 14 = .ok (.iload_n 1, 1) := by decide +kernel
theorem d_sc_shelved_15 : decode m_sc_shelved.2.2.1 15 = .ok (.iload_n 2, 1) := by decide +kernel
theorem d_sc_shelved_16 : decode m_sc_shelved.2.2.1 16 = .ok (.invokevirtual 231, 3) := by decide +kernel
theorem d_sc_shelved_19 : decode m_sc_shelved.2.2.1 19 = .ok (.istore_n 3, 1) := by decide +kernel
theorem d_sc_shelved_20 : decode m_sc_shelved.2.2.1 20 = .ok (.iload_n 3, 1) := by decide +kernel
theorem d_sc_shelved_21 : decode m_sc_shelved.2.2.1 21 = .ok (.ifCond .eq 7, 3) := by decide +kernel
theorem d_sc_shelved_24 : decode m_sc_shelved.2.2.1 24 = .ok (.iload_n 3, 1) := by decide +kernel
theorem d_sc_shelved_25 : decode m_sc_shelved.2.2.1 25 = .ok (.goto 14, 3) := by decide +kernel
theorem d_sc_shelved_28 : decode m_sc_shelved.2.2.1 28 = .ok (.aload_n 0, 1) := by decide +kernel
theorem d_sc_shelved_29 : decode m_sc_shelved.2.2.1 29 = .ok (.getfield 33, 3) := by decide +kernel
theorem d_sc_shelved_32 : decode m_sc_shelved.2.2.1 32 = .ok (.getfield 237, 3) := by decide +kernel
theorem d_sc_shelved_35 : decode m_sc_shelved.2.2.1 35 = .ok (.iload_n 1, 1) := by decide +kernel
theorem d_sc_shelved_36 : decode m_sc_shelved.2.2.1 36 = .ok (.aaload, 1) := by decide +kernel
theorem d_sc_shelved_37 : decode m_sc_shelved.2.2.1 37 = .ok (.iload_n 2, 1) := by decide +kernel
theorem d_sc_shelved_38 : decode m_sc_shelved.2.2.1 38 = .ok (.iaload, 1) := by decide +kernel
theorem d_sc_shelved_39 : decode m_sc_shelved.2.2.1 39 = .ok (.ireturn, 1) := by decide +kernel
theorem d_sc_copyShelf_0 : decode m_sc_copyShelf.2.2.1 0 = .ok (.iload_n 1, 1) := by decide +kernel
theorem d_sc_copyShelf_1 : decode m_sc_copyShelf.2.2.1 1 = .ok (.invokestatic 224, 3) := by decide +kernel
theorem d_sc_copyShelf_4 : decode m_sc_copyShelf.2.2.1 4 = .ok (.ifCond .eq 10, 3) := by decide +kernel
theorem d_sc_copyShelf_7 : decode m_sc_copyShelf.2.2.1 7 = .ok (.iload_n 2, 1) := by decide +kernel
theorem d_sc_copyShelf_8 : decode m_sc_copyShelf.2.2.1 8 = .ok (.invokestatic 224, 3) := by decide +kernel
theorem d_sc_copyShelf_11 : decode m_sc_copyShelf.2.2.1 11 = .ok (.ifCond .ne 6, 3) := by decide +kernel
theorem d_sc_copyShelf_14 : decode m_sc_copyShelf.2.2.1 14 = .ok (.bipush (-5), 2) := by decide +kernel
theorem d_sc_copyShelf_16 : decode m_sc_copyShelf.2.2.1 16 = .ok (.ireturn, 1) := by decide +kernel
theorem d_sc_copyShelf_17 : decode m_sc_copyShelf.2.2.1 17 = .ok (.aload_n 0, 1) := by decide +kernel
theorem d_sc_copyShelf_18 : decode m_sc_copyShelf.2.2.1 18 = .ok (.getfield 33, 3) := by decide +kernel
theorem d_sc_copyShelf_21 : decode m_sc_copyShelf.2.2.1 21 = .ok (.getfield 240, 3) := by decide +kernel
theorem d_sc_copyShelf_24 : decode m_sc_copyShelf.2.2.1 24 = .ok (.iload_n 1, 1) := by decide +kernel
theorem d_sc_copyShelf_25 : decode m_sc_copyShelf.2.2.1 25 = .ok (.baload, 1) := by decide +kernel
theorem d_sc_copyShelf_26 : decode m_sc_copyShelf.2.2.1 26 = .ok (.ifCond .ne 6, 3) := by decide +kernel
theorem d_sc_copyShelf_29 : decode m_sc_copyShelf.2.2.1 29 = .ok (.bipush (-11), 2) := by decide +kernel
theorem d_sc_copyShelf_31 : decode m_sc_copyShelf.2.2.1 31 = .ok (.ireturn, 1) := by decide +kernel
theorem d_sc_copyShelf_32 : decode m_sc_copyShelf.2.2.1 32 = .ok (.aload_n 0, 1) := by decide +kernel
theorem d_sc_copyShelf_33 : decode m_sc_copyShelf.2.2.1 33 = .ok (.getfield 33, 3) := by decide +kernel
theorem d_sc_copyShelf_36 : decode m_sc_copyShelf.2.2.1 36 = .ok (.iload_n 1, 1) := by decide +kernel
theorem d_sc_copyShelf_37 : decode m_sc_copyShelf.2.2.1 37 = .ok (.iload_n 2, 1) := by decide +kernel
theorem d_sc_copyShelf_38 : decode m_sc_copyShelf.2.2.1 38 = .ok (.invokevirtual 243, 3) := by decide +kernel
theorem d_sc_copyShelf_41 : decode m_sc_copyShelf.2.2.1 41 = .ok (.aload_n 0, 1) := by decide +kernel
theorem d_sc_copyShelf_42 : decode m_sc_copyShelf.2.2.1 42 = .ok (.getfield 33, 3) := by decide +kernel
theorem d_sc_copyShelf_45 : decode m_sc_copyShelf.2.2.1 45 = .ok (.getfield 247, 3) := by decide +kernel
theorem d_sc_copyShelf_48 : decode m_sc_copyShelf.2.2.1 48 = .ok (.iload_n 2, 1) := by decide +kernel
theorem d_sc_copyShelf_49 : decode m_sc_copyShelf.2.2.1 49 = .ok (.iaload, 1) := by decide +kernel
theorem d_sc_copyShelf_50 : decode m_sc_copyShelf.2.2.1 50 = .ok (.ireturn, 1) := by decide +kernel
theorem d_sc_saveSnapshot_0 : decode m_sc_saveSnapshot.2.2.1 0 = .ok (.aload_n 0, 1) := by decide +kernel
theorem d_sc_saveSnapshot_1 : decode m_sc_saveSnapshot.2.2.1 1 = .ok (.getfield 16, 3) := by decide +kernel
theorem d_sc_saveSnapshot_4 : decode m_sc_saveSnapshot.2.2.1 4 = .ok (.aload_n 0, 1) := by decide +kernel
theorem d_sc_saveSnapshot_5 : decode m_sc_saveSnapshot.2.2.1 5 = .ok (.getfield 12, 3) := by decide +kernel
theorem d_sc_saveSnapshot_8 : decode m_sc_saveSnapshot.2.2.1 8 = .ok (.invokevirtual 250, 3) := by decide +kernel
theorem d_sc_saveSnapshot_11 : decode m_sc_saveSnapshot.2.2.1 11 = .ok (.aload_n 0, 1) := by decide +kernel
theorem d_sc_saveSnapshot_12 : decode m_sc_saveSnapshot.2.2.1 12 = .ok (.iconst 1, 1) := by decide +kernel
theorem d_sc_saveSnapshot_13 : decode m_sc_saveSnapshot.2.2.1 13 = .ok (.putfield 19, 3) := by decide +kernel
theorem d_sc_saveSnapshot_16 : decode m_sc_saveSnapshot.2.2.1 16 = .ok (.aload_n 0, 1) := by decide +kernel
theorem d_sc_saveSnapshot_17 : decode m_sc_saveSnapshot.2.2.1 17 = .ok (.getfield 12, 3) := by decide +kernel
theorem d_sc_saveSnapshot_20 : decode m_sc_saveSnapshot.2.2.1 20 = .ok (.getfield 64, 3) := by decide +kernel
theorem d_sc_saveSnapshot_23 : decode m_sc_saveSnapshot.2.2.1 23 = .ok (.getfield 68, 3) := by decide +kernel
theorem d_sc_saveSnapshot_26 : decode m_sc_saveSnapshot.2.2.1 26 = .ok (.ireturn, 1) := by decide +kernel
theorem d_sc_restoreSnapshot_0 : decode m_sc_restoreSnapshot.2.2.1 0 = .ok (.aload_n 0, 1) := by decide +kernel
theorem d_sc_restoreSnapshot_1 : decode m_sc_restoreSnapshot.2.2.1 1 = .ok (.getfield 19, 3) := by decide +kernel
theorem d_sc_restoreSnapshot_4 : decode m_sc_restoreSnapshot.2.2.1 4 = .ok (.ifCond .ne 6, 3) := by decide +kernel
theorem d_sc_restoreSnapshot_7 : decode m_sc_restoreSnapshot.2.2.1 7 = .ok (.bipush (-9), 2) := by decide +kernel
theorem d_sc_restoreSnapshot_9 : decode m_sc_restoreSnapshot.2.2.1 9 = .ok (.ireturn, 1) := by decide +kernel
theorem d_sc_restoreSnapshot_10 : decode m_sc_restoreSnapshot.2.2.1 10 = .ok (.aload_n 0, 1) := by decide +kernel
theorem d_sc_restoreSnapshot_11 : decode m_sc_restoreSnapshot.2.2.1 11 = .ok (.getfield 12, 3) := by decide +kernel
theorem d_sc_restoreSnapshot_14 : decode m_sc_restoreSnapshot.2.2.1 14 = .ok (.aload_n 0, 1) := by decide +kernel
theorem d_sc_restoreSnapshot_15 : decode m_sc_restoreSnapshot.2.2.1 15 = .ok (.getfield 16, 3) := by decide +kernel
theorem d_sc_restoreSnapshot_18 : decode m_sc_restoreSnapshot.2.2.1 18 = .ok (.invokevirtual 250, 3) := by decide +kernel
theorem d_sc_restoreSnapshot_21 : decode m_sc_restoreSnapshot.2.2.1 21 = .ok (.aload_n 0, 1) := by decide +kernel
theorem d_sc_restoreSnapshot_22 : decode m_sc_restoreSnapshot.2.2.1 22 = .ok (.getfield 33, 3) := by decide +kernel
theorem d_sc_restoreSnapshot_25 : decode m_sc_restoreSnapshot.2.2.1 25 = .ok (.invokevirtual 114, 3) := by decide +kernel
theorem d_sc_restoreSnapshot_28 : decode m_sc_restoreSnapshot.2.2.1 28 = .ok (.aload_n 0, 1) := by decide +kernel
theorem d_sc_restoreSnapshot_29 : decode m_sc_restoreSnapshot.2.2.1 29 = .ok (.getfield 12, 3) := by decide +kernel
theorem d_sc_restoreSnapshot_32 : decode m_sc_restoreSnapshot.2.2.1 32 = .ok (.getfield 64, 3) := by decide +kernel
theorem d_sc_restoreSnapshot_35 : decode m_sc_restoreSnapshot.2.2.1 35 = .ok (.getfield 68, 3) := by decide +kernel
theorem d_sc_restoreSnapshot_38 : decode m_sc_restoreSnapshot.2.2.1 38 = .ok (.ireturn, 1) := by decide +kernel
theorem d_sc_isText_0 : decode m_sc_isText.2.2.1 0 = .ok (.iload_n 0, 1) := by decide +kernel
theorem d_sc_isText_1 : decode m_sc_isText.2.2.1 1 = .ok (.ifCond .lt 14, 3) := by decide +kernel
theorem d_sc_isText_4 : decode m_sc_isText.2.2.1 4 = .ok (.iload_n 0, 1) := by decide +kernel
theorem d_sc_isText_5 : decode m_sc_isText.2.2.1 5 = .ok (.sipush 9999, 3) := by decide +kernel
theorem d_sc_isText_8 : decode m_sc_isText.2.2.1 8 = .ok (.if_icmp .gt 7, 3) := by decide +kernel
theorem d_sc_isText_11 : decode m_sc_isText.2.2.1 11 = .ok (.iconst 1, 1) := by decide +kernel
theorem d_sc_isText_12 : decode m_sc_isText.2.2.1 12 = .ok (.goto 4, 3) := by decide +kernel
theorem d_sc_isText_15 : decode m_sc_isText.2.2.1 15 = .ok (.iconst 0, 1) := by decide +kernel
theorem d_sc_isText_16 : decode m_sc_isText.2.2.1 16 = .ok (.ireturn, 1) := by decide +kernel
theorem d_sc_isCommencementDay_0 : decode m_sc_isCommencementDay.2.2.1 0 = .ok (.iload_n 0, 1) := by decide +kernel
theorem d_sc_isCommencementDay_1 : decode m_sc_isCommencementDay.2.2.1 1 = .ok (.ifCond .lt 14, 3) := by decide +kernel
theorem d_sc_isCommencementDay_4 : decode m_sc_isCommencementDay.2.2.1 4 = .ok (.iload_n 0, 1) := by decide +kernel
theorem d_sc_isCommencementDay_5 : decode m_sc_isCommencementDay.2.2.1 5 = .ok (.sipush 9999, 3) := by decide +kernel
theorem d_sc_isCommencementDay_8 : decode m_sc_isCommencementDay.2.2.1 8 = .ok (.if_icmp .gt 7, 3) := by decide +kernel
theorem d_sc_isCommencementDay_11 : decode m_sc_isCommencementDay.2.2.1 11 = .ok (.iconst 1, 1) := by decide +kernel
theorem d_sc_isCommencementDay_12 : decode m_sc_isCommencementDay.2.2.1 12 = .ok (.goto 4, 3) := by decide +kernel
theorem d_sc_isCommencementDay_15 : decode m_sc_isCommencementDay.2.2.1 15 = .ok (.iconst 0, 1) := by decide +kernel
theorem d_sc_isCommencementDay_16 : decode m_sc_isCommencementDay.2.2.1 16 = .ok (.ireturn, 1) := by decide +kernel
theorem d_sc_isShelf_0 : decode m_sc_isShelf.2.2.1 0 = .ok (.iload_n 0, 1) := by decide +kernel
theorem d_sc_isShelf_1 : decode m_sc_isShelf.2.2.1 1 = .ok (.ifCond .lt 12, 3) := by decide +kernel
theorem d_sc_isShelf_4 : decode m_sc_isShelf.2.2.1 4 = .ok (.iload_n 0, 1) := by decide +kernel
theorem d_sc_isShelf_5 : decode m_sc_isShelf.2.2.1 5 = .ok (.iconst 3, 1) := by decide +kernel
theorem d_sc_isShelf_6 : decode m_sc_isShelf.2.2.1 6 = .ok (.if_icmp .ge 7, 3) := by decide +kernel
theorem d_sc_isShelf_9 : decode m_sc_isShelf.2.2.1 9 = .ok (.iconst 1, 1) := by decide +kernel
theorem d_sc_isShelf_10 : decode m_sc_isShelf.2.2.1 10 = .ok (.goto 4, 3) := by decide +kernel
theorem d_sc_isShelf_13 : decode m_sc_isShelf.2.2.1 13 = .ok (.iconst 0, 1) := by decide +kernel
theorem d_sc_isShelf_14 : decode m_sc_isShelf.2.2.1 14 = .ok (.ireturn, 1) := by decide +kernel
theorem d_sc_storeAmendment_0 : decode m_sc_storeAmendment.2.2.1 0 = .ok (.iload_n 1, 1) := by decide +kernel
theorem d_sc_storeAmendment_1 : decode m_sc_storeAmendment.2.2.1 1 = .ok (.invokestatic 132, 3) := by decide +kernel
theorem d_sc_storeAmendment_4 : decode m_sc_storeAmendment.2.2.1 4 = .ok (.ifCond .ne 6, 3) := by decide +kernel
theorem d_sc_storeAmendment_7 : decode m_sc_storeAmendment.2.2.1 7 = .ok (.bipush (-4), 2) := by decide +kernel
theorem d_sc_storeAmendment_9 : decode m_sc_storeAmendment.2.2.1 9 = .ok (.ireturn, 1) := by decide +kernel
theorem d_sc_storeAmendment_10 : decode m_sc_storeAmendment.2.2.1 10 = .ok (.aload_n 0, 1) := by decide +kernel
theorem d_sc_storeAmendment_11 : decode m_sc_storeAmendment.2.2.1 11 = .ok (.getfield 12, 3) := by decide +kernel
theorem d_sc_storeAmendment_14 : decode m_sc_storeAmendment.2.2.1 14 = .ok (.getfield 107, 3) := by decide +kernel
theorem d_sc_storeAmendment_17 : decode m_sc_storeAmendment.2.2.1 17 = .ok (.astore_n 2, 1) := by decide +kernel
theorem d_sc_storeAmendment_18 : decode m_sc_storeAmendment.2.2.1 18 = .ok (.aload_n 2, 1) := by decide +kernel
theorem d_sc_storeAmendment_19 : decode m_sc_storeAmendment.2.2.1 19 = .ok (.getfield 111, 3) := by decide +kernel
theorem d_sc_storeAmendment_22 : decode m_sc_storeAmendment.2.2.1 22 = .ok (.istore_n 3, 1) := by decide +kernel
theorem d_sc_storeAmendment_23 : decode m_sc_storeAmendment.2.2.1 23 = .ok (.iload_n 3, 1) := by decide +kernel
theorem d_sc_storeAmendment_24 : decode m_sc_storeAmendment.2.2.1 24 = .ok (.bipush 8, 2) := by decide +kernel
theorem d_sc_storeAmendment_26 : decode m_sc_storeAmendment.2.2.1 26 = .ok (.if_icmp .lt 6, 3) := by decide +kernel
theorem d_sc_storeAmendment_29 : decode m_sc_storeAmendment.2.2.1 29 = .ok (.bipush (-6), 2) := by decide +kernel
theorem d_sc_storeAmendment_31 : decode m_sc_storeAmendment.2.2.1 31 = .ok (.ireturn, 1) := by decide +kernel
theorem d_sc_storeAmendment_32 : decode m_sc_storeAmendment.2.2.1 32 = .ok (.aload_n 0, 1) := by decide +kernel
theorem d_sc_storeAmendment_33 : decode m_sc_storeAmendment.2.2.1 33 = .ok (.getfield 26, 3) := by decide +kernel
theorem d_sc_storeAmendment_36 : decode m_sc_storeAmendment.2.2.1 36 = .ok (.aload_n 2, 1) := by decide +kernel
theorem d_sc_storeAmendment_37 : decode m_sc_storeAmendment.2.2.1 37 = .ok (.iload_n 3, 1) := by decide +kernel
theorem d_sc_storeAmendment_38 : decode m_sc_storeAmendment.2.2.1 38 = .ok (.bipush 15, 2) := by decide +kernel
theorem d_sc_storeAmendment_40 : decode m_sc_storeAmendment.2.2.1 40 = .ok (.imul, 1) := by decide +kernel
theorem d_sc_storeAmendment_41 : decode m_sc_storeAmendment.2.2.1 41 = .ok (.invokevirtual 254, 3) := by decide +kernel
theorem d_sc_storeAmendment_44 : decode m_sc_storeAmendment.2.2.1 44 = .ok (.istore 4, 2) := by decide +kernel
theorem d_sc_storeAmendment_46 : decode m_sc_storeAmendment.2.2.1 46 = .ok (.iload 4, 2) := by decide +kernel
theorem d_sc_storeAmendment_48 : decode m_sc_storeAmendment.2.2.1 48 = .ok (.ifCond .ge 15, 3) := by decide +kernel
theorem d_sc_storeAmendment_51 : decode m_sc_storeAmendment.2.2.1 51 = .ok (.sipush (-1000), 3) := by decide +kernel
theorem d_sc_storeAmendment_54 : decode m_sc_storeAmendment.2.2.1 54 = .ok (.aload_n 0, 1) := by decide +kernel
theorem d_sc_storeAmendment_55 : decode m_sc_storeAmendment.2.2.1 55 = .ok (.getfield 26, 3) := by decide +kernel
theorem d_sc_storeAmendment_58 : decode m_sc_storeAmendment.2.2.1 58 = .ok (.getfield 173, 3) := by decide +kernel
theorem d_sc_storeAmendment_61 : decode m_sc_storeAmendment.2.2.1 61 = .ok (.isub, 1) := by decide +kernel
theorem d_sc_storeAmendment_62 : decode m_sc_storeAmendment.2.2.1 62 = .ok (.ireturn, 1) := by decide +kernel
theorem d_sc_storeAmendment_63 : decode m_sc_storeAmendment.2.2.1 63 = .ok (.aload_n 2, 1) := by decide +kernel
theorem d_sc_storeAmendment_64 : decode m_sc_storeAmendment.2.2.1 64 = .ok (.getfield 135, 3) := by decide +kernel
theorem d_sc_storeAmendment_67 : decode m_sc_storeAmendment.2.2.1 67 = .ok (.iload_n 3, 1) := by decide +kernel
theorem d_sc_storeAmendment_68 : decode m_sc_storeAmendment.2.2.1 68 = .ok (.iload_n 1, 1) := by decide +kernel
theorem d_sc_storeAmendment_69 : decode m_sc_storeAmendment.2.2.1 69 = .ok (.iastore, 1) := by decide +kernel
theorem d_sc_storeAmendment_70 : decode m_sc_storeAmendment.2.2.1 70 = .ok (.aload_n 2, 1) := by decide +kernel
theorem d_sc_storeAmendment_71 : decode m_sc_storeAmendment.2.2.1 71 = .ok (.getfield 129, 3) := by decide +kernel
theorem d_sc_storeAmendment_74 : decode m_sc_storeAmendment.2.2.1 74 = .ok (.iload_n 3, 1) := by decide +kernel
theorem d_sc_storeAmendment_75 : decode m_sc_storeAmendment.2.2.1 75 = .ok (.iload 4, 2) := by decide +kernel
theorem d_sc_storeAmendment_77 : decode m_sc_storeAmendment.2.2.1 77 = .ok (.iastore, 1) := by decide +kernel
theorem d_sc_storeAmendment_78 : decode m_sc_storeAmendment.2.2.1 78 = .ok (.aload_n 2, 1) := by decide +kernel
theorem d_sc_storeAmendment_79 : decode m_sc_storeAmendment.2.2.1 79 = .ok (.dup, 1) := by decide +kernel
theorem d_sc_storeAmendment_80 : decode m_sc_storeAmendment.2.2.1 80 = .ok (.getfield 111, 3) := by decide +kernel
theorem d_sc_storeAmendment_83 : decode m_sc_storeAmendment.2.2.1 83 = .ok (.iconst 1, 1) := by decide +kernel
theorem d_sc_storeAmendment_84 : decode m_sc_storeAmendment.2.2.1 84 = .ok (.iadd, 1) := by decide +kernel
theorem d_sc_storeAmendment_85 : decode m_sc_storeAmendment.2.2.1 85 = .ok (.putfield 111, 3) := by decide +kernel
theorem d_sc_storeAmendment_88 : decode m_sc_storeAmendment.2.2.1 88 = .ok (.iload_n 3, 1) := by decide +kernel
theorem d_sc_storeAmendment_89 : decode m_sc_storeAmendment.2.2.1 89 = .ok (.ireturn, 1) := by decide +kernel
theorem d_sc_refusalAt_0 : decode m_sc_refusalAt.2.2.1 0 = .ok (.aload_n 0, 1) := by decide +kernel
theorem d_sc_refusalAt_1 : decode m_sc_refusalAt.2.2.1 1 = .ok (.getfield 40, 3) := by decide +kernel
theorem d_sc_refusalAt_4 : decode m_sc_refusalAt.2.2.1 4 = .ok (.aload_n 0, 1) := by decide +kernel
theorem d_sc_refusalAt_5 : decode m_sc_refusalAt.2.2.1 5 = .ok (.getfield 12, 3) := by decide +kernel
theorem d_sc_refusalAt_8 : decode m_sc_refusalAt.2.2.1 8 = .ok (.iload_n 1, 1) := by decide +kernel
theorem d_sc_refusalAt_9 : decode m_sc_refusalAt.2.2.1 9 = .ok (.invokevirtual 138, 3) := by decide +kernel
theorem d_sc_refusalAt_12 : decode m_sc_refusalAt.2.2.1 12 = .ok (.ifCond .ne 6, 3) := by decide +kernel
theorem d_sc_refusalAt_15 : decode m_sc_refusalAt.2.2.1 15 = .ok (.bipush (-4), 2) := by decide +kernel
theorem d_sc_refusalAt_17 : decode m_sc_refusalAt.2.2.1 17 = .ok (.ireturn, 1) := by decide +kernel
theorem d_sc_refusalAt_18 : decode m_sc_refusalAt.2.2.1 18 = .ok (.aload_n 0, 1) := by decide +kernel
theorem d_sc_refusalAt_19 : decode m_sc_refusalAt.2.2.1 19 = .ok (.getfield 40, 3) := by decide +kernel
theorem d_sc_refusalAt_22 : decode m_sc_refusalAt.2.2.1 22 = .ok (.getfield 142, 3) := by decide +kernel
theorem d_sc_refusalAt_25 : decode m_sc_refusalAt.2.2.1 25 = .ok (.iload_n 2, 1) := by decide +kernel
theorem d_sc_refusalAt_26 : decode m_sc_refusalAt.2.2.1 26 = .ok (.invokevirtual 258, 3) := by decide +kernel
theorem d_sc_refusalAt_29 : decode m_sc_refusalAt.2.2.1 29 = .ok (.ifCond .eq 7, 3) := by decide +kernel
theorem d_sc_refusalAt_32 : decode m_sc_refusalAt.2.2.1 32 = .ok (.iconst 0, 1) := by decide +kernel
theorem d_sc_refusalAt_33 : decode m_sc_refusalAt.2.2.1 33 = .ok (.goto 5, 3) := by decide +kernel
theorem d_sc_refusalAt_36 : decode m_sc_refusalAt.2.2.1 36 = .ok (.bipush (-2), 2) := by decide +kernel
theorem d_sc_refusalAt_38 : decode m_sc_refusalAt.2.2.1 38 = .ok (.ireturn, 1) := by decide +kernel
theorem d_sc_danglingReferencesOf_0 : decode m_sc_danglingReferencesOf.2.2.1 0 = .ok (.iconst 0, 1) := by decide +kernel
theorem d_sc_danglingReferencesOf_1 : decode m_sc_danglingReferencesOf.2.2.1 1 = .ok (.istore_n 2, 1) := by decide +kernel
theorem d_sc_danglingReferencesOf_2 : decode m_sc_danglingReferencesOf.2.2.1 2 = .ok (.aload_n 0, 1) := by decide +kernel
theorem d_sc_danglingReferencesOf_3 : decode m_sc_danglingReferencesOf.2.2.1 3 = .ok (.getfield 12, 3) := by decide +kernel
theorem d_sc_danglingReferencesOf_6 : decode m_sc_danglingReferencesOf.2.2.1 6 = .ok (.iload_n 1, 1) := by decide +kernel
theorem d_sc_danglingReferencesOf_7 : decode m_sc_danglingReferencesOf.2.2.1 7 = .ok (.invokevirtual 183, 3) := by decide +kernel
theorem d_sc_danglingReferencesOf_10 : decode m_sc_danglingReferencesOf.2.2.1 10 = .ok (.istore_n 3, 1) := by decide +kernel
theorem d_sc_danglingReferencesOf_11 : decode m_sc_danglingReferencesOf.2.2.1 11 = .ok (.iconst 0, 1) := by decide +kernel
theorem d_sc_danglingReferencesOf_12 : decode m_sc_danglingReferencesOf.2.2.1 12 = .ok (.istore 4, 2) := by decide +kernel
theorem d_sc_danglingReferencesOf_14 : decode m_sc_danglingReferencesOf.2.2.1 14 = .ok (.iload 4, 2) := by decide +kernel
theorem d_sc_danglingReferencesOf_16 : decode m_sc_danglingReferencesOf.2.2.1 16 = .ok (.iload_n 3, 1) := by decide +kernel
theorem d_sc_danglingReferencesOf_17 : decode m_sc_danglingReferencesOf.2.2.1 17 = .ok (.if_icmp .ge 37, 3) := by decide +kernel
theorem d_sc_danglingReferencesOf_20 : decode m_sc_danglingReferencesOf.2.2.1 20 = .ok (.aload_n 0, 1) := by decide +kernel
theorem d_sc_danglingReferencesOf_21 : decode m_sc_danglingReferencesOf.2.2.1 21 = .ok (.getfield 40, 3) := by decide +kernel
theorem d_sc_danglingReferencesOf_24 : decode m_sc_danglingReferencesOf.2.2.1 24 = .ok (.getfield 142, 3) := by decide +kernel
theorem d_sc_danglingReferencesOf_27 : decode m_sc_danglingReferencesOf.2.2.1 27 = .ok (.aload_n 0, 1) := by decide +kernel
theorem d_sc_danglingReferencesOf_28 : decode m_sc_danglingReferencesOf.2.2.1 28 = .ok (.getfield 12, 3) := by decide +kernel
theorem d_sc_danglingReferencesOf_31 : decode m_sc_danglingReferencesOf.2.2.1 31 = .ok (.getfield 103, 3) := by decide +kernel
theorem d_sc_danglingReferencesOf_34 : decode m_sc_danglingReferencesOf.2.2.1 34 = .ok (.iload_n 1, 1) := by decide +kernel
theorem d_sc_danglingReferencesOf_35 : decode m_sc_danglingReferencesOf.2.2.1 35 = .ok (.aaload, 1) := by decide +kernel
theorem d_sc_danglingReferencesOf_36 : decode m_sc_danglingReferencesOf.2.2.1 36 = .ok (.iload 4, 2) := by decide +kernel
theorem d_sc_danglingReferencesOf_38 : decode m_sc_danglingReferencesOf.2.2.1 38 = .ok (.iaload, 1) := by decide +kernel
theorem d_sc_danglingReferencesOf_39 : decode m_sc_danglingReferencesOf.2.2.1 39 = .ok (.invokevirtual 186, 3) := by decide +kernel
theorem d_sc_danglingReferencesOf_42 : decode m_sc_danglingReferencesOf.2.2.1 42 = .ok (.ifCond .ge 6, 3) := by decide +kernel
theorem d_sc_danglingReferencesOf_45 : decode m_sc_danglingReferencesOf.2.2.1 45 = .ok (.iinc 2 1, 3) := by decide +kernel
theorem d_sc_danglingReferencesOf_48 : decode m_sc_danglingReferencesOf.2.2.1 48 = .ok (.iinc 4 1, 3) := by decide +kernel
theorem d_sc_danglingReferencesOf_51 : decode m_sc_danglingReferencesOf.2.2.1 51 = .ok (.goto (-37), 3) := by decide +kernel
theorem d_sc_danglingReferencesOf_54 : decode m_sc_danglingReferencesOf.2.2.1 54 = .ok (.iload_n 2, 1) := by decide +kernel
theorem d_sc_danglingReferencesOf_55 : decode m_sc_danglingReferencesOf.2.2.1 55 = .ok (.ireturn, 1) := by decide +kernel
theorem d_sc_quotientBits_0 : decode m_sc_quotientBits.2.2.1 0 = .ok (.iload_n 0, 1) := by decide +kernel
theorem d_sc_quotientBits_1 : decode m_sc_quotientBits.2.2.1 1 = .ok (.ifCond .le 7, 3) := by decide +kernel
theorem d_sc_quotientBits_4 : decode m_sc_quotientBits.2.2.1 4 = .ok (.iload_n 1, 1) := by decide +kernel
theorem d_sc_quotientBits_5 : decode m_sc_quotientBits.2.2.1 5 = .ok (.ifCond .gt 5, 3) := by decide +kernel
theorem d_sc_quotientBits_8 : decode m_sc_quotientBits.2.2.1 8 = .ok (.lconst 0, 1) := by decide +kernel
theorem d_sc_quotientBits_9 : decode m_sc_quotientBits.2.2.1 9 = .ok (.lreturn, 1) := by decide +kernel
theorem d_sc_quotientBits_10 : decode m_sc_quotientBits.2.2.1 10 = .ok (.iload_n 1, 1) := by decide +kernel
theorem d_sc_quotientBits_11 : decode m_sc_quotientBits.2.2.1 11 = .ok (.i2l, 1) := by decide +kernel
theorem d_sc_quotientBits_12 : decode m_sc_quotientBits.2.2.1 12 = .ok (.lstore 4, 2) := by decide +kernel
theorem d_sc_quotientBits_14 : decode m_sc_quotientBits.2.2.1 14 = .ok (.iload_n 0, 1) := by decide +kernel
theorem d_sc_quotientBits_15 : decode m_sc_quotientBits.2.2.1 15 = .ok (.i2l, 1) := by decide +kernel
theorem d_sc_quotientBits_16 : decode m_sc_quotientBits.2.2.1 16 = .ok (.lstore 6, 2) := by decide +kernel
theorem d_sc_quotientBits_18 : decode m_sc_quotientBits.2.2.1 18 = .ok (.iconst 0, 1) := by decide +kernel
theorem d_sc_quotientBits_19 : decode m_sc_quotientBits.2.2.1 19 = .ok (.istore 8, 2) := by decide +kernel
theorem d_sc_quotientBits_21 : decode m_sc_quotientBits.2.2.1 21 = .ok (.iload 8, 2) := by decide +kernel
theorem d_sc_quotientBits_23 : decode m_sc_quotientBits.2.2.1 23 = .ok (.bipush 64, 2) := by decide +kernel
theorem d_sc_quotientBits_25 : decode m_sc_quotientBits.2.2.1 25 = .ok (.if_icmp .ge 27, 3) := by decide +kernel
theorem d_sc_quotientBits_28 : decode m_sc_quotientBits.2.2.1 28 = .ok (.lload 6, 2) := by decide +kernel
theorem d_sc_quotientBits_30 : decode m_sc_quotientBits.2.2.1 30 = .ok (.lload 4, 2) := by decide +kernel
theorem d_sc_quotientBits_32 : decode m_sc_quotientBits.2.2.1 32 = .ok (.iload_n 2, 1) := by decide +kernel
theorem d_sc_quotientBits_33 : decode m_sc_quotientBits.2.2.1 33 = .ok (.iconst 1, 1) := by decide +kernel
theorem d_sc_quotientBits_34 : decode m_sc_quotientBits.2.2.1 34 = .ok (.isub, 1) := by decide +kernel
theorem d_sc_quotientBits_35 : decode m_sc_quotientBits.2.2.1 35 = .ok (.lshl, 1) := by decide +kernel
theorem d_sc_quotientBits_36 : decode m_sc_quotientBits.2.2.1 36 = .ok (.lcmp, 1) := by decide +kernel
theorem d_sc_quotientBits_37 : decode m_sc_quotientBits.2.2.1 37 = .ok (.ifCond .ge 15, 3) := by decide +kernel
theorem d_sc_quotientBits_40 : decode m_sc_quotientBits.2.2.1 40 = .ok (.lload 6, 2) := by decide +kernel
theorem d_sc_quotientBits_42 : decode m_sc_quotientBits.2.2.1 42 = .ok (.iconst 1, 1) := by decide +kernel
theorem d_sc_quotientBits_43 : decode m_sc_quotientBits.2.2.1 43 = .ok (.lshl, 1) := by decide +kernel
theorem d_sc_quotientBits_44 : decode m_sc_quotientBits.2.2.1 44 = .ok (.lstore 6, 2) := by decide +kernel
theorem d_sc_quotientBits_46 : decode m_sc_quotientBits.2.2.1 46 = .ok (.iinc 8 1, 3) := by decide +kernel
theorem d_sc_quotientBits_49 : decode m_sc_quotientBits.2.2.1 49 = .ok (.goto (-28), 3) := by decide +kernel
theorem d_sc_quotientBits_52 : decode m_sc_quotientBits.2.2.1 52 = .ok (.lload 6, 2) := by decide +kernel
theorem d_sc_quotientBits_54 : decode m_sc_quotientBits.2.2.1 54 = .ok (.lload 4, 2) := by decide +kernel
theorem d_sc_quotientBits_56 : decode m_sc_quotientBits.2.2.1 56 = .ok (.ldiv, 1) := by decide +kernel
theorem d_sc_quotientBits_57 : decode m_sc_quotientBits.2.2.1 57 = .ok (.lstore 9, 2) := by decide +kernel
theorem d_sc_quotientBits_59 : decode m_sc_quotientBits.2.2.1 59 = .ok (.ldc2_w 259, 3) := by decide +kernel
theorem d_sc_quotientBits_62 : decode m_sc_quotientBits.2.2.1 62 = .ok (.lload 6, 2) := by decide +kernel
theorem d_sc_quotientBits_64 : decode m_sc_quotientBits.2.2.1 64 = .ok (.lload 4, 2) := by decide +kernel
theorem d_sc_quotientBits_66 : decode m_sc_quotientBits.2.2.1 66 = .ok (.lrem, 1) := by decide +kernel
theorem d_sc_quotientBits_67 : decode m_sc_quotientBits.2.2.1 67 = .ok (.lmul, 1) := by decide +kernel
theorem d_sc_quotientBits_68 : decode m_sc_quotientBits.2.2.1 68 = .ok (.lstore 11, 2) := by decide +kernel
theorem d_sc_quotientBits_70 : decode m_sc_quotientBits.2.2.1 70 = .ok (.lload 11, 2) := by decide +kernel
theorem d_sc_quotientBits_72 : decode m_sc_quotientBits.2.2.1 72 = .ok (.lload 4, 2) := by decide +kernel
theorem d_sc_quotientBits_74 : decode m_sc_quotientBits.2.2.1 74 = .ok (.lcmp, 1) := by decide +kernel
theorem d_sc_quotientBits_75 : decode m_sc_quotientBits.2.2.1 75 = .ok (.ifCond .gt 20, 3) := by decide +kernel
theorem d_sc_quotientBits_78 : decode m_sc_quotientBits.2.2.1 78 = .ok (.lload 11, 2) := by decide +kernel
theorem d_sc_quotientBits_80 : decode m_sc_quotientBits.2.2.1 80 = .ok (.lload 4, 2) := by decide +kernel
theorem d_sc_quotientBits_82 : decode m_sc_quotientBits.2.2.1 82 = .ok (.lcmp, 1) := by decide +kernel
theorem d_sc_quotientBits_83 : decode m_sc_quotientBits.2.2.1 83 = .ok (.ifCond .ne 18, 3) := by decide +kernel
theorem d_sc_quotientBits_86 : decode m_sc_quotientBits.2.2.1 86 = .ok (.lload 9, 2) := by decide +kernel
theorem d_sc_quotientBits_88 : decode m_sc_quotientBits.2.2.1 88 = .ok (.lconst 1, 1) := by decide +kernel
theorem d_sc_quotientBits_89 : decode m_sc_quotientBits.2.2.1 89 = .ok (.land, 1) := by decide +kernel
theorem d_sc_quotientBits_90 : decode m_sc_quotientBits.2.2.1 90 = .ok (.lconst 1, 1) := by decide +kernel
theorem d_sc_quotientBits_91 : decode m_sc_quotientBits.2.2.1 91 = .ok (.lcmp, 1) := by decide +kernel
theorem d_sc_quotientBits_92 : decode m_sc_quotientBits.2.2.1 92 = .ok (.ifCond .ne 9, 3) := by decide +kernel
theorem d_sc_quotientBits_95 : decode m_sc_quotientBits.2.2.1 95 = .ok (.lload 9, 2) := by decide +kernel
theorem d_sc_quotientBits_97 : decode m_sc_quotientBits.2.2.1 97 = .ok (.lconst 1, 1) := by decide +kernel
theorem d_sc_quotientBits_98 : decode m_sc_quotientBits.2.2.1 98 = .ok (.ladd, 1) := by decide +kernel
theorem d_sc_quotientBits_99 : decode m_sc_quotientBits.2.2.1 99 = .ok (.lstore 9, 2) := by decide +kernel
theorem d_sc_quotientBits_101 : decode m_sc_quotientBits.2.2.1 101 = .ok (.iload_n 2, 1) := by decide +kernel
theorem d_sc_quotientBits_102 : decode m_sc_quotientBits.2.2.1 102 = .ok (.iconst 1, 1) := by decide +kernel
theorem d_sc_quotientBits_103 : decode m_sc_quotientBits.2.2.1 103 = .ok (.isub, 1) := by decide +kernel
theorem d_sc_quotientBits_104 : decode m_sc_quotientBits.2.2.1 104 = .ok (.iload 8, 2) := by decide +kernel
theorem d_sc_quotientBits_106 : decode m_sc_quotientBits.2.2.1 106 = .ok (.isub, 1) := by decide +kernel
theorem d_sc_quotientBits_107 : decode m_sc_quotientBits.2.2.1 107 = .ok (.iload_n 3, 1) := by decide +kernel
theorem d_sc_quotientBits_108 : decode m_sc_quotientBits.2.2.1 108 = .ok (.iadd, 1) := by decide +kernel
theorem d_sc_quotientBits_109 : decode m_sc_quotientBits.2.2.1 109 = .ok (.i2l, 1) := by decide +kernel
theorem d_sc_quotientBits_110 : decode m_sc_quotientBits.2.2.1 110 = .ok (.lstore 13, 2) := by decide +kernel
theorem d_sc_quotientBits_112 : decode m_sc_quotientBits.2.2.1 112 = .ok (.lload 13, 2) := by decide +kernel
theorem d_sc_quotientBits_114 : decode m_sc_quotientBits.2.2.1 114 = .ok (.lconst 1, 1) := by decide +kernel
theorem d_sc_quotientBits_115 : decode m_sc_quotientBits.2.2.1 115 = .ok (.lsub, 1) := by decide +kernel
theorem d_sc_quotientBits_116 : decode m_sc_quotientBits.2.2.1 116 = .ok (.iload_n 2, 1) := by decide +kernel
theorem d_sc_quotientBits_117 : decode m_sc_quotientBits.2.2.1 117 = .ok (.iconst 1, 1) := by decide +kernel
theorem d_sc_quotientBits_118 : decode m_sc_quotientBits.2.2.1 118 = .ok (.isub, 1) := by decide +kernel
theorem d_sc_quotientBits_119 : decode m_sc_quotientBits.2.2.1 119 = .ok (.lshl, 1) := by decide +kernel
theorem d_sc_quotientBits_120 : decode m_sc_quotientBits.2.2.1 120 = .ok (.lload 9, 2) := by decide +kernel
theorem d_sc_quotientBits_122 : decode m_sc_quotientBits.2.2.1 122 = .ok (.ladd, 1) := by decide +kernel
theorem d_sc_quotientBits_123 : decode m_sc_quotientBits.2.2.1 123 = .ok (.lreturn, 1) := by decide +kernel
