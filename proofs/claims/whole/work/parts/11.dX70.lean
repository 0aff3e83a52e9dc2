/-! ===== what each instruction is (printed rows) ===== -/
theorem dX7_init_0 : decode cX7_init 0 = .ok (.aload_n 0, 1) := by decide +kernel
theorem dX7_init_1 : decode cX7_init 1 = .ok (.invokespecial 3, 3) := by decide +kernel
theorem dX7_init_4 : decode cX7_init 4 = .ok (.aload_n 0, 1) := by decide +kernel
theorem dX7_init_5 : decode cX7_init 5 = .ok (.new 9, 3) := by decide +kernel
theorem dX7_init_8 : decode cX7_init 8 = .ok (.dup, 1) := by decide +kernel
theorem dX7_init_9 : decode cX7_init 9 = .ok (.invokespecial 11, 3) := by decide +kernel
theorem dX7_init_12 : decode cX7_init 12 = .ok (.putfield 12, 3) := by decide +kernel
theorem dX7_init_15 : decode cX7_init 15 = .ok (.aload_n 0, 1) := by decide +kernel
theorem dX7_init_16 : decode cX7_init 16 = .ok (.aload_n 1, 1) := by decide +kernel
theorem dX7_init_17 : decode cX7_init 17 = .ok (.putfield 18, 3) := by decide +kernel
theorem dX7_init_20 : decode cX7_init 20 = .ok (.return_, 1) := by decide +kernel
theorem dX7_costOf_0 : decode cX7_costOf 0 = .ok (.aload_n 0, 1) := by decide +kernel
theorem dX7_costOf_1 : decode cX7_costOf 1 = .ok (.getfield 12, 3) := by decide +kernel
theorem dX7_costOf_4 : decode cX7_costOf 4 = .ok (.aload_n 2, 1) := by decide +kernel
theorem dX7_costOf_5 : decode cX7_costOf 5 = .ok (.iload_n 3, 1) := by decide +kernel
theorem dX7_costOf_6 : decode cX7_costOf 6 = .ok (.aload_n 0, 1) := by decide +kernel
theorem dX7_costOf_7 : decode cX7_costOf 7 = .ok (.getfield 18, 3) := by decide +kernel
theorem dX7_costOf_10 : decode cX7_costOf 10 = .ok (.getfield 22, 3) := by decide +kernel
theorem dX7_costOf_13 : decode cX7_costOf 13 = .ok (.invokevirtual 28, 3) := by decide +kernel
theorem dX7_costOf_16 : decode cX7_costOf 16 = .ok (.aload_n 0, 1) := by decide +kernel
theorem dX7_costOf_17 : decode cX7_costOf 17 = .ok (.getfield 12, 3) := by decide +kernel
theorem dX7_costOf_20 : decode cX7_costOf 20 = .ok (.aload_n 2, 1) := by decide +kernel
theorem dX7_costOf_21 : decode cX7_costOf 21 = .ok (.iload_n 3, 1) := by decide +kernel
theorem dX7_costOf_22 : decode cX7_costOf 22 = .ok (.iload 4, 2) := by decide +kernel
theorem dX7_costOf_24 : decode cX7_costOf 24 = .ok (.invokevirtual 32, 3) := by decide +kernel
theorem dX7_costOf_27 : decode cX7_costOf 27 = .ok (.aload_n 0, 1) := by decide +kernel
theorem dX7_costOf_28 : decode cX7_costOf 28 = .ok (.getfield 12, 3) := by decide +kernel
theorem dX7_costOf_31 : decode cX7_costOf 31 = .ok (.aload_n 1, 1) := by decide +kernel
theorem dX7_costOf_32 : decode cX7_costOf 32 = .ok (.sipush 257, 3) := by decide +kernel
theorem dX7_costOf_35 : decode cX7_costOf 35 = .ok (.iconst 5, 1) := by decide +kernel
theorem dX7_costOf_36 : decode cX7_costOf 36 = .ok (.invokevirtual 35, 3) := by decide +kernel
theorem dX7_costOf_39 : decode cX7_costOf 39 = .ok (.istore 5, 2) := by decide +kernel
theorem dX7_costOf_41 : decode cX7_costOf 41 = .ok (.iconst 0, 1) := by decide +kernel
theorem dX7_costOf_42 : decode cX7_costOf 42 = .ok (.iload 5, 2) := by decide +kernel
theorem dX7_costOf_44 : decode cX7_costOf 44 = .ok (.bipush 99, 2) := by decide +kernel
theorem dX7_costOf_46 : decode cX7_costOf 46 = .ok (.invokestatic 39, 3) := by decide +kernel
theorem dX7_costOf_49 : decode cX7_costOf 49 = .ok (.invokestatic 45, 3) := by decide +kernel
theorem dX7_costOf_52 : decode cX7_costOf 52 = .ok (.ireturn, 1) := by decide +kernel
theorem dX7_isBarred_0 : decode cX7_isBarred 0 = .ok (.aload_n 0, 1) := by decide +kernel
theorem dX7_isBarred_1 : decode cX7_isBarred 1 = .ok (.getfield 12, 3) := by decide +kernel
theorem dX7_isBarred_4 : decode cX7_isBarred 4 = .ok (.aload_n 1, 1) := by decide +kernel
theorem dX7_isBarred_5 : decode cX7_isBarred 5 = .ok (.iload_n 2, 1) := by decide +kernel
theorem dX7_isBarred_6 : decode cX7_isBarred 6 = .ok (.aload_n 0, 1) := by decide +kernel
theorem dX7_isBarred_7 : decode cX7_isBarred 7 = .ok (.getfield 18, 3) := by decide +kernel
theorem dX7_isBarred_10 : decode cX7_isBarred 10 = .ok (.getfield 22, 3) := by decide +kernel
theorem dX7_isBarred_13 : decode cX7_isBarred 13 = .ok (.invokevirtual 28, 3) := by decide +kernel
theorem dX7_isBarred_16 : decode cX7_isBarred 16 = .ok (.aload_n 0, 1) := by decide +kernel
theorem dX7_isBarred_17 : decode cX7_isBarred 17 = .ok (.getfield 12, 3) := by decide +kernel
theorem dX7_isBarred_20 : decode cX7_isBarred 20 = .ok (.aload_n 1, 1) := by decide +kernel
theorem dX7_isBarred_21 : decode cX7_isBarred 21 = .ok (.iload_n 2, 1) := by decide +kernel
theorem dX7_isBarred_22 : decode cX7_isBarred 22 = .ok (.iload_n 3, 1) := by decide +kernel
theorem dX7_isBarred_23 : decode cX7_isBarred 23 = .ok (.invokevirtual 32, 3) := by decide +kernel
theorem dX7_isBarred_26 : decode cX7_isBarred 26 = .ok (.aload_n 0, 1) := by decide +kernel
theorem dX7_isBarred_27 : decode cX7_isBarred 27 = .ok (.getfield 12, 3) := by decide +kernel
theorem dX7_isBarred_30 : decode cX7_isBarred 30 = .ok (.aload_n 0, 1) := by decide +kernel
theorem dX7_isBarred_31 : decode cX7_isBarred 31 = .ok (.getfield 18, 3) := by decide +kernel
theorem dX7_isBarred_34 : decode cX7_isBarred 34 = .ok (.invokevirtual 48, 3) := by decide +kernel
theorem dX7_isBarred_37 : decode cX7_isBarred 37 = .ok (.sipush 259, 3) := by decide +kernel
theorem dX7_isBarred_40 : decode cX7_isBarred 40 = .ok (.iconst 0, 1) := by decide +kernel
theorem dX7_isBarred_41 : decode cX7_isBarred 41 = .ok (.invokevirtual 35, 3) := by decide +kernel
theorem dX7_isBarred_44 : decode cX7_isBarred 44 = .ok (.iconst 1, 1) := by decide +kernel
theorem dX7_isBarred_45 : decode cX7_isBarred 45 = .ok (.if_icmp .ne 7, 3) := by decide +kernel
theorem dX7_isBarred_48 : decode cX7_isBarred 48 = .ok (.iconst 1, 1) := by decide +kernel
theorem dX7_isBarred_49 : decode cX7_isBarred 49 = .ok (.goto 4, 3) := by decide +kernel
theorem dX7_isBarred_52 : decode cX7_isBarred 52 = .ok (.iconst 0, 1) := by decide +kernel
theorem dX7_isBarred_53 : decode cX7_isBarred 53 = .ok (.ireturn, 1) := by decide +kernel
theorem dX7_feedOf_0 : decode cX7_feedOf 0 = .ok (.aload_n 0, 1) := by decide +kernel
theorem dX7_feedOf_1 : decode cX7_feedOf 1 = .ok (.getfield 12, 3) := by decide +kernel
theorem dX7_feedOf_4 : decode cX7_feedOf 4 = .ok (.aload_n 1, 1) := by decide +kernel
theorem dX7_feedOf_5 : decode cX7_feedOf 5 = .ok (.iload_n 2, 1) := by decide +kernel
theorem dX7_feedOf_6 : decode cX7_feedOf 6 = .ok (.aload_n 0, 1) := by decide +kernel
theorem dX7_feedOf_7 : decode cX7_feedOf 7 = .ok (.getfield 18, 3) := by decide +kernel
theorem dX7_feedOf_10 : decode cX7_feedOf 10 = .ok (.getfield 22, 3) := by decide +kernel
theorem dX7_feedOf_13 : decode cX7_feedOf 13 = .ok (.invokevirtual 28, 3) := by decide +kernel
theorem dX7_feedOf_16 : decode cX7_feedOf 16 = .ok (.aload_n 0, 1) := by decide +kernel
theorem dX7_feedOf_17 : decode cX7_feedOf 17 = .ok (.getfield 12, 3) := by decide +kernel
theorem dX7_feedOf_20 : decode cX7_feedOf 20 = .ok (.getfield 52, 3) := by decide +kernel
theorem dX7_feedOf_23 : decode cX7_feedOf 23 = .ok (.iconst 3, 1) := by decide +kernel
theorem dX7_feedOf_24 : decode cX7_feedOf 24 = .ok (.aload_n 1, 1) := by decide +kernel
theorem dX7_feedOf_25 : decode cX7_feedOf 25 = .ok (.iload_n 2, 1) := by decide +kernel
theorem dX7_feedOf_26 : decode cX7_feedOf 26 = .ok (.invokevirtual 56, 3) := by decide +kernel
theorem dX7_feedOf_29 : decode cX7_feedOf 29 = .ok (.iastore, 1) := by decide +kernel
theorem dX7_feedOf_30 : decode cX7_feedOf 30 = .ok (.aload_n 0, 1) := by decide +kernel
theorem dX7_feedOf_31 : decode cX7_feedOf 31 = .ok (.getfield 12, 3) := by decide +kernel
theorem dX7_feedOf_34 : decode cX7_feedOf 34 = .ok (.aload_n 0, 1) := by decide +kernel
theorem dX7_feedOf_35 : decode cX7_feedOf 35 = .ok (.getfield 18, 3) := by decide +kernel
theorem dX7_feedOf_38 : decode cX7_feedOf 38 = .ok (.invokevirtual 48, 3) := by decide +kernel
theorem dX7_feedOf_41 : decode cX7_feedOf 41 = .ok (.sipush 258, 3) := by decide +kernel
theorem dX7_feedOf_44 : decode cX7_feedOf 44 = .ok (.iconst 3, 1) := by decide +kernel
theorem dX7_feedOf_45 : decode cX7_feedOf 45 = .ok (.invokevirtual 35, 3) := by decide +kernel
theorem dX7_feedOf_48 : decode cX7_feedOf 48 = .ok (.istore_n 3, 1) := by decide +kernel
theorem dX7_feedOf_49 : decode cX7_feedOf 49 = .ok (.iconst 0, 1) := by decide +kernel
theorem dX7_feedOf_50 : decode cX7_feedOf 50 = .ok (.iload_n 3, 1) := by decide +kernel
theorem dX7_feedOf_51 : decode cX7_feedOf 51 = .ok (.bipush 99, 2) := by decide +kernel
theorem dX7_feedOf_53 : decode cX7_feedOf 53 = .ok (.invokestatic 39, 3) := by decide +kernel
theorem dX7_feedOf_56 : decode cX7_feedOf 56 = .ok (.invokestatic 45, 3) := by decide +kernel
theorem dX7_feedOf_59 : decode cX7_feedOf 59 = .ok (.ireturn, 1) := by decide +kernel
theorem dX7_readingOf_0 : decode cX7_readingOf 0 = .ok (.aload_n 0, 1) := by decide +kernel
theorem dX7_readingOf_1 : decode cX7_readingOf 1 = .ok (.getfield 12, 3) := by decide +kernel
theorem dX7_readingOf_4 : decode cX7_readingOf 4 = .ok (.aload_n 1, 1) := by decide +kernel
theorem dX7_readingOf_5 : decode cX7_readingOf 5 = .ok (.iload_n 3, 1) := by decide +kernel
theorem dX7_readingOf_6 : decode cX7_readingOf 6 = .ok (.aload_n 0, 1) := by decide +kernel
theorem dX7_readingOf_7 : decode cX7_readingOf 7 = .ok (.getfield 18, 3) := by decide +kernel
theorem dX7_readingOf_10 : decode cX7_readingOf 10 = .ok (.getfield 22, 3) := by decide +kernel
theorem dX7_readingOf_13 : decode cX7_readingOf 13 = .ok (.invokevirtual 28, 3) := by decide +kernel
theorem dX7_readingOf_16 : decode cX7_readingOf 16 = .ok (.aload_n 0, 1) := by decide +kernel
theorem dX7_readingOf_17 : decode cX7_readingOf 17 = .ok (.getfield 12, 3) := by decide +kernel
theorem dX7_readingOf_20 : decode cX7_readingOf 20 = .ok (.getfield 52, 3) := by decide +kernel
theorem dX7_readingOf_23 : decode cX7_readingOf 23 = .ok (.bipush 7, 2) := by decide +kernel
theorem dX7_readingOf_25 : decode cX7_readingOf 25 = .ok (.iload_n 2, 1) := by decide +kernel
theorem dX7_readingOf_26 : decode cX7_readingOf 26 = .ok (.iastore, 1) := by decide +kernel
theorem dX7_readingOf_27 : decode cX7_readingOf 27 = .ok (.aload_n 0, 1) := by decide +kernel
theorem dX7_readingOf_28 : decode cX7_readingOf 28 = .ok (.getfield 12, 3) := by decide +kernel
theorem dX7_readingOf_31 : decode cX7_readingOf 31 = .ok (.aload_n 0, 1) := by decide +kernel
theorem dX7_readingOf_32 : decode cX7_readingOf 32 = .ok (.getfield 18, 3) := by decide +kernel
theorem dX7_readingOf_35 : decode cX7_readingOf 35 = .ok (.invokevirtual 48, 3) := by decide +kernel
theorem dX7_readingOf_38 : decode cX7_readingOf 38 = .ok (.sipush 256, 3) := by decide +kernel
theorem dX7_readingOf_41 : decode cX7_readingOf 41 = .ok (.aload_n 0, 1) := by decide +kernel
theorem dX7_readingOf_42 : decode cX7_readingOf 42 = .ok (.getfield 18, 3) := by decide +kernel
theorem dX7_readingOf_45 : decode cX7_readingOf 45 = .ok (.getfield 62, 3) := by decide +kernel
theorem dX7_readingOf_48 : decode cX7_readingOf 48 = .ok (.iload_n 2, 1) := by decide +kernel
theorem dX7_readingOf_49 : decode cX7_readingOf 49 = .ok (.iload_n 3, 1) := by decide +kernel
theorem dX7_readingOf_50 : decode cX7_readingOf 50 = .ok (.invokestatic 65, 3) := by decide +kernel
theorem dX7_readingOf_53 : decode cX7_readingOf 53 = .ok (.iaload, 1) := by decide +kernel
theorem dX7_readingOf_54 : decode cX7_readingOf 54 = .ok (.invokevirtual 35, 3) := by decide +kernel
theorem dX7_readingOf_57 : decode cX7_readingOf 57 = .ok (.istore 4, 2) := by decide +kernel
theorem dX7_readingOf_59 : decode cX7_readingOf 59 = .ok (.bipush (-20), 2) := by decide +kernel
theorem dX7_readingOf_61 : decode cX7_readingOf 61 = .ok (.iload 4, 2) := by decide +kernel
theorem dX7_readingOf_63 : decode cX7_readingOf 63 = .ok (.bipush 20, 2) := by decide +kernel
theorem dX7_readingOf_65 : decode cX7_readingOf 65 = .ok (.invokestatic 39, 3) := by decide +kernel
theorem dX7_readingOf_68 : decode cX7_readingOf 68 = .ok (.invokestatic 45, 3) := by decide +kernel
theorem dX7_readingOf_71 : decode cX7_readingOf 71 = .ok (.ireturn, 1) := by decide +kernel
theorem dX7_doAttack_0 : decode cX7_doAttack 0 = .ok (.iload_n 2, 1) := by decide +kernel
theorem dX7_doAttack_1 : decode cX7_doAttack 1 = .ok (.invokestatic 68, 3) := by decide +kernel
theorem dX7_doAttack_4 : decode cX7_doAttack 4 = .ok (.ifCond .eq 10, 3) := by decide +kernel
theorem dX7_doAttack_7 : decode cX7_doAttack 7 = .ok (.iload_n 3, 1) := by decide +kernel
theorem dX7_doAttack_8 : decode cX7_doAttack 8 = .ok (.invokestatic 72, 3) := by decide +kernel
theorem dX7_doAttack_11 : decode cX7_doAttack 11 = .ok (.ifCond .ne 5, 3) := by decide +kernel
theorem dX7_doAttack_14 : decode cX7_doAttack 14 = .ok (.iconst (-1), 1) := by decide +kernel
theorem dX7_doAttack_15 : decode cX7_doAttack 15 = .ok (.ireturn, 1) := by decide +kernel
theorem dX7_doAttack_16 : decode cX7_doAttack 16 = .ok (.aload_n 1, 1) := by decide +kernel
theorem dX7_doAttack_17 : decode cX7_doAttack 17 = .ok (.iload_n 2, 1) := by decide +kernel
theorem dX7_doAttack_18 : decode cX7_doAttack 18 = .ok (.iload_n 3, 1) := by decide +kernel
theorem dX7_doAttack_19 : decode cX7_doAttack 19 = .ok (.invokevirtual 75, 3) := by decide +kernel
theorem dX7_doAttack_22 : decode cX7_doAttack 22 = .ok (.ifCond .eq 13, 3) := by decide +kernel
theorem dX7_doAttack_25 : decode cX7_doAttack 25 = .ok (.aload_n 0, 1) := by decide +kernel
theorem dX7_doAttack_26 : decode cX7_doAttack 26 = .ok (.aload_n 1, 1) := by decide +kernel
theorem dX7_doAttack_27 : decode cX7_doAttack 27 = .ok (.iload_n 2, 1) := by decide +kernel
theorem dX7_doAttack_28 : decode cX7_doAttack 28 = .ok (.iload_n 3, 1) := by decide +kernel
theorem dX7_doAttack_29 : decode cX7_doAttack 29 = .ok (.invokevirtual 78, 3) := by decide +kernel
theorem dX7_doAttack_32 : decode cX7_doAttack 32 = .ok (.ifCond .eq 6, 3) := by decide +kernel
theorem dX7_doAttack_35 : decode cX7_doAttack 35 = .ok (.bipush (-3), 2) := by decide +kernel
theorem dX7_doAttack_37 : decode cX7_doAttack 37 = .ok (.ireturn, 1) := by decide +kernel
theorem dX7_doAttack_38 : decode cX7_doAttack 38 = .ok (.aload_n 0, 1) := by decide +kernel
theorem dX7_doAttack_39 : decode cX7_doAttack 39 = .ok (.aload_n 0, 1) := by decide +kernel
theorem dX7_doAttack_40 : decode cX7_doAttack 40 = .ok (.getfield 18, 3) := by decide +kernel
theorem dX7_doAttack_43 : decode cX7_doAttack 43 = .ok (.invokevirtual 48, 3) := by decide +kernel
theorem dX7_doAttack_46 : decode cX7_doAttack 46 = .ok (.aload_n 1, 1) := by decide +kernel
theorem dX7_doAttack_47 : decode cX7_doAttack 47 = .ok (.iload_n 2, 1) := by decide +kernel
theorem dX7_doAttack_48 : decode cX7_doAttack 48 = .ok (.iload_n 3, 1) := by decide +kernel
theorem dX7_doAttack_49 : decode cX7_doAttack 49 = .ok (.invokevirtual 82, 3) := by decide +kernel
theorem dX7_doAttack_52 : decode cX7_doAttack 52 = .ok (.istore 4, 2) := by decide +kernel
theorem dX7_doAttack_54 : decode cX7_doAttack 54 = .ok (.aload_n 1, 1) := by decide +kernel
theorem dX7_doAttack_55 : decode cX7_doAttack 55 = .ok (.iload_n 2, 1) := by decide +kernel
theorem dX7_doAttack_56 : decode cX7_doAttack 56 = .ok (.invokevirtual 86, 3) := by decide +kernel
theorem dX7_doAttack_59 : decode cX7_doAttack 59 = .ok (.iload 4, 2) := by decide +kernel
theorem dX7_doAttack_61 : decode cX7_doAttack 61 = .ok (.if_icmp .ge 6, 3) := by decide +kernel
theorem dX7_doAttack_64 : decode cX7_doAttack 64 = .ok (.bipush (-3), 2) := by decide +kernel
theorem dX7_doAttack_66 : decode cX7_doAttack 66 = .ok (.ireturn, 1) := by decide +kernel
theorem dX7_doAttack_67 : decode cX7_doAttack 67 = .ok (.aload_n 1, 1) := by decide +kernel
theorem dX7_doAttack_68 : decode cX7_doAttack 68 = .ok (.iload_n 2, 1) := by decide +kernel
theorem dX7_doAttack_69 : decode cX7_doAttack 69 = .ok (.aload_n 1, 1) := by decide +kernel
theorem dX7_doAttack_70 : decode cX7_doAttack 70 = .ok (.iload_n 2, 1) := by decide +kernel
theorem dX7_doAttack_71 : decode cX7_doAttack 71 = .ok (.invokevirtual 86, 3) := by decide +kernel
theorem dX7_doAttack_74 : decode cX7_doAttack 74 = .ok (.iload 4, 2) := by decide +kernel
theorem dX7_doAttack_76 : decode cX7_doAttack 76 = .ok (.isub, 1) := by decide +kernel
theorem dX7_doAttack_77 : decode cX7_doAttack 77 = .ok (.invokevirtual 89, 3) := by decide +kernel
theorem dX7_doAttack_80 : decode cX7_doAttack 80 = .ok (.aload_n 1, 1) := by decide +kernel
theorem dX7_doAttack_81 : decode cX7_doAttack 81 = .ok (.iload_n 2, 1) := by decide +kernel
theorem dX7_doAttack_82 : decode cX7_doAttack 82 = .ok (.iload_n 3, 1) := by decide +kernel
theorem dX7_doAttack_83 : decode cX7_doAttack 83 = .ok (.invokevirtual 93, 3) := by decide +kernel
theorem dX7_doAttack_86 : decode cX7_doAttack 86 = .ok (.istore 5, 2) := by decide +kernel
theorem dX7_doAttack_88 : decode cX7_doAttack 88 = .ok (.iload 5, 2) := by decide +kernel
theorem dX7_doAttack_90 : decode cX7_doAttack 90 = .ok (.ifCond .eq 16, 3) := by decide +kernel
theorem dX7_doAttack_93 : decode cX7_doAttack 93 = .ok (.aload_n 1, 1) := by decide +kernel
theorem dX7_doAttack_94 : decode cX7_doAttack 94 = .ok (.iload_n 2, 1) := by decide +kernel
theorem dX7_doAttack_95 : decode cX7_doAttack 95 = .ok (.iload_n 3, 1) := by decide +kernel
theorem dX7_doAttack_96 : decode cX7_doAttack 96 = .ok (.invokevirtual 97, 3) := by decide +kernel
theorem dX7_doAttack_99 : decode cX7_doAttack 99 = .ok (.ifCond .eq 7, 3) := by decide +kernel
theorem dX7_doAttack_102 : decode cX7_doAttack 102 = .ok (.iconst 1, 1) := by decide +kernel
theorem dX7_doAttack_103 : decode cX7_doAttack 103 = .ok (.goto 4, 3) := by decide +kernel
theorem dX7_doAttack_106 : decode cX7_doAttack 106 = .ok (.iconst 0, 1) := by decide +kernel
theorem dX7_doAttack_107 : decode cX7_doAttack 107 = .ok (.istore 6, 2) := by decide +kernel
theorem dX7_doAttack_109 : decode cX7_doAttack 109 = .ok (.iload 5, 2) := by decide +kernel
theorem dX7_doAttack_111 : decode cX7_doAttack 111 = .ok (.ifCond .eq 9, 3) := by decide +kernel
theorem dX7_doAttack_114 : decode cX7_doAttack 114 = .ok (.iconst 1, 1) := by decide +kernel
theorem dX7_doAttack_115 : decode cX7_doAttack 115 = .ok (.iload_n 2, 1) := by decide +kernel
theorem dX7_doAttack_116 : decode cX7_doAttack 116 = .ok (.isub, 1) := by decide +kernel
theorem dX7_doAttack_117 : decode cX7_doAttack 117 = .ok (.goto 4, 3) := by decide +kernel
theorem dX7_doAttack_120 : decode cX7_doAttack 120 = .ok (.iload_n 2, 1) := by decide +kernel
theorem dX7_doAttack_121 : decode cX7_doAttack 121 = .ok (.istore 7, 2) := by decide +kernel
theorem dX7_doAttack_123 : decode cX7_doAttack 123 = .ok (.aload_n 1, 1) := by decide +kernel
theorem dX7_doAttack_124 : decode cX7_doAttack 124 = .ok (.iload 7, 2) := by decide +kernel
theorem dX7_doAttack_126 : decode cX7_doAttack 126 = .ok (.iload_n 3, 1) := by decide +kernel
theorem dX7_doAttack_127 : decode cX7_doAttack 127 = .ok (.invokevirtual 75, 3) := by decide +kernel
theorem dX7_doAttack_130 : decode cX7_doAttack 130 = .ok (.istore 8, 2) := by decide +kernel
theorem dX7_doAttack_132 : decode cX7_doAttack 132 = .ok (.aload_n 1, 1) := by decide +kernel
theorem dX7_doAttack_133 : decode cX7_doAttack 133 = .ok (.iload 7, 2) := by decide +kernel
theorem dX7_doAttack_135 : decode cX7_doAttack 135 = .ok (.iload_n 3, 1) := by decide +kernel
theorem dX7_doAttack_136 : decode cX7_doAttack 136 = .ok (.iload 8, 2) := by decide +kernel
theorem dX7_doAttack_138 : decode cX7_doAttack 138 = .ok (.iload 8, 2) := by decide +kernel
theorem dX7_doAttack_140 : decode cX7_doAttack 140 = .ok (.iconst 2, 1) := by decide +kernel
theorem dX7_doAttack_141 : decode cX7_doAttack 141 = .ok (.idiv, 1) := by decide +kernel
theorem dX7_doAttack_142 : decode cX7_doAttack 142 = .ok (.isub, 1) := by decide +kernel
theorem dX7_doAttack_143 : decode cX7_doAttack 143 = .ok (.invokevirtual 100, 3) := by decide +kernel
theorem dX7_doAttack_146 : decode cX7_doAttack 146 = .ok (.iload 6, 2) := by decide +kernel
theorem dX7_doAttack_148 : decode cX7_doAttack 148 = .ok (.ifCond .eq 23, 3) := by decide +kernel
theorem dX7_doAttack_151 : decode cX7_doAttack 151 = .ok (.aload_n 1, 1) := by decide +kernel
theorem dX7_doAttack_152 : decode cX7_doAttack 152 = .ok (.iload_n 3, 1) := by decide +kernel
theorem dX7_doAttack_153 : decode cX7_doAttack 153 = .ok (.aload_n 1, 1) := by decide +kernel
theorem dX7_doAttack_154 : decode cX7_doAttack 154 = .ok (.iload_n 3, 1) := by decide +kernel
theorem dX7_doAttack_155 : decode cX7_doAttack 155 = .ok (.invokevirtual 104, 3) := by decide +kernel
theorem dX7_doAttack_158 : decode cX7_doAttack 158 = .ok (.iload_n 2, 1) := by decide +kernel
theorem dX7_doAttack_159 : decode cX7_doAttack 159 = .ok (.ifCond .ne 7, 3) := by decide +kernel
theorem dX7_doAttack_162 : decode cX7_doAttack 162 = .ok (.iconst 1, 1) := by decide +kernel
theorem dX7_doAttack_163 : decode cX7_doAttack 163 = .ok (.goto 4, 3) := by decide +kernel
theorem dX7_doAttack_166 : decode cX7_doAttack 166 = .ok (.iconst (-1), 1) := by decide +kernel
theorem dX7_doAttack_167 : decode cX7_doAttack 167 = .ok (.iadd, 1) := by decide +kernel
theorem dX7_doAttack_168 : decode cX7_doAttack 168 = .ok (.invokevirtual 107, 3) := by decide +kernel
theorem dX7_doAttack_171 : decode cX7_doAttack 171 = .ok (.iload 6, 2) := by decide +kernel
theorem dX7_doAttack_173 : decode cX7_doAttack 173 = .ok (.ifCond .eq 7, 3) := by decide +kernel
theorem dX7_doAttack_176 : decode cX7_doAttack 176 = .ok (.iconst 1, 1) := by decide +kernel
theorem dX7_doAttack_177 : decode cX7_doAttack 177 = .ok (.goto 4, 3) := by decide +kernel
theorem dX7_doAttack_180 : decode cX7_doAttack 180 = .ok (.iconst 0, 1) := by decide +kernel
theorem dX7_doAttack_181 : decode cX7_doAttack 181 = .ok (.ireturn, 1) := by decide +kernel
theorem dX7_doShift_0 : decode cX7_doShift 0 = .ok (.iload 4, 2) := by decide +kernel
theorem dX7_doShift_2 : decode cX7_doShift 2 = .ok (.ifCond .le 9, 3) := by decide +kernel
theorem dX7_doShift_5 : decode cX7_doShift 5 = .ok (.iload_n 3, 1) := by decide +kernel
theorem dX7_doShift_6 : decode cX7_doShift 6 = .ok (.iconst 1, 1) := by decide +kernel
theorem dX7_doShift_7 : decode cX7_doShift 7 = .ok (.iadd, 1) := by decide +kernel
theorem dX7_doShift_8 : decode cX7_doShift 8 = .ok (.goto 6, 3) := by decide +kernel
theorem dX7_doShift_11 : decode cX7_doShift 11 = .ok (.iload_n 3, 1) := by decide +kernel
theorem dX7_doShift_12 : decode cX7_doShift 12 = .ok (.iconst 1, 1) := by decide +kernel
theorem dX7_doShift_13 : decode cX7_doShift 13 = .ok (.isub, 1) := by decide +kernel
theorem dX7_doShift_14 : decode cX7_doShift 14 = .ok (.istore 5, 2) := by decide +kernel
theorem dX7_doShift_16 : decode cX7_doShift 16 = .ok (.iload_n 2, 1) := by decide +kernel
theorem dX7_doShift_17 : decode cX7_doShift 17 = .ok (.invokestatic 68, 3) := by decide +kernel
theorem dX7_doShift_20 : decode cX7_doShift 20 = .ok (.ifCond .eq 35, 3) := by decide +kernel
theorem dX7_doShift_23 : decode cX7_doShift 23 = .ok (.iload_n 3, 1) := by decide +kernel
theorem dX7_doShift_24 : decode cX7_doShift 24 = .ok (.invokestatic 72, 3) := by decide +kernel
theorem dX7_doShift_27 : decode cX7_doShift 27 = .ok (.ifCond .eq 28, 3) := by decide +kernel
theorem dX7_doShift_30 : decode cX7_doShift 30 = .ok (.iload 5, 2) := by decide +kernel
theorem dX7_doShift_32 : decode cX7_doShift 32 = .ok (.invokestatic 72, 3) := by decide +kernel
theorem dX7_doShift_35 : decode cX7_doShift 35 = .ok (.ifCond .eq 20, 3) := by decide +kernel
theorem dX7_doShift_38 : decode cX7_doShift 38 = .ok (.iload 4, 2) := by decide +kernel
theorem dX7_doShift_40 : decode cX7_doShift 40 = .ok (.ifCond .eq 15, 3) := by decide +kernel
theorem dX7_doShift_43 : decode cX7_doShift 43 = .ok (.iload 4, 2) := by decide +kernel
theorem dX7_doShift_45 : decode cX7_doShift 45 = .ok (.bipush (-99), 2) := by decide +kernel
theorem dX7_doShift_47 : decode cX7_doShift 47 = .ok (.bipush 99, 2) := by decide +kernel
theorem dX7_doShift_49 : decode cX7_doShift 49 = .ok (.invokestatic 110, 3) := by decide +kernel
theorem dX7_doShift_52 : decode cX7_doShift 52 = .ok (.ifCond .ne 5, 3) := by decide +kernel
theorem dX7_doShift_55 : decode cX7_doShift 55 = .ok (.iconst (-1), 1) := by decide +kernel
theorem dX7_doShift_56 : decode cX7_doShift 56 = .ok (.ireturn, 1) := by decide +kernel
theorem dX7_doShift_57 : decode cX7_doShift 57 = .ok (.aload_n 1, 1) := by decide +kernel
theorem dX7_doShift_58 : decode cX7_doShift 58 = .ok (.iload_n 2, 1) := by decide +kernel
theorem dX7_doShift_59 : decode cX7_doShift 59 = .ok (.iload_n 3, 1) := by decide +kernel
theorem dX7_doShift_60 : decode cX7_doShift 60 = .ok (.invokevirtual 75, 3) := by decide +kernel
theorem dX7_doShift_63 : decode cX7_doShift 63 = .ok (.iload 4, 2) := by decide +kernel
theorem dX7_doShift_65 : decode cX7_doShift 65 = .ok (.invokestatic 114, 3) := by decide +kernel
theorem dX7_doShift_68 : decode cX7_doShift 68 = .ok (.isub, 1) := by decide +kernel
theorem dX7_doShift_69 : decode cX7_doShift 69 = .ok (.istore 6, 2) := by decide +kernel
theorem dX7_doShift_71 : decode cX7_doShift 71 = .ok (.aload_n 1, 1) := by decide +kernel
theorem dX7_doShift_72 : decode cX7_doShift 72 = .ok (.iload_n 2, 1) := by decide +kernel
theorem dX7_doShift_73 : decode cX7_doShift 73 = .ok (.iload 5, 2) := by decide +kernel
theorem dX7_doShift_75 : decode cX7_doShift 75 = .ok (.invokevirtual 75, 3) := by decide +kernel
theorem dX7_doShift_78 : decode cX7_doShift 78 = .ok (.iload 4, 2) := by decide +kernel
theorem dX7_doShift_80 : decode cX7_doShift 80 = .ok (.invokestatic 114, 3) := by decide +kernel
theorem dX7_doShift_83 : decode cX7_doShift 83 = .ok (.iadd, 1) := by decide +kernel
theorem dX7_doShift_84 : decode cX7_doShift 84 = .ok (.istore 7, 2) := by decide +kernel
theorem dX7_doShift_86 : decode cX7_doShift 86 = .ok (.iload 6, 2) := by decide +kernel
theorem dX7_doShift_88 : decode cX7_doShift 88 = .ok (.ifCond .lt 10, 3) := by decide +kernel
theorem dX7_doShift_91 : decode cX7_doShift 91 = .ok (.iload 7, 2) := by decide +kernel
theorem dX7_doShift_93 : decode cX7_doShift 93 = .ok (.bipush 99, 2) := by decide +kernel
theorem dX7_doShift_95 : decode cX7_doShift 95 = .ok (.if_icmp .le 6, 3) := by decide +kernel
theorem dX7_doShift_98 : decode cX7_doShift 98 = .ok (.bipush (-3), 2) := by decide +kernel
theorem dX7_doShift_100 : decode cX7_doShift 100 = .ok (.ireturn, 1) := by decide +kernel
theorem dX7_doShift_101 : decode cX7_doShift 101 = .ok (.aload_n 1, 1) := by decide +kernel
theorem dX7_doShift_102 : decode cX7_doShift 102 = .ok (.iload_n 2, 1) := by decide +kernel
theorem dX7_doShift_103 : decode cX7_doShift 103 = .ok (.iload_n 3, 1) := by decide +kernel
theorem dX7_doShift_104 : decode cX7_doShift 104 = .ok (.iload 6, 2) := by decide +kernel
theorem dX7_doShift_106 : decode cX7_doShift 106 = .ok (.invokevirtual 100, 3) := by decide +kernel
theorem dX7_doShift_109 : decode cX7_doShift 109 = .ok (.aload_n 1, 1) := by decide +kernel
theorem dX7_doShift_110 : decode cX7_doShift 110 = .ok (.iload_n 2, 1) := by decide +kernel
theorem dX7_doShift_111 : decode cX7_doShift 111 = .ok (.iload 5, 2) := by decide +kernel
theorem dX7_doShift_113 : decode cX7_doShift 113 = .ok (.iload 7, 2) := by decide +kernel
theorem dX7_doShift_115 : decode cX7_doShift 115 = .ok (.invokevirtual 100, 3) := by decide +kernel
theorem dX7_doShift_118 : decode cX7_doShift 118 = .ok (.iload 6, 2) := by decide +kernel
theorem dX7_doShift_120 : decode cX7_doShift 120 = .ok (.ireturn, 1) := by decide +kernel
theorem dX7_doShow_0 : decode cX7_doShow 0 = .ok (.iload_n 2, 1) := by decide +kernel
theorem dX7_doShow_1 : decode cX7_doShow 1 = .ok (.invokestatic 117, 3) := by decide +kernel
theorem dX7_doShow_4 : decode cX7_doShow 4 = .ok (.ifCond .eq 10, 3) := by decide +kernel
theorem dX7_doShow_7 : decode cX7_doShow 7 = .ok (.iload_n 3, 1) := by decide +kernel
theorem dX7_doShow_8 : decode cX7_doShow 8 = .ok (.invokestatic 68, 3) := by decide +kernel
theorem dX7_doShow_11 : decode cX7_doShow 11 = .ok (.ifCond .ne 5, 3) := by decide +kernel
theorem dX7_doShow_14 : decode cX7_doShow 14 = .ok (.iconst (-1), 1) := by decide +kernel
theorem dX7_doShow_15 : decode cX7_doShow 15 = .ok (.ireturn, 1) := by decide +kernel
theorem dX7_doShow_16 : decode cX7_doShow 16 = .ok (.iconst 0, 1) := by decide +kernel
theorem dX7_doShow_17 : decode cX7_doShow 17 = .ok (.istore 4, 2) := by decide +kernel
theorem dX7_doShow_19 : decode cX7_doShow 19 = .ok (.iload_n 2, 1) := by decide +kernel
theorem dX7_doShow_20 : decode cX7_doShow 20 = .ok (.istore 5, 2) := by decide +kernel
theorem dX7_doShow_22 : decode cX7_doShow 22 = .ok (.iload_n 3, 1) := by decide +kernel
theorem dX7_doShow_23 : decode cX7_doShow 23 = .ok (.istore 6, 2) := by decide +kernel
theorem dX7_doShow_25 : decode cX7_doShow 25 = .ok (.iload 4, 2) := by decide +kernel
theorem dX7_doShow_27 : decode cX7_doShow 27 = .ok (.bipush 16, 2) := by decide +kernel
theorem dX7_doShow_29 : decode cX7_doShow 29 = .ok (.if_icmp .ge 62, 3) := by decide +kernel
theorem dX7_doShow_32 : decode cX7_doShow 32 = .ok (.iload 5, 2) := by decide +kernel
theorem dX7_doShow_34 : decode cX7_doShow 34 = .ok (.invokestatic 117, 3) := by decide +kernel
theorem dX7_doShow_37 : decode cX7_doShow 37 = .ok (.ifCond .eq 54, 3) := by decide +kernel
theorem dX7_doShow_40 : decode cX7_doShow 40 = .ok (.aload_n 1, 1) := by decide +kernel
theorem dX7_doShow_41 : decode cX7_doShow 41 = .ok (.iload 6, 2) := by decide +kernel
theorem dX7_doShow_43 : decode cX7_doShow 43 = .ok (.aload_n 1, 1) := by decide +kernel
theorem dX7_doShow_44 : decode cX7_doShow 44 = .ok (.iload 6, 2) := by decide +kernel
theorem dX7_doShow_46 : decode cX7_doShow 46 = .ok (.invokevirtual 120, 3) := by decide +kernel
theorem dX7_doShow_49 : decode cX7_doShow 49 = .ok (.aload_n 0, 1) := by decide +kernel
theorem dX7_doShow_50 : decode cX7_doShow 50 = .ok (.aload_n 1, 1) := by decide +kernel
theorem dX7_doShow_51 : decode cX7_doShow 51 = .ok (.iload 5, 2) := by decide +kernel
theorem dX7_doShow_53 : decode cX7_doShow 53 = .ok (.iload 6, 2) := by decide +kernel
theorem dX7_doShow_55 : decode cX7_doShow 55 = .ok (.invokevirtual 123, 3) := by decide +kernel
theorem dX7_doShow_58 : decode cX7_doShow 58 = .ok (.iadd, 1) := by decide +kernel
theorem dX7_doShow_59 : decode cX7_doShow 59 = .ok (.invokevirtual 127, 3) := by decide +kernel
theorem dX7_doShow_62 : decode cX7_doShow 62 = .ok (.aload_n 0, 1) := by decide +kernel
theorem dX7_doShow_63 : decode cX7_doShow 63 = .ok (.getfield 18, 3) := by decide +kernel
theorem dX7_doShow_66 : decode cX7_doShow 66 = .ok (.getfield 130, 3) := by decide +kernel
theorem dX7_doShow_69 : decode cX7_doShow 69 = .ok (.iload 5, 2) := by decide +kernel
theorem dX7_doShow_71 : decode cX7_doShow 71 = .ok (.iload 6, 2) := by decide +kernel
theorem dX7_doShow_73 : decode cX7_doShow 73 = .ok (.invokestatic 65, 3) := by decide +kernel
theorem dX7_doShow_76 : decode cX7_doShow 76 = .ok (.iaload, 1) := by decide +kernel
theorem dX7_doShow_77 : decode cX7_doShow 77 = .ok (.istore 5, 2) := by decide +kernel
theorem dX7_doShow_79 : decode cX7_doShow 79 = .ok (.iconst 1, 1) := by decide +kernel
theorem dX7_doShow_80 : decode cX7_doShow 80 = .ok (.iload 6, 2) := by decide +kernel
theorem dX7_doShow_82 : decode cX7_doShow 82 = .ok (.isub, 1) := by decide +kernel
theorem dX7_doShow_83 : decode cX7_doShow 83 = .ok (.istore 6, 2) := by decide +kernel
theorem dX7_doShow_85 : decode cX7_doShow 85 = .ok (.iinc 4 1, 3) := by decide +kernel
theorem dX7_doShow_88 : decode cX7_doShow 88 = .ok (.goto (-63), 3) := by decide +kernel
theorem dX7_doShow_91 : decode cX7_doShow 91 = .ok (.iload 4, 2) := by decide +kernel
theorem dX7_doShow_93 : decode cX7_doShow 93 = .ok (.ireturn, 1) := by decide +kernel
theorem dX7_doPass_0 : decode cX7_doPass 0 = .ok (.aload_n 1, 1) := by decide +kernel
theorem dX7_doPass_1 : decode cX7_doPass 1 = .ok (.invokevirtual 133, 3) := by decide +kernel
theorem dX7_doPass_4 : decode cX7_doPass 4 = .ok (.sipush 999, 3) := by decide +kernel
theorem dX7_doPass_7 : decode cX7_doPass 7 = .ok (.if_icmp .lt 6, 3) := by decide +kernel
theorem dX7_doPass_10 : decode cX7_doPass 10 = .ok (.bipush (-3), 2) := by decide +kernel
theorem dX7_doPass_12 : decode cX7_doPass 12 = .ok (.ireturn, 1) := by decide +kernel
theorem dX7_doPass_13 : decode cX7_doPass 13 = .ok (.aload_n 0, 1) := by decide +kernel
theorem dX7_doPass_14 : decode cX7_doPass 14 = .ok (.aload_n 1, 1) := by decide +kernel
theorem dX7_doPass_15 : decode cX7_doPass 15 = .ok (.iconst 0, 1) := by decide +kernel
theorem dX7_doPass_16 : decode cX7_doPass 16 = .ok (.invokevirtual 137, 3) := by decide +kernel
theorem dX7_doPass_19 : decode cX7_doPass 19 = .ok (.istore_n 2, 1) := by decide +kernel
theorem dX7_doPass_20 : decode cX7_doPass 20 = .ok (.aload_n 0, 1) := by decide +kernel
theorem dX7_doPass_21 : decode cX7_doPass 21 = .ok (.aload_n 1, 1) := by decide +kernel
theorem dX7_doPass_22 : decode cX7_doPass 22 = .ok (.iconst 1, 1) := by decide +kernel
theorem dX7_doPass_23 : decode cX7_doPass 23 = .ok (.invokevirtual 137, 3) := by decide +kernel
theorem dX7_doPass_26 : decode cX7_doPass 26 = .ok (.istore_n 3, 1) := by decide +kernel
theorem dX7_doPass_27 : decode cX7_doPass 27 = .ok (.aload_n 1, 1) := by decide +kernel
theorem dX7_doPass_28 : decode cX7_doPass 28 = .ok (.iconst 0, 1) := by decide +kernel
theorem dX7_doPass_29 : decode cX7_doPass 29 = .ok (.aload_n 1, 1) := by decide +kernel
theorem dX7_doPass_30 : decode cX7_doPass 30 = .ok (.iconst 0, 1) := by decide +kernel
theorem dX7_doPass_31 : decode cX7_doPass 31 = .ok (.invokevirtual 86, 3) := by decide +kernel
theorem dX7_doPass_34 : decode cX7_doPass 34 = .ok (.iload_n 2, 1) := by decide +kernel
theorem dX7_doPass_35 : decode cX7_doPass 35 = .ok (.iadd, 1) := by decide +kernel
theorem dX7_doPass_36 : decode cX7_doPass 36 = .ok (.invokevirtual 89, 3) := by decide +kernel
theorem dX7_doPass_39 : decode cX7_doPass 39 = .ok (.aload_n 1, 1) := by decide +kernel
theorem dX7_doPass_40 : decode cX7_doPass 40 = .ok (.iconst 1, 1) := by decide +kernel
theorem dX7_doPass_41 : decode cX7_doPass 41 = .ok (.aload_n 1, 1) := by decide +kernel
theorem dX7_doPass_42 : decode cX7_doPass 42 = .ok (.iconst 1, 1) := by decide +kernel
theorem dX7_doPass_43 : decode cX7_doPass 43 = .ok (.invokevirtual 86, 3) := by decide +kernel
theorem dX7_doPass_46 : decode cX7_doPass 46 = .ok (.iload_n 3, 1) := by decide +kernel
theorem dX7_doPass_47 : decode cX7_doPass 47 = .ok (.iadd, 1) := by decide +kernel
theorem dX7_doPass_48 : decode cX7_doPass 48 = .ok (.invokevirtual 89, 3) := by decide +kernel
theorem dX7_doPass_51 : decode cX7_doPass 51 = .ok (.aload_n 1, 1) := by decide +kernel
theorem dX7_doPass_52 : decode cX7_doPass 52 = .ok (.aload_n 1, 1) := by decide +kernel
theorem dX7_doPass_53 : decode cX7_doPass 53 = .ok (.invokevirtual 133, 3) := by decide +kernel
theorem dX7_doPass_56 : decode cX7_doPass 56 = .ok (.iconst 1, 1) := by decide +kernel
theorem dX7_doPass_57 : decode cX7_doPass 57 = .ok (.iadd, 1) := by decide +kernel
theorem dX7_doPass_58 : decode cX7_doPass 58 = .ok (.invokevirtual 141, 3) := by decide +kernel
theorem dX7_doPass_61 : decode cX7_doPass 61 = .ok (.aload_n 1, 1) := by decide +kernel
theorem dX7_doPass_62 : decode cX7_doPass 62 = .ok (.invokevirtual 133, 3) := by decide +kernel
theorem dX7_doPass_65 : decode cX7_doPass 65 = .ok (.ireturn, 1) := by decide +kernel
theorem dX7_runDecades_0 : decode cX7_runDecades 0 = .ok (.iconst 0, 1) := by decide +kernel
theorem dX7_runDecades_1 : decode cX7_runDecades 1 = .ok (.istore 4, 2) := by decide +kernel
theorem dX7_runDecades_3 : decode cX7_runDecades 3 = .ok (.iload_n 2, 1) := by decide +kernel
theorem dX7_runDecades_4 : decode cX7_runDecades 4 = .ok (.istore 5, 2) := by decide +kernel
theorem dX7_runDecades_6 : decode cX7_runDecades 6 = .ok (.iconst 0, 1) := by decide +kernel
theorem dX7_runDecades_7 : decode cX7_runDecades 7 = .ok (.istore 6, 2) := by decide +kernel
theorem dX7_runDecades_9 : decode cX7_runDecades 9 = .ok (.iload 6, 2) := by decide +kernel
theorem dX7_runDecades_11 : decode cX7_runDecades 11 = .ok (.iload_n 3, 1) := by decide +kernel
theorem dX7_runDecades_12 : decode cX7_runDecades 12 = .ok (.if_icmp .ge 105, 3) := by decide +kernel
theorem dX7_runDecades_15 : decode cX7_runDecades 15 = .ok (.aload_n 1, 1) := by decide +kernel
theorem dX7_runDecades_16 : decode cX7_runDecades 16 = .ok (.invokevirtual 133, 3) := by decide +kernel
theorem dX7_runDecades_19 : decode cX7_runDecades 19 = .ok (.sipush 999, 3) := by decide +kernel
theorem dX7_runDecades_22 : decode cX7_runDecades 22 = .ok (.if_icmp .ge 95, 3) := by decide +kernel
theorem dX7_runDecades_25 : decode cX7_runDecades 25 = .ok (.iload 5, 2) := by decide +kernel
theorem dX7_runDecades_27 : decode cX7_runDecades 27 = .ok (.invokestatic 145, 3) := by decide +kernel
theorem dX7_runDecades_30 : decode cX7_runDecades 30 = .ok (.istore 5, 2) := by decide +kernel
theorem dX7_runDecades_32 : decode cX7_runDecades 32 = .ok (.iload 5, 2) := by decide +kernel
theorem dX7_runDecades_34 : decode cX7_runDecades 34 = .ok (.iconst 2, 1) := by decide +kernel
theorem dX7_runDecades_35 : decode cX7_runDecades 35 = .ok (.irem, 1) := by decide +kernel
theorem dX7_runDecades_36 : decode cX7_runDecades 36 = .ok (.istore 7, 2) := by decide +kernel
theorem dX7_runDecades_38 : decode cX7_runDecades 38 = .ok (.iload 5, 2) := by decide +kernel
theorem dX7_runDecades_40 : decode cX7_runDecades 40 = .ok (.invokestatic 145, 3) := by decide +kernel
theorem dX7_runDecades_43 : decode cX7_runDecades 43 = .ok (.istore 5, 2) := by decide +kernel
theorem dX7_runDecades_45 : decode cX7_runDecades 45 = .ok (.iload 5, 2) := by decide +kernel
theorem dX7_runDecades_47 : decode cX7_runDecades 47 = .ok (.bipush 8, 2) := by decide +kernel
theorem dX7_runDecades_49 : decode cX7_runDecades 49 = .ok (.irem, 1) := by decide +kernel
theorem dX7_runDecades_50 : decode cX7_runDecades 50 = .ok (.istore 8, 2) := by decide +kernel
theorem dX7_runDecades_52 : decode cX7_runDecades 52 = .ok (.iload 5, 2) := by decide +kernel
theorem dX7_runDecades_54 : decode cX7_runDecades 54 = .ok (.invokestatic 145, 3) := by decide +kernel
theorem dX7_runDecades_57 : decode cX7_runDecades 57 = .ok (.istore 5, 2) := by decide +kernel
theorem dX7_runDecades_59 : decode cX7_runDecades 59 = .ok (.iload 5, 2) := by decide +kernel
theorem dX7_runDecades_61 : decode cX7_runDecades 61 = .ok (.iconst 3, 1) := by decide +kernel
theorem dX7_runDecades_62 : decode cX7_runDecades 62 = .ok (.irem, 1) := by decide +kernel
theorem dX7_runDecades_63 : decode cX7_runDecades 63 = .ok (.istore 9, 2) := by decide +kernel
theorem dX7_runDecades_65 : decode cX7_runDecades 65 = .ok (.iload 9, 2) := by decide +kernel
theorem dX7_runDecades_67 : decode cX7_runDecades 67 = .ok (.ifCond .ne 22, 3) := by decide +kernel
theorem dX7_runDecades_70 : decode cX7_runDecades 70 = .ok (.aload_n 0, 1) := by decide +kernel
theorem dX7_runDecades_71 : decode cX7_runDecades 71 = .ok (.aload_n 1, 1) := by decide +kernel
theorem dX7_runDecades_72 : decode cX7_runDecades 72 = .ok (.iload 7, 2) := by decide +kernel
theorem dX7_runDecades_74 : decode cX7_runDecades 74 = .ok (.iload 8, 2) := by decide +kernel
theorem dX7_runDecades_76 : decode cX7_runDecades 76 = .ok (.invokevirtual 148, 3) := by decide +kernel
theorem dX7_runDecades_79 : decode cX7_runDecades 79 = .ok (.iconst 1, 1) := by decide +kernel
theorem dX7_runDecades_80 : decode cX7_runDecades 80 = .ok (.if_icmp .ne 9, 3) := by decide +kernel
theorem dX7_runDecades_83 : decode cX7_runDecades 83 = .ok (.iinc 4 1, 3) := by decide +kernel
theorem dX7_runDecades_86 : decode cX7_runDecades 86 = .ok (.goto 19, 3) := by decide +kernel
theorem dX7_runDecades_89 : decode cX7_runDecades 89 = .ok (.iload 9, 2) := by decide +kernel
theorem dX7_runDecades_91 : decode cX7_runDecades 91 = .ok (.iconst 1, 1) := by decide +kernel
theorem dX7_runDecades_92 : decode cX7_runDecades 92 = .ok (.if_icmp .ne 13, 3) := by decide +kernel
theorem dX7_runDecades_95 : decode cX7_runDecades 95 = .ok (.aload_n 0, 1) := by decide +kernel
theorem dX7_runDecades_96 : decode cX7_runDecades 96 = .ok (.aload_n 1, 1) := by decide +kernel
theorem dX7_runDecades_97 : decode cX7_runDecades 97 = .ok (.iload 8, 2) := by decide +kernel
theorem dX7_runDecades_99 : decode cX7_runDecades 99 = .ok (.iload 7, 2) := by decide +kernel
theorem dX7_runDecades_101 : decode cX7_runDecades 101 = .ok (.invokevirtual 151, 3) := by decide +kernel
theorem dX7_runDecades_104 : decode cX7_runDecades 104 = .ok (.pop, 1) := by decide +kernel
theorem dX7_runDecades_105 : decode cX7_runDecades 105 = .ok (.aload_n 0, 1) := by decide +kernel
theorem dX7_runDecades_106 : decode cX7_runDecades 106 = .ok (.aload_n 1, 1) := by decide +kernel
theorem dX7_runDecades_107 : decode cX7_runDecades 107 = .ok (.invokevirtual 154, 3) := by decide +kernel
theorem dX7_runDecades_110 : decode cX7_runDecades 110 = .ok (.pop, 1) := by decide +kernel
theorem dX7_runDecades_111 : decode cX7_runDecades 111 = .ok (.iinc 6 1, 3) := by decide +kernel
theorem dX7_runDecades_114 : decode cX7_runDecades 114 = .ok (.goto (-105), 3) := by decide +kernel
theorem dX7_runDecades_117 : decode cX7_runDecades 117 = .ok (.iload 4, 2) := by decide +kernel
theorem dX7_runDecades_119 : decode cX7_runDecades 119 = .ok (.ireturn, 1) := by decide +kernel
theorem dX7_nextDraw_0 : decode cX7_nextDraw 0 = .ok (.iload_n 0, 1) := by decide +kernel
theorem dX7_nextDraw_1 : decode cX7_nextDraw 1 = .ok (.i2l, 1) := by decide +kernel
theorem dX7_nextDraw_2 : decode cX7_nextDraw 2 = .ok (.ldc2_w 158, 3) := by decide +kernel
theorem dX7_nextDraw_5 : decode cX7_nextDraw 5 = .ok (.lmul, 1) := by decide +kernel
theorem dX7_nextDraw_6 : decode cX7_nextDraw 6 = .ok (.ldc2_w 160, 3) := by decide +kernel
theorem dX7_nextDraw_9 : decode cX7_nextDraw 9 = .ok (.ladd, 1) := by decide +kernel
theorem dX7_nextDraw_10 : decode cX7_nextDraw 10 = .ok (.ldc2_w 162, 3) := by decide +kernel
theorem dX7_nextDraw_13 : decode cX7_nextDraw 13 = .ok (.lrem, 1) := by decide +kernel
theorem dX7_nextDraw_14 : decode cX7_nextDraw 14 = .ok (.l2i, 1) := by decide +kernel
theorem dX7_nextDraw_15 : decode cX7_nextDraw 15 = .ok (.ireturn, 1) := by decide +kernel
