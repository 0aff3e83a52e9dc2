/-! ===== what each instruction is (printed rows) ===== -/
theorem dX4_init_0 : decode cX4_init 0 = .ok (.aload_n 0, 1) := by decide +kernel
theorem dX4_init_1 : decode cX4_init 1 = .ok (.invokespecial 3, 3) := by decide +kernel
theorem dX4_init_4 : decode cX4_init 4 = .ok (.aload_n 0, 1) := by decide +kernel
theorem dX4_init_5 : decode cX4_init 5 = .ok (.sipush 401, 3) := by decide +kernel
theorem dX4_init_8 : decode cX4_init 8 = .ok (.newarray .int, 2) := by decide +kernel
theorem dX4_init_10 : decode cX4_init 10 = .ok (.putfield 9, 3) := by decide +kernel
theorem dX4_init_13 : decode cX4_init 13 = .ok (.aload_n 0, 1) := by decide +kernel
theorem dX4_init_14 : decode cX4_init 14 = .ok (.sipush 401, 3) := by decide +kernel
theorem dX4_init_17 : decode cX4_init 17 = .ok (.newarray .int, 2) := by decide +kernel
theorem dX4_init_19 : decode cX4_init 19 = .ok (.putfield 15, 3) := by decide +kernel
theorem dX4_init_22 : decode cX4_init 22 = .ok (.aload_n 0, 1) := by decide +kernel
theorem dX4_init_23 : decode cX4_init 23 = .ok (.sipush 401, 3) := by decide +kernel
theorem dX4_init_26 : decode cX4_init 26 = .ok (.newarray .int, 2) := by decide +kernel
theorem dX4_init_28 : decode cX4_init 28 = .ok (.putfield 18, 3) := by decide +kernel
theorem dX4_init_31 : decode cX4_init 31 = .ok (.aload_n 0, 1) := by decide +kernel
theorem dX4_init_32 : decode cX4_init 32 = .ok (.new 21, 3) := by decide +kernel
theorem dX4_init_35 : decode cX4_init 35 = .ok (.dup, 1) := by decide +kernel
theorem dX4_init_36 : decode cX4_init 36 = .ok (.invokespecial 23, 3) := by decide +kernel
theorem dX4_init_39 : decode cX4_init 39 = .ok (.putfield 24, 3) := by decide +kernel
theorem dX4_init_42 : decode cX4_init 42 = .ok (.return_, 1) := by decide +kernel
theorem dX4_readText_0 : decode cX4_readText 0 = .ok (.aload_n 0, 1) := by decide +kernel
theorem dX4_readText_1 : decode cX4_readText 1 = .ok (.iload_n 3, 1) := by decide +kernel
theorem dX4_readText_2 : decode cX4_readText 2 = .ok (.putfield 28, 3) := by decide +kernel
theorem dX4_readText_5 : decode cX4_readText 5 = .ok (.aload_n 0, 1) := by decide +kernel
theorem dX4_readText_6 : decode cX4_readText 6 = .ok (.iconst 0, 1) := by decide +kernel
theorem dX4_readText_7 : decode cX4_readText 7 = .ok (.putfield 32, 3) := by decide +kernel
theorem dX4_readText_10 : decode cX4_readText 10 = .ok (.aload_n 0, 1) := by decide +kernel
theorem dX4_readText_11 : decode cX4_readText 11 = .ok (.iconst 0, 1) := by decide +kernel
theorem dX4_readText_12 : decode cX4_readText 12 = .ok (.putfield 36, 3) := by decide +kernel
theorem dX4_readText_15 : decode cX4_readText 15 = .ok (.aload_n 0, 1) := by decide +kernel
theorem dX4_readText_16 : decode cX4_readText 16 = .ok (.iconst 0, 1) := by decide +kernel
theorem dX4_readText_17 : decode cX4_readText 17 = .ok (.putfield 39, 3) := by decide +kernel
theorem dX4_readText_20 : decode cX4_readText 20 = .ok (.aload_n 0, 1) := by decide +kernel
theorem dX4_readText_21 : decode cX4_readText 21 = .ok (.getfield 24, 3) := by decide +kernel
theorem dX4_readText_24 : decode cX4_readText 24 = .ok (.invokevirtual 42, 3) := by decide +kernel
theorem dX4_readText_27 : decode cX4_readText 27 = .ok (.aload_n 0, 1) := by decide +kernel
theorem dX4_readText_28 : decode cX4_readText 28 = .ok (.aload_n 1, 1) := by decide +kernel
theorem dX4_readText_29 : decode cX4_readText 29 = .ok (.iload_n 2, 1) := by decide +kernel
theorem dX4_readText_30 : decode cX4_readText 30 = .ok (.invokevirtual 45, 3) := by decide +kernel
theorem dX4_readText_33 : decode cX4_readText 33 = .ok (.iconst 1, 1) := by decide +kernel
theorem dX4_readText_34 : decode cX4_readText 34 = .ok (.istore 4, 2) := by decide +kernel
theorem dX4_readText_36 : decode cX4_readText 36 = .ok (.iconst 0, 1) := by decide +kernel
theorem dX4_readText_37 : decode cX4_readText 37 = .ok (.istore 5, 2) := by decide +kernel
theorem dX4_readText_39 : decode cX4_readText 39 = .ok (.iload 5, 2) := by decide +kernel
theorem dX4_readText_41 : decode cX4_readText 41 = .ok (.bipush 12, 2) := by decide +kernel
theorem dX4_readText_43 : decode cX4_readText 43 = .ok (.if_icmp .ge 39, 3) := by decide +kernel
theorem dX4_readText_46 : decode cX4_readText 46 = .ok (.iload 4, 2) := by decide +kernel
theorem dX4_readText_48 : decode cX4_readText 48 = .ok (.ifCond .eq 34, 3) := by decide +kernel
theorem dX4_readText_51 : decode cX4_readText 51 = .ok (.aload_n 0, 1) := by decide +kernel
theorem dX4_readText_52 : decode cX4_readText 52 = .ok (.invokevirtual 49, 3) := by decide +kernel
theorem dX4_readText_55 : decode cX4_readText 55 = .ok (.ifCond .ne 13, 3) := by decide +kernel
theorem dX4_readText_58 : decode cX4_readText 58 = .ok (.aload_n 0, 1) := by decide +kernel
theorem dX4_readText_59 : decode cX4_readText 59 = .ok (.getfield 18, 3) := by decide +kernel
theorem dX4_readText_62 : decode cX4_readText 62 = .ok (.aload_n 0, 1) := by decide +kernel
theorem dX4_readText_63 : decode cX4_readText 63 = .ok (.getfield 36, 3) := by decide +kernel
theorem dX4_readText_66 : decode cX4_readText 66 = .ok (.iaload, 1) := by decide +kernel
theorem dX4_readText_67 : decode cX4_readText 67 = .ok (.ireturn, 1) := by decide +kernel
theorem dX4_readText_68 : decode cX4_readText 68 = .ok (.aload_n 0, 1) := by decide +kernel
theorem dX4_readText_69 : decode cX4_readText 69 = .ok (.bipush 59, 2) := by decide +kernel
theorem dX4_readText_71 : decode cX4_readText 71 = .ok (.invokevirtual 53, 3) := by decide +kernel
theorem dX4_readText_74 : decode cX4_readText 74 = .ok (.istore 4, 2) := by decide +kernel
theorem dX4_readText_76 : decode cX4_readText 76 = .ok (.iinc 5 1, 3) := by decide +kernel
theorem dX4_readText_79 : decode cX4_readText 79 = .ok (.goto (-40), 3) := by decide +kernel
theorem dX4_readText_82 : decode cX4_readText 82 = .ok (.iload 4, 2) := by decide +kernel
theorem dX4_readText_84 : decode cX4_readText 84 = .ok (.ifCond .ne 22, 3) := by decide +kernel
theorem dX4_readText_87 : decode cX4_readText 87 = .ok (.aload_n 0, 1) := by decide +kernel
theorem dX4_readText_88 : decode cX4_readText 88 = .ok (.getfield 9, 3) := by decide +kernel
theorem dX4_readText_91 : decode cX4_readText 91 = .ok (.aload_n 0, 1) := by decide +kernel
theorem dX4_readText_92 : decode cX4_readText 92 = .ok (.getfield 36, 3) := by decide +kernel
theorem dX4_readText_95 : decode cX4_readText 95 = .ok (.iaload, 1) := by decide +kernel
theorem dX4_readText_96 : decode cX4_readText 96 = .ok (.sipush 286, 3) := by decide +kernel
theorem dX4_readText_99 : decode cX4_readText 99 = .ok (.if_icmp .ne 7, 3) := by decide +kernel
theorem dX4_readText_102 : decode cX4_readText 102 = .ok (.iconst (-1), 1) := by decide +kernel
theorem dX4_readText_103 : decode cX4_readText 103 = .ok (.goto 12, 3) := by decide +kernel
theorem dX4_readText_106 : decode cX4_readText 106 = .ok (.aload_n 0, 1) := by decide +kernel
theorem dX4_readText_107 : decode cX4_readText 107 = .ok (.getfield 18, 3) := by decide +kernel
theorem dX4_readText_110 : decode cX4_readText 110 = .ok (.aload_n 0, 1) := by decide +kernel
theorem dX4_readText_111 : decode cX4_readText 111 = .ok (.getfield 36, 3) := by decide +kernel
theorem dX4_readText_114 : decode cX4_readText 114 = .ok (.iaload, 1) := by decide +kernel
theorem dX4_readText_115 : decode cX4_readText 115 = .ok (.ireturn, 1) := by decide +kernel
theorem dX4_splitTape_0 : decode cX4_splitTape 0 = .ok (.iconst 0, 1) := by decide +kernel
theorem dX4_splitTape_1 : decode cX4_splitTape 1 = .ok (.istore_n 3, 1) := by decide +kernel
theorem dX4_splitTape_2 : decode cX4_splitTape 2 = .ok (.iload_n 3, 1) := by decide +kernel
theorem dX4_splitTape_3 : decode cX4_splitTape 3 = .ok (.iload_n 2, 1) := by decide +kernel
theorem dX4_splitTape_4 : decode cX4_splitTape 4 = .ok (.if_icmp .ge 115, 3) := by decide +kernel
theorem dX4_splitTape_7 : decode cX4_splitTape 7 = .ok (.iload_n 3, 1) := by decide +kernel
theorem dX4_splitTape_8 : decode cX4_splitTape 8 = .ok (.istore 4, 2) := by decide +kernel
theorem dX4_splitTape_10 : decode cX4_splitTape 10 = .ok (.aload_n 1, 1) := by decide +kernel
theorem dX4_splitTape_11 : decode cX4_splitTape 11 = .ok (.iload_n 3, 1) := by decide +kernel
theorem dX4_splitTape_12 : decode cX4_splitTape 12 = .ok (.iaload, 1) := by decide +kernel
theorem dX4_splitTape_13 : decode cX4_splitTape 13 = .ok (.istore 5, 2) := by decide +kernel
theorem dX4_splitTape_15 : decode cX4_splitTape 15 = .ok (.iload 5, 2) := by decide +kernel
theorem dX4_splitTape_17 : decode cX4_splitTape 17 = .ok (.invokestatic 57, 3) := by decide +kernel
theorem dX4_splitTape_20 : decode cX4_splitTape 20 = .ok (.istore 6, 2) := by decide +kernel
theorem dX4_splitTape_22 : decode cX4_splitTape 22 = .ok (.iinc 3 1, 3) := by decide +kernel
theorem dX4_splitTape_25 : decode cX4_splitTape 25 = .ok (.iload_n 3, 1) := by decide +kernel
theorem dX4_splitTape_26 : decode cX4_splitTape 26 = .ok (.iload_n 2, 1) := by decide +kernel
theorem dX4_splitTape_27 : decode cX4_splitTape 27 = .ok (.if_icmp .ge 25, 3) := by decide +kernel
theorem dX4_splitTape_30 : decode cX4_splitTape 30 = .ok (.iload 6, 2) := by decide +kernel
theorem dX4_splitTape_32 : decode cX4_splitTape 32 = .ok (.ifCond .eq 20, 3) := by decide +kernel
theorem dX4_splitTape_35 : decode cX4_splitTape 35 = .ok (.aload_n 1, 1) := by decide +kernel
theorem dX4_splitTape_36 : decode cX4_splitTape 36 = .ok (.iload_n 3, 1) := by decide +kernel
theorem dX4_splitTape_37 : decode cX4_splitTape 37 = .ok (.iaload, 1) := by decide +kernel
theorem dX4_splitTape_38 : decode cX4_splitTape 38 = .ok (.invokestatic 57, 3) := by decide +kernel
theorem dX4_splitTape_41 : decode cX4_splitTape 41 = .ok (.iload 6, 2) := by decide +kernel
theorem dX4_splitTape_43 : decode cX4_splitTape 43 = .ok (.if_icmp .ne 9, 3) := by decide +kernel
theorem dX4_splitTape_46 : decode cX4_splitTape 46 = .ok (.iinc 3 1, 3) := by decide +kernel
theorem dX4_splitTape_49 : decode cX4_splitTape 49 = .ok (.goto (-24), 3) := by decide +kernel
theorem dX4_splitTape_52 : decode cX4_splitTape 52 = .ok (.iload 6, 2) := by decide +kernel
theorem dX4_splitTape_54 : decode cX4_splitTape 54 = .ok (.iconst 1, 1) := by decide +kernel
theorem dX4_splitTape_55 : decode cX4_splitTape 55 = .ok (.if_icmp .ne 20, 3) := by decide +kernel
theorem dX4_splitTape_58 : decode cX4_splitTape 58 = .ok (.aload_n 0, 1) := by decide +kernel
theorem dX4_splitTape_59 : decode cX4_splitTape 59 = .ok (.aload_n 1, 1) := by decide +kernel
theorem dX4_splitTape_60 : decode cX4_splitTape 60 = .ok (.iload 4, 2) := by decide +kernel
theorem dX4_splitTape_62 : decode cX4_splitTape 62 = .ok (.iload_n 3, 1) := by decide +kernel
theorem dX4_splitTape_63 : decode cX4_splitTape 63 = .ok (.invokestatic 61, 3) := by decide +kernel
theorem dX4_splitTape_66 : decode cX4_splitTape 66 = .ok (.iconst 0, 1) := by decide +kernel
theorem dX4_splitTape_67 : decode cX4_splitTape 67 = .ok (.iload 4, 2) := by decide +kernel
theorem dX4_splitTape_69 : decode cX4_splitTape 69 = .ok (.invokevirtual 65, 3) := by decide +kernel
theorem dX4_splitTape_72 : decode cX4_splitTape 72 = .ok (.goto 44, 3) := by decide +kernel
theorem dX4_splitTape_75 : decode cX4_splitTape 75 = .ok (.iload 6, 2) := by decide +kernel
theorem dX4_splitTape_77 : decode cX4_splitTape 77 = .ok (.iconst 2, 1) := by decide +kernel
theorem dX4_splitTape_78 : decode cX4_splitTape 78 = .ok (.if_icmp .ne 22, 3) := by decide +kernel
theorem dX4_splitTape_81 : decode cX4_splitTape 81 = .ok (.aload_n 0, 1) := by decide +kernel
theorem dX4_splitTape_82 : decode cX4_splitTape 82 = .ok (.sipush 285, 3) := by decide +kernel
theorem dX4_splitTape_85 : decode cX4_splitTape 85 = .ok (.aload_n 1, 1) := by decide +kernel
theorem dX4_splitTape_86 : decode cX4_splitTape 86 = .ok (.iload 4, 2) := by decide +kernel
theorem dX4_splitTape_88 : decode cX4_splitTape 88 = .ok (.iload_n 3, 1) := by decide +kernel
theorem dX4_splitTape_89 : decode cX4_splitTape 89 = .ok (.invokestatic 69, 3) := by decide +kernel
theorem dX4_splitTape_92 : decode cX4_splitTape 92 = .ok (.iload 4, 2) := by decide +kernel
theorem dX4_splitTape_94 : decode cX4_splitTape 94 = .ok (.invokevirtual 65, 3) := by decide +kernel
theorem dX4_splitTape_97 : decode cX4_splitTape 97 = .ok (.goto 19, 3) := by decide +kernel
theorem dX4_splitTape_100 : decode cX4_splitTape 100 = .ok (.iload 5, 2) := by decide +kernel
theorem dX4_splitTape_102 : decode cX4_splitTape 102 = .ok (.bipush 32, 2) := by decide +kernel
theorem dX4_splitTape_104 : decode cX4_splitTape 104 = .ok (.if_icmp .eq 12, 3) := by decide +kernel
theorem dX4_splitTape_107 : decode cX4_splitTape 107 = .ok (.aload_n 0, 1) := by decide +kernel
theorem dX4_splitTape_108 : decode cX4_splitTape 108 = .ok (.iload 5, 2) := by decide +kernel
theorem dX4_splitTape_110 : decode cX4_splitTape 110 = .ok (.iconst 0, 1) := by decide +kernel
theorem dX4_splitTape_111 : decode cX4_splitTape 111 = .ok (.iload 4, 2) := by decide +kernel
theorem dX4_splitTape_113 : decode cX4_splitTape 113 = .ok (.invokevirtual 65, 3) := by decide +kernel
theorem dX4_splitTape_116 : decode cX4_splitTape 116 = .ok (.goto (-114), 3) := by decide +kernel
theorem dX4_splitTape_119 : decode cX4_splitTape 119 = .ok (.aload_n 0, 1) := by decide +kernel
theorem dX4_splitTape_120 : decode cX4_splitTape 120 = .ok (.sipush 286, 3) := by decide +kernel
theorem dX4_splitTape_123 : decode cX4_splitTape 123 = .ok (.iconst 0, 1) := by decide +kernel
theorem dX4_splitTape_124 : decode cX4_splitTape 124 = .ok (.iload_n 2, 1) := by decide +kernel
theorem dX4_splitTape_125 : decode cX4_splitTape 125 = .ok (.invokevirtual 65, 3) := by decide +kernel
theorem dX4_splitTape_128 : decode cX4_splitTape 128 = .ok (.return_, 1) := by decide +kernel
theorem dX4_sortOf_0 : decode cX4_sortOf 0 = .ok (.iload_n 0, 1) := by decide +kernel
theorem dX4_sortOf_1 : decode cX4_sortOf 1 = .ok (.bipush 97, 2) := by decide +kernel
theorem dX4_sortOf_3 : decode cX4_sortOf 3 = .ok (.if_icmp .lt 11, 3) := by decide +kernel
theorem dX4_sortOf_6 : decode cX4_sortOf 6 = .ok (.iload_n 0, 1) := by decide +kernel
theorem dX4_sortOf_7 : decode cX4_sortOf 7 = .ok (.bipush 122, 2) := by decide +kernel
theorem dX4_sortOf_9 : decode cX4_sortOf 9 = .ok (.if_icmp .gt 5, 3) := by decide +kernel
theorem dX4_sortOf_12 : decode cX4_sortOf 12 = .ok (.iconst 1, 1) := by decide +kernel
theorem dX4_sortOf_13 : decode cX4_sortOf 13 = .ok (.ireturn, 1) := by decide +kernel
theorem dX4_sortOf_14 : decode cX4_sortOf 14 = .ok (.iload_n 0, 1) := by decide +kernel
theorem dX4_sortOf_15 : decode cX4_sortOf 15 = .ok (.bipush 48, 2) := by decide +kernel
theorem dX4_sortOf_17 : decode cX4_sortOf 17 = .ok (.if_icmp .lt 13, 3) := by decide +kernel
theorem dX4_sortOf_20 : decode cX4_sortOf 20 = .ok (.iload_n 0, 1) := by decide +kernel
theorem dX4_sortOf_21 : decode cX4_sortOf 21 = .ok (.bipush 57, 2) := by decide +kernel
theorem dX4_sortOf_23 : decode cX4_sortOf 23 = .ok (.if_icmp .gt 7, 3) := by decide +kernel
theorem dX4_sortOf_26 : decode cX4_sortOf 26 = .ok (.iconst 2, 1) := by decide +kernel
theorem dX4_sortOf_27 : decode cX4_sortOf 27 = .ok (.goto 4, 3) := by decide +kernel
theorem dX4_sortOf_30 : decode cX4_sortOf 30 = .ok (.iconst 0, 1) := by decide +kernel
theorem dX4_sortOf_31 : decode cX4_sortOf 31 = .ok (.ireturn, 1) := by decide +kernel
theorem dX4_addToken_0 : decode cX4_addToken 0 = .ok (.aload_n 0, 1) := by decide +kernel
theorem dX4_addToken_1 : decode cX4_addToken 1 = .ok (.getfield 32, 3) := by decide +kernel
theorem dX4_addToken_4 : decode cX4_addToken 4 = .ok (.aload_n 0, 1) := by decide +kernel
theorem dX4_addToken_5 : decode cX4_addToken 5 = .ok (.getfield 9, 3) := by decide +kernel
theorem dX4_addToken_8 : decode cX4_addToken 8 = .ok (.arraylength, 1) := by decide +kernel
theorem dX4_addToken_9 : decode cX4_addToken 9 = .ok (.if_icmp .ge 43, 3) := by decide +kernel
theorem dX4_addToken_12 : decode cX4_addToken 12 = .ok (.aload_n 0, 1) := by decide +kernel
theorem dX4_addToken_13 : decode cX4_addToken 13 = .ok (.getfield 9, 3) := by decide +kernel
theorem dX4_addToken_16 : decode cX4_addToken 16 = .ok (.aload_n 0, 1) := by decide +kernel
theorem dX4_addToken_17 : decode cX4_addToken 17 = .ok (.getfield 32, 3) := by decide +kernel
theorem dX4_addToken_20 : decode cX4_addToken 20 = .ok (.iload_n 1, 1) := by decide +kernel
theorem dX4_addToken_21 : decode cX4_addToken 21 = .ok (.iastore, 1) := by decide +kernel
theorem dX4_addToken_22 : decode cX4_addToken 22 = .ok (.aload_n 0, 1) := by decide +kernel
theorem dX4_addToken_23 : decode cX4_addToken 23 = .ok (.getfield 15, 3) := by decide +kernel
theorem dX4_addToken_26 : decode cX4_addToken 26 = .ok (.aload_n 0, 1) := by decide +kernel
theorem dX4_addToken_27 : decode cX4_addToken 27 = .ok (.getfield 32, 3) := by decide +kernel
theorem dX4_addToken_30 : decode cX4_addToken 30 = .ok (.iload_n 2, 1) := by decide +kernel
theorem dX4_addToken_31 : decode cX4_addToken 31 = .ok (.iastore, 1) := by decide +kernel
theorem dX4_addToken_32 : decode cX4_addToken 32 = .ok (.aload_n 0, 1) := by decide +kernel
theorem dX4_addToken_33 : decode cX4_addToken 33 = .ok (.getfield 18, 3) := by decide +kernel
theorem dX4_addToken_36 : decode cX4_addToken 36 = .ok (.aload_n 0, 1) := by decide +kernel
theorem dX4_addToken_37 : decode cX4_addToken 37 = .ok (.getfield 32, 3) := by decide +kernel
theorem dX4_addToken_40 : decode cX4_addToken 40 = .ok (.iload_n 3, 1) := by decide +kernel
theorem dX4_addToken_41 : decode cX4_addToken 41 = .ok (.iastore, 1) := by decide +kernel
theorem dX4_addToken_42 : decode cX4_addToken 42 = .ok (.aload_n 0, 1) := by decide +kernel
theorem dX4_addToken_43 : decode cX4_addToken 43 = .ok (.dup, 1) := by decide +kernel
theorem dX4_addToken_44 : decode cX4_addToken 44 = .ok (.getfield 32, 3) := by decide +kernel
theorem dX4_addToken_47 : decode cX4_addToken 47 = .ok (.iconst 1, 1) := by decide +kernel
theorem dX4_addToken_48 : decode cX4_addToken 48 = .ok (.iadd, 1) := by decide +kernel
theorem dX4_addToken_49 : decode cX4_addToken 49 = .ok (.putfield 32, 3) := by decide +kernel
theorem dX4_addToken_52 : decode cX4_addToken 52 = .ok (.return_, 1) := by decide +kernel
theorem dX4_wordAt_0 : decode cX4_wordAt 0 = .ok (.sipush 256, 3) := by decide +kernel
theorem dX4_wordAt_3 : decode cX4_wordAt 3 = .ok (.istore_n 3, 1) := by decide +kernel
theorem dX4_wordAt_4 : decode cX4_wordAt 4 = .ok (.iload_n 1, 1) := by decide +kernel
theorem dX4_wordAt_5 : decode cX4_wordAt 5 = .ok (.istore 4, 2) := by decide +kernel
theorem dX4_wordAt_7 : decode cX4_wordAt 7 = .ok (.iconst 1, 1) := by decide +kernel
theorem dX4_wordAt_8 : decode cX4_wordAt 8 = .ok (.istore 5, 2) := by decide +kernel
theorem dX4_wordAt_10 : decode cX4_wordAt 10 = .ok (.iconst 0, 1) := by decide +kernel
theorem dX4_wordAt_11 : decode cX4_wordAt 11 = .ok (.istore 6, 2) := by decide +kernel
theorem dX4_wordAt_13 : decode cX4_wordAt 13 = .ok (.iload 6, 2) := by decide +kernel
theorem dX4_wordAt_15 : decode cX4_wordAt 15 = .ok (.ldc 72, 2) := by decide +kernel
theorem dX4_wordAt_17 : decode cX4_wordAt 17 = .ok (.invokevirtual 74, 3) := by decide +kernel
theorem dX4_wordAt_20 : decode cX4_wordAt 20 = .ok (.if_icmp .ge 80, 3) := by decide +kernel
theorem dX4_wordAt_23 : decode cX4_wordAt 23 = .ok (.ldc 72, 2) := by decide +kernel
theorem dX4_wordAt_25 : decode cX4_wordAt 25 = .ok (.iload 6, 2) := by decide +kernel
theorem dX4_wordAt_27 : decode cX4_wordAt 27 = .ok (.invokevirtual 80, 3) := by decide +kernel
theorem dX4_wordAt_30 : decode cX4_wordAt 30 = .ok (.istore 7, 2) := by decide +kernel
theorem dX4_wordAt_32 : decode cX4_wordAt 32 = .ok (.iload 7, 2) := by decide +kernel
theorem dX4_wordAt_34 : decode cX4_wordAt 34 = .ok (.bipush 32, 2) := by decide +kernel
theorem dX4_wordAt_36 : decode cX4_wordAt 36 = .ok (.if_icmp .eq 36, 3) := by decide +kernel
theorem dX4_wordAt_39 : decode cX4_wordAt 39 = .ok (.iload 5, 2) := by decide +kernel
theorem dX4_wordAt_41 : decode cX4_wordAt 41 = .ok (.ifCond .eq 22, 3) := by decide +kernel
theorem dX4_wordAt_44 : decode cX4_wordAt 44 = .ok (.iload 4, 2) := by decide +kernel
theorem dX4_wordAt_46 : decode cX4_wordAt 46 = .ok (.iload_n 2, 1) := by decide +kernel
theorem dX4_wordAt_47 : decode cX4_wordAt 47 = .ok (.if_icmp .ge 16, 3) := by decide +kernel
theorem dX4_wordAt_50 : decode cX4_wordAt 50 = .ok (.aload_n 0, 1) := by decide +kernel
theorem dX4_wordAt_51 : decode cX4_wordAt 51 = .ok (.iload 4, 2) := by decide +kernel
theorem dX4_wordAt_53 : decode cX4_wordAt 53 = .ok (.iaload, 1) := by decide +kernel
theorem dX4_wordAt_54 : decode cX4_wordAt 54 = .ok (.iload 7, 2) := by decide +kernel
theorem dX4_wordAt_56 : decode cX4_wordAt 56 = .ok (.if_icmp .ne 7, 3) := by decide +kernel
theorem dX4_wordAt_59 : decode cX4_wordAt 59 = .ok (.iconst 1, 1) := by decide +kernel
theorem dX4_wordAt_60 : decode cX4_wordAt 60 = .ok (.goto 4, 3) := by decide +kernel
theorem dX4_wordAt_63 : decode cX4_wordAt 63 = .ok (.iconst 0, 1) := by decide +kernel
theorem dX4_wordAt_64 : decode cX4_wordAt 64 = .ok (.istore 5, 2) := by decide +kernel
theorem dX4_wordAt_66 : decode cX4_wordAt 66 = .ok (.iinc 4 1, 3) := by decide +kernel
theorem dX4_wordAt_69 : decode cX4_wordAt 69 = .ok (.goto 25, 3) := by decide +kernel
theorem dX4_wordAt_72 : decode cX4_wordAt 72 = .ok (.iload 5, 2) := by decide +kernel
theorem dX4_wordAt_74 : decode cX4_wordAt 74 = .ok (.ifCond .eq 11, 3) := by decide +kernel
theorem dX4_wordAt_77 : decode cX4_wordAt 77 = .ok (.iload 4, 2) := by decide +kernel
theorem dX4_wordAt_79 : decode cX4_wordAt 79 = .ok (.iload_n 2, 1) := by decide +kernel
theorem dX4_wordAt_80 : decode cX4_wordAt 80 = .ok (.if_icmp .ne 5, 3) := by decide +kernel
theorem dX4_wordAt_83 : decode cX4_wordAt 83 = .ok (.iload_n 3, 1) := by decide +kernel
theorem dX4_wordAt_84 : decode cX4_wordAt 84 = .ok (.ireturn, 1) := by decide +kernel
theorem dX4_wordAt_85 : decode cX4_wordAt 85 = .ok (.iinc 3 1, 3) := by decide +kernel
theorem dX4_wordAt_88 : decode cX4_wordAt 88 = .ok (.iload_n 1, 1) := by decide +kernel
theorem dX4_wordAt_89 : decode cX4_wordAt 89 = .ok (.istore 4, 2) := by decide +kernel
theorem dX4_wordAt_91 : decode cX4_wordAt 91 = .ok (.iconst 1, 1) := by decide +kernel
theorem dX4_wordAt_92 : decode cX4_wordAt 92 = .ok (.istore 5, 2) := by decide +kernel
theorem dX4_wordAt_94 : decode cX4_wordAt 94 = .ok (.iinc 6 1, 3) := by decide +kernel
theorem dX4_wordAt_97 : decode cX4_wordAt 97 = .ok (.goto (-84), 3) := by decide +kernel
theorem dX4_wordAt_100 : decode cX4_wordAt 100 = .ok (.sipush 284, 3) := by decide +kernel
theorem dX4_wordAt_103 : decode cX4_wordAt 103 = .ok (.ireturn, 1) := by decide +kernel
theorem dX4_numberAt_0 : decode cX4_numberAt 0 = .ok (.iconst 0, 1) := by decide +kernel
theorem dX4_numberAt_1 : decode cX4_numberAt 1 = .ok (.istore_n 3, 1) := by decide +kernel
theorem dX4_numberAt_2 : decode cX4_numberAt 2 = .ok (.iload_n 1, 1) := by decide +kernel
theorem dX4_numberAt_3 : decode cX4_numberAt 3 = .ok (.istore 4, 2) := by decide +kernel
theorem dX4_numberAt_5 : decode cX4_numberAt 5 = .ok (.iload 4, 2) := by decide +kernel
theorem dX4_numberAt_7 : decode cX4_numberAt 7 = .ok (.iload_n 2, 1) := by decide +kernel
theorem dX4_numberAt_8 : decode cX4_numberAt 8 = .ok (.if_icmp .ge 28, 3) := by decide +kernel
theorem dX4_numberAt_11 : decode cX4_numberAt 11 = .ok (.iload_n 3, 1) := by decide +kernel
theorem dX4_numberAt_12 : decode cX4_numberAt 12 = .ok (.bipush 10, 2) := by decide +kernel
theorem dX4_numberAt_14 : decode cX4_numberAt 14 = .ok (.imul, 1) := by decide +kernel
theorem dX4_numberAt_15 : decode cX4_numberAt 15 = .ok (.aload_n 0, 1) := by decide +kernel
theorem dX4_numberAt_16 : decode cX4_numberAt 16 = .ok (.iload 4, 2) := by decide +kernel
theorem dX4_numberAt_18 : decode cX4_numberAt 18 = .ok (.iaload, 1) := by decide +kernel
theorem dX4_numberAt_19 : decode cX4_numberAt 19 = .ok (.iadd, 1) := by decide +kernel
theorem dX4_numberAt_20 : decode cX4_numberAt 20 = .ok (.bipush 48, 2) := by decide +kernel
theorem dX4_numberAt_22 : decode cX4_numberAt 22 = .ok (.isub, 1) := by decide +kernel
theorem dX4_numberAt_23 : decode cX4_numberAt 23 = .ok (.sipush 1001, 3) := by decide +kernel
theorem dX4_numberAt_26 : decode cX4_numberAt 26 = .ok (.invokestatic 84, 3) := by decide +kernel
theorem dX4_numberAt_29 : decode cX4_numberAt 29 = .ok (.istore_n 3, 1) := by decide +kernel
theorem dX4_numberAt_30 : decode cX4_numberAt 30 = .ok (.iinc 4 1, 3) := by decide +kernel
theorem dX4_numberAt_33 : decode cX4_numberAt 33 = .ok (.goto (-28), 3) := by decide +kernel
theorem dX4_numberAt_36 : decode cX4_numberAt 36 = .ok (.iload_n 3, 1) := by decide +kernel
theorem dX4_numberAt_37 : decode cX4_numberAt 37 = .ok (.ireturn, 1) := by decide +kernel
theorem dX4_skip_0 : decode cX4_skip 0 = .ok (.aload_n 0, 1) := by decide +kernel
theorem dX4_skip_1 : decode cX4_skip 1 = .ok (.getfield 9, 3) := by decide +kernel
theorem dX4_skip_4 : decode cX4_skip 4 = .ok (.aload_n 0, 1) := by decide +kernel
theorem dX4_skip_5 : decode cX4_skip 5 = .ok (.getfield 36, 3) := by decide +kernel
theorem dX4_skip_8 : decode cX4_skip 8 = .ok (.iaload, 1) := by decide +kernel
theorem dX4_skip_9 : decode cX4_skip 9 = .ok (.iload_n 1, 1) := by decide +kernel
theorem dX4_skip_10 : decode cX4_skip 10 = .ok (.if_icmp .ne 10, 3) := by decide +kernel
theorem dX4_skip_13 : decode cX4_skip 13 = .ok (.iload_n 1, 1) := by decide +kernel
theorem dX4_skip_14 : decode cX4_skip 14 = .ok (.sipush 286, 3) := by decide +kernel
theorem dX4_skip_17 : decode cX4_skip 17 = .ok (.if_icmp .ne 5, 3) := by decide +kernel
theorem dX4_skip_20 : decode cX4_skip 20 = .ok (.iconst 0, 1) := by decide +kernel
theorem dX4_skip_21 : decode cX4_skip 21 = .ok (.ireturn, 1) := by decide +kernel
theorem dX4_skip_22 : decode cX4_skip 22 = .ok (.aload_n 0, 1) := by decide +kernel
theorem dX4_skip_23 : decode cX4_skip 23 = .ok (.dup, 1) := by decide +kernel
theorem dX4_skip_24 : decode cX4_skip 24 = .ok (.getfield 36, 3) := by decide +kernel
theorem dX4_skip_27 : decode cX4_skip 27 = .ok (.iconst 1, 1) := by decide +kernel
theorem dX4_skip_28 : decode cX4_skip 28 = .ok (.iadd, 1) := by decide +kernel
theorem dX4_skip_29 : decode cX4_skip 29 = .ok (.putfield 36, 3) := by decide +kernel
theorem dX4_skip_32 : decode cX4_skip 32 = .ok (.iconst 1, 1) := by decide +kernel
theorem dX4_skip_33 : decode cX4_skip 33 = .ok (.ireturn, 1) := by decide +kernel
theorem dX4_readClause_0 : decode cX4_readClause 0 = .ok (.aload_n 0, 1) := by decide +kernel
theorem dX4_readClause_1 : decode cX4_readClause 1 = .ok (.getfield 9, 3) := by decide +kernel
theorem dX4_readClause_4 : decode cX4_readClause 4 = .ok (.aload_n 0, 1) := by decide +kernel
theorem dX4_readClause_5 : decode cX4_readClause 5 = .ok (.getfield 36, 3) := by decide +kernel
theorem dX4_readClause_8 : decode cX4_readClause 8 = .ok (.iaload, 1) := by decide +kernel
theorem dX4_readClause_9 : decode cX4_readClause 9 = .ok (.istore_n 1, 1) := by decide +kernel
theorem dX4_readClause_10 : decode cX4_readClause 10 = .ok (.aload_n 0, 1) := by decide +kernel
theorem dX4_readClause_11 : decode cX4_readClause 11 = .ok (.getfield 24, 3) := by decide +kernel
theorem dX4_readClause_14 : decode cX4_readClause 14 = .ok (.iload_n 1, 1) := by decide +kernel
theorem dX4_readClause_15 : decode cX4_readClause 15 = .ok (.invokevirtual 90, 3) := by decide +kernel
theorem dX4_readClause_18 : decode cX4_readClause 18 = .ok (.aload_n 0, 1) := by decide +kernel
theorem dX4_readClause_19 : decode cX4_readClause 19 = .ok (.getfield 28, 3) := by decide +kernel
theorem dX4_readClause_22 : decode cX4_readClause 22 = .ok (.ifCond .eq 11, 3) := by decide +kernel
theorem dX4_readClause_25 : decode cX4_readClause 25 = .ok (.aload_n 0, 1) := by decide +kernel
theorem dX4_readClause_26 : decode cX4_readClause 26 = .ok (.iload_n 1, 1) := by decide +kernel
theorem dX4_readClause_27 : decode cX4_readClause 27 = .ok (.invokevirtual 94, 3) := by decide +kernel
theorem dX4_readClause_30 : decode cX4_readClause 30 = .ok (.goto 8, 3) := by decide +kernel
theorem dX4_readClause_33 : decode cX4_readClause 33 = .ok (.aload_n 0, 1) := by decide +kernel
theorem dX4_readClause_34 : decode cX4_readClause 34 = .ok (.iload_n 1, 1) := by decide +kernel
theorem dX4_readClause_35 : decode cX4_readClause 35 = .ok (.invokevirtual 97, 3) := by decide +kernel
theorem dX4_readClause_38 : decode cX4_readClause 38 = .ok (.istore_n 2, 1) := by decide +kernel
theorem dX4_readClause_39 : decode cX4_readClause 39 = .ok (.iload_n 2, 1) := by decide +kernel
theorem dX4_readClause_40 : decode cX4_readClause 40 = .ok (.ifCond .eq 28, 3) := by decide +kernel
theorem dX4_readClause_43 : decode cX4_readClause 43 = .ok (.aload_n 0, 1) := by decide +kernel
theorem dX4_readClause_44 : decode cX4_readClause 44 = .ok (.sipush 268, 3) := by decide +kernel
theorem dX4_readClause_47 : decode cX4_readClause 47 = .ok (.invokevirtual 53, 3) := by decide +kernel
theorem dX4_readClause_50 : decode cX4_readClause 50 = .ok (.ifCond .eq 18, 3) := by decide +kernel
theorem dX4_readClause_53 : decode cX4_readClause 53 = .ok (.aload_n 0, 1) := by decide +kernel
theorem dX4_readClause_54 : decode cX4_readClause 54 = .ok (.getfield 24, 3) := by decide +kernel
theorem dX4_readClause_57 : decode cX4_readClause 57 = .ok (.iconst 3, 1) := by decide +kernel
theorem dX4_readClause_58 : decode cX4_readClause 58 = .ok (.invokevirtual 100, 3) := by decide +kernel
theorem dX4_readClause_61 : decode cX4_readClause 61 = .ok (.aload_n 0, 1) := by decide +kernel
theorem dX4_readClause_62 : decode cX4_readClause 62 = .ok (.iconst 0, 1) := by decide +kernel
theorem dX4_readClause_63 : decode cX4_readClause 63 = .ok (.iconst 0, 1) := by decide +kernel
theorem dX4_readClause_64 : decode cX4_readClause 64 = .ok (.invokevirtual 103, 3) := by decide +kernel
theorem dX4_readClause_67 : decode cX4_readClause 67 = .ok (.istore_n 2, 1) := by decide +kernel
theorem dX4_readClause_68 : decode cX4_readClause 68 = .ok (.iload_n 2, 1) := by decide +kernel
theorem dX4_readClause_69 : decode cX4_readClause 69 = .ok (.ireturn, 1) := by decide +kernel
theorem dX4_readLaw_0 : decode cX4_readLaw 0 = .ok (.iload_n 1, 1) := by decide +kernel
theorem dX4_readLaw_1 : decode cX4_readLaw 1 = .ok (.sipush 259, 3) := by decide +kernel
theorem dX4_readLaw_4 : decode cX4_readLaw 4 = .ok (.if_icmp .ne 9, 3) := by decide +kernel
theorem dX4_readLaw_7 : decode cX4_readLaw 7 = .ok (.aload_n 0, 1) := by decide +kernel
theorem dX4_readLaw_8 : decode cX4_readLaw 8 = .ok (.iload_n 1, 1) := by decide +kernel
theorem dX4_readLaw_9 : decode cX4_readLaw 9 = .ok (.invokevirtual 53, 3) := by decide +kernel
theorem dX4_readLaw_12 : decode cX4_readLaw 12 = .ok (.ireturn, 1) := by decide +kernel
theorem dX4_readLaw_13 : decode cX4_readLaw 13 = .ok (.iload_n 1, 1) := by decide +kernel
theorem dX4_readLaw_14 : decode cX4_readLaw 14 = .ok (.sipush 256, 3) := by decide +kernel
theorem dX4_readLaw_17 : decode cX4_readLaw 17 = .ok (.if_icmp .eq 17, 3) := by decide +kernel
theorem dX4_readLaw_20 : decode cX4_readLaw 20 = .ok (.iload_n 1, 1) := by decide +kernel
theorem dX4_readLaw_21 : decode cX4_readLaw 21 = .ok (.sipush 257, 3) := by decide +kernel
theorem dX4_readLaw_24 : decode cX4_readLaw 24 = .ok (.if_icmp .eq 10, 3) := by decide +kernel
theorem dX4_readLaw_27 : decode cX4_readLaw 27 = .ok (.iload_n 1, 1) := by decide +kernel
theorem dX4_readLaw_28 : decode cX4_readLaw 28 = .ok (.sipush 258, 3) := by decide +kernel
theorem dX4_readLaw_31 : decode cX4_readLaw 31 = .ok (.if_icmp .ne 16, 3) := by decide +kernel
theorem dX4_readLaw_34 : decode cX4_readLaw 34 = .ok (.aload_n 0, 1) := by decide +kernel
theorem dX4_readLaw_35 : decode cX4_readLaw 35 = .ok (.iload_n 1, 1) := by decide +kernel
theorem dX4_readLaw_36 : decode cX4_readLaw 36 = .ok (.iconst 0, 1) := by decide +kernel
theorem dX4_readLaw_37 : decode cX4_readLaw 37 = .ok (.invokevirtual 107, 3) := by decide +kernel
theorem dX4_readLaw_40 : decode cX4_readLaw 40 = .ok (.ifCond .eq 7, 3) := by decide +kernel
theorem dX4_readLaw_43 : decode cX4_readLaw 43 = .ok (.iconst 1, 1) := by decide +kernel
theorem dX4_readLaw_44 : decode cX4_readLaw 44 = .ok (.goto 4, 3) := by decide +kernel
theorem dX4_readLaw_47 : decode cX4_readLaw 47 = .ok (.iconst 0, 1) := by decide +kernel
theorem dX4_readLaw_48 : decode cX4_readLaw 48 = .ok (.ireturn, 1) := by decide +kernel
theorem dX4_readOrder_0 : decode cX4_readOrder 0 = .ok (.iload_n 1, 1) := by decide +kernel
theorem dX4_readOrder_1 : decode cX4_readOrder 1 = .ok (.tableswitch 138 260 263 #[31, 60, 100, 129], 31) := by decide +kernel
theorem dX4_readOrder_32 : decode cX4_readOrder 32 = .ok (.aload_n 0, 1) := by decide +kernel
theorem dX4_readOrder_33 : decode cX4_readOrder 33 = .ok (.iload_n 1, 1) := by decide +kernel
theorem dX4_readOrder_34 : decode cX4_readOrder 34 = .ok (.iconst 0, 1) := by decide +kernel
theorem dX4_readOrder_35 : decode cX4_readOrder 35 = .ok (.invokevirtual 107, 3) := by decide +kernel
theorem dX4_readOrder_38 : decode cX4_readOrder 38 = .ok (.ifCond .eq 18, 3) := by decide +kernel
theorem dX4_readOrder_41 : decode cX4_readOrder 41 = .ok (.aload_n 0, 1) := by decide +kernel
theorem dX4_readOrder_42 : decode cX4_readOrder 42 = .ok (.sipush 264, 3) := by decide +kernel
theorem dX4_readOrder_45 : decode cX4_readOrder 45 = .ok (.iconst 1, 1) := by decide +kernel
theorem dX4_readOrder_46 : decode cX4_readOrder 46 = .ok (.invokevirtual 107, 3) := by decide +kernel
theorem dX4_readOrder_49 : decode cX4_readOrder 49 = .ok (.ifCond .eq 7, 3) := by decide +kernel
theorem dX4_readOrder_52 : decode cX4_readOrder 52 = .ok (.iconst 1, 1) := by decide +kernel
theorem dX4_readOrder_53 : decode cX4_readOrder 53 = .ok (.goto 4, 3) := by decide +kernel
theorem dX4_readOrder_56 : decode cX4_readOrder 56 = .ok (.iconst 0, 1) := by decide +kernel
theorem dX4_readOrder_57 : decode cX4_readOrder 57 = .ok (.istore_n 2, 1) := by decide +kernel
theorem dX4_readOrder_58 : decode cX4_readOrder 58 = .ok (.goto 83, 3) := by decide +kernel
theorem dX4_readOrder_61 : decode cX4_readOrder 61 = .ok (.aload_n 0, 1) := by decide +kernel
theorem dX4_readOrder_62 : decode cX4_readOrder 62 = .ok (.iload_n 1, 1) := by decide +kernel
theorem dX4_readOrder_63 : decode cX4_readOrder 63 = .ok (.iconst 0, 1) := by decide +kernel
theorem dX4_readOrder_64 : decode cX4_readOrder 64 = .ok (.invokevirtual 107, 3) := by decide +kernel
theorem dX4_readOrder_67 : decode cX4_readOrder 67 = .ok (.ifCond .eq 29, 3) := by decide +kernel
theorem dX4_readOrder_70 : decode cX4_readOrder 70 = .ok (.aload_n 0, 1) := by decide +kernel
theorem dX4_readOrder_71 : decode cX4_readOrder 71 = .ok (.sipush 264, 3) := by decide +kernel
theorem dX4_readOrder_74 : decode cX4_readOrder 74 = .ok (.iconst 1, 1) := by decide +kernel
theorem dX4_readOrder_75 : decode cX4_readOrder 75 = .ok (.invokevirtual 107, 3) := by decide +kernel
theorem dX4_readOrder_78 : decode cX4_readOrder 78 = .ok (.ifCond .eq 18, 3) := by decide +kernel
theorem dX4_readOrder_81 : decode cX4_readOrder 81 = .ok (.aload_n 0, 1) := by decide +kernel
theorem dX4_readOrder_82 : decode cX4_readOrder 82 = .ok (.sipush 265, 3) := by decide +kernel
theorem dX4_readOrder_85 : decode cX4_readOrder 85 = .ok (.iconst 2, 1) := by decide +kernel
theorem dX4_readOrder_86 : decode cX4_readOrder 86 = .ok (.invokevirtual 107, 3) := by decide +kernel
theorem dX4_readOrder_89 : decode cX4_readOrder 89 = .ok (.ifCond .eq 7, 3) := by decide +kernel
theorem dX4_readOrder_92 : decode cX4_readOrder 92 = .ok (.iconst 1, 1) := by decide +kernel
theorem dX4_readOrder_93 : decode cX4_readOrder 93 = .ok (.goto 4, 3) := by decide +kernel
theorem dX4_readOrder_96 : decode cX4_readOrder 96 = .ok (.iconst 0, 1) := by decide +kernel
theorem dX4_readOrder_97 : decode cX4_readOrder 97 = .ok (.istore_n 2, 1) := by decide +kernel
theorem dX4_readOrder_98 : decode cX4_readOrder 98 = .ok (.goto 43, 3) := by decide +kernel
theorem dX4_readOrder_101 : decode cX4_readOrder 101 = .ok (.aload_n 0, 1) := by decide +kernel
theorem dX4_readOrder_102 : decode cX4_readOrder 102 = .ok (.iload_n 1, 1) := by decide +kernel
theorem dX4_readOrder_103 : decode cX4_readOrder 103 = .ok (.iconst 0, 1) := by decide +kernel
theorem dX4_readOrder_104 : decode cX4_readOrder 104 = .ok (.invokevirtual 107, 3) := by decide +kernel
theorem dX4_readOrder_107 : decode cX4_readOrder 107 = .ok (.ifCond .eq 18, 3) := by decide +kernel
theorem dX4_readOrder_110 : decode cX4_readOrder 110 = .ok (.aload_n 0, 1) := by decide +kernel
theorem dX4_readOrder_111 : decode cX4_readOrder 111 = .ok (.sipush 266, 3) := by decide +kernel
theorem dX4_readOrder_114 : decode cX4_readOrder 114 = .ok (.iconst 1, 1) := by decide +kernel
theorem dX4_readOrder_115 : decode cX4_readOrder 115 = .ok (.invokevirtual 107, 3) := by decide +kernel
theorem dX4_readOrder_118 : decode cX4_readOrder 118 = .ok (.ifCond .eq 7, 3) := by decide +kernel
theorem dX4_readOrder_121 : decode cX4_readOrder 121 = .ok (.iconst 1, 1) := by decide +kernel
theorem dX4_readOrder_122 : decode cX4_readOrder 122 = .ok (.goto 4, 3) := by decide +kernel
theorem dX4_readOrder_125 : decode cX4_readOrder 125 = .ok (.iconst 0, 1) := by decide +kernel
theorem dX4_readOrder_126 : decode cX4_readOrder 126 = .ok (.istore_n 2, 1) := by decide +kernel
theorem dX4_readOrder_127 : decode cX4_readOrder 127 = .ok (.goto 14, 3) := by decide +kernel
theorem dX4_readOrder_130 : decode cX4_readOrder 130 = .ok (.aload_n 0, 1) := by decide +kernel
theorem dX4_readOrder_131 : decode cX4_readOrder 131 = .ok (.iload_n 1, 1) := by decide +kernel
theorem dX4_readOrder_132 : decode cX4_readOrder 132 = .ok (.invokevirtual 53, 3) := by decide +kernel
theorem dX4_readOrder_135 : decode cX4_readOrder 135 = .ok (.istore_n 2, 1) := by decide +kernel
theorem dX4_readOrder_136 : decode cX4_readOrder 136 = .ok (.goto 5, 3) := by decide +kernel
theorem dX4_readOrder_139 : decode cX4_readOrder 139 = .ok (.iconst 0, 1) := by decide +kernel
theorem dX4_readOrder_140 : decode cX4_readOrder 140 = .ok (.ireturn, 1) := by decide +kernel
theorem dX4_readOrder_141 : decode cX4_readOrder 141 = .ok (.iload_n 2, 1) := by decide +kernel
theorem dX4_readOrder_142 : decode cX4_readOrder 142 = .ok (.ifCond .eq 24, 3) := by decide +kernel
theorem dX4_readOrder_145 : decode cX4_readOrder 145 = .ok (.aload_n 0, 1) := by decide +kernel
theorem dX4_readOrder_146 : decode cX4_readOrder 146 = .ok (.sipush 267, 3) := by decide +kernel
theorem dX4_readOrder_149 : decode cX4_readOrder 149 = .ok (.invokevirtual 53, 3) := by decide +kernel
theorem dX4_readOrder_152 : decode cX4_readOrder 152 = .ok (.ifCond .eq 10, 3) := by decide +kernel
theorem dX4_readOrder_155 : decode cX4_readOrder 155 = .ok (.aload_n 0, 1) := by decide +kernel
theorem dX4_readOrder_156 : decode cX4_readOrder 156 = .ok (.invokevirtual 110, 3) := by decide +kernel
theorem dX4_readOrder_159 : decode cX4_readOrder 159 = .ok (.ifCond .eq 7, 3) := by decide +kernel
theorem dX4_readOrder_162 : decode cX4_readOrder 162 = .ok (.iconst 1, 1) := by decide +kernel
theorem dX4_readOrder_163 : decode cX4_readOrder 163 = .ok (.goto 4, 3) := by decide +kernel
theorem dX4_readOrder_166 : decode cX4_readOrder 166 = .ok (.iconst 0, 1) := by decide +kernel
theorem dX4_readOrder_167 : decode cX4_readOrder 167 = .ok (.ireturn, 1) := by decide +kernel
theorem dX4_readTimes_0 : decode cX4_readTimes 0 = .ok (.aload_n 0, 1) := by decide +kernel
theorem dX4_readTimes_1 : decode cX4_readTimes 1 = .ok (.getfield 15, 3) := by decide +kernel
theorem dX4_readTimes_4 : decode cX4_readTimes 4 = .ok (.aload_n 0, 1) := by decide +kernel
theorem dX4_readTimes_5 : decode cX4_readTimes 5 = .ok (.getfield 36, 3) := by decide +kernel
theorem dX4_readTimes_8 : decode cX4_readTimes 8 = .ok (.iaload, 1) := by decide +kernel
theorem dX4_readTimes_9 : decode cX4_readTimes 9 = .ok (.istore_n 1, 1) := by decide +kernel
theorem dX4_readTimes_10 : decode cX4_readTimes 10 = .ok (.iload_n 1, 1) := by decide +kernel
theorem dX4_readTimes_11 : decode cX4_readTimes 11 = .ok (.iconst 1, 1) := by decide +kernel
theorem dX4_readTimes_12 : decode cX4_readTimes 12 = .ok (.bipush 20, 2) := by decide +kernel
theorem dX4_readTimes_14 : decode cX4_readTimes 14 = .ok (.invokestatic 113, 3) := by decide +kernel
theorem dX4_readTimes_17 : decode cX4_readTimes 17 = .ok (.ifCond .eq 13, 3) := by decide +kernel
theorem dX4_readTimes_20 : decode cX4_readTimes 20 = .ok (.aload_n 0, 1) := by decide +kernel
theorem dX4_readTimes_21 : decode cX4_readTimes 21 = .ok (.sipush 285, 3) := by decide +kernel
theorem dX4_readTimes_24 : decode cX4_readTimes 24 = .ok (.invokevirtual 53, 3) := by decide +kernel
theorem dX4_readTimes_27 : decode cX4_readTimes 27 = .ok (.ifCond .ne 5, 3) := by decide +kernel
theorem dX4_readTimes_30 : decode cX4_readTimes 30 = .ok (.iconst 0, 1) := by decide +kernel
theorem dX4_readTimes_31 : decode cX4_readTimes 31 = .ok (.ireturn, 1) := by decide +kernel
theorem dX4_readTimes_32 : decode cX4_readTimes 32 = .ok (.aload_n 0, 1) := by decide +kernel
theorem dX4_readTimes_33 : decode cX4_readTimes 33 = .ok (.getfield 24, 3) := by decide +kernel
theorem dX4_readTimes_36 : decode cX4_readTimes 36 = .ok (.iload_n 1, 1) := by decide +kernel
theorem dX4_readTimes_37 : decode cX4_readTimes 37 = .ok (.invokevirtual 117, 3) := by decide +kernel
theorem dX4_readTimes_40 : decode cX4_readTimes 40 = .ok (.iconst 1, 1) := by decide +kernel
theorem dX4_readTimes_41 : decode cX4_readTimes 41 = .ok (.ireturn, 1) := by decide +kernel
theorem dX4_readSumBehind_0 : decode cX4_readSumBehind 0 = .ok (.aload_n 0, 1) := by decide +kernel
theorem dX4_readSumBehind_1 : decode cX4_readSumBehind 1 = .ok (.iload_n 1, 1) := by decide +kernel
theorem dX4_readSumBehind_2 : decode cX4_readSumBehind 2 = .ok (.invokevirtual 53, 3) := by decide +kernel
theorem dX4_readSumBehind_5 : decode cX4_readSumBehind 5 = .ok (.ifCond .ne 5, 3) := by decide +kernel
theorem dX4_readSumBehind_8 : decode cX4_readSumBehind 8 = .ok (.iconst 0, 1) := by decide +kernel
theorem dX4_readSumBehind_9 : decode cX4_readSumBehind 9 = .ok (.ireturn, 1) := by decide +kernel
theorem dX4_readSumBehind_10 : decode cX4_readSumBehind 10 = .ok (.aload_n 0, 1) := by decide +kernel
theorem dX4_readSumBehind_11 : decode cX4_readSumBehind 11 = .ok (.getfield 24, 3) := by decide +kernel
theorem dX4_readSumBehind_14 : decode cX4_readSumBehind 14 = .ok (.iload_n 2, 1) := by decide +kernel
theorem dX4_readSumBehind_15 : decode cX4_readSumBehind 15 = .ok (.invokevirtual 100, 3) := by decide +kernel
theorem dX4_readSumBehind_18 : decode cX4_readSumBehind 18 = .ok (.aload_n 0, 1) := by decide +kernel
theorem dX4_readSumBehind_19 : decode cX4_readSumBehind 19 = .ok (.iconst 0, 1) := by decide +kernel
theorem dX4_readSumBehind_20 : decode cX4_readSumBehind 20 = .ok (.iconst 0, 1) := by decide +kernel
theorem dX4_readSumBehind_21 : decode cX4_readSumBehind 21 = .ok (.invokevirtual 120, 3) := by decide +kernel
theorem dX4_readSumBehind_24 : decode cX4_readSumBehind 24 = .ok (.ireturn, 1) := by decide +kernel
theorem dX4_readTest_0 : decode cX4_readTest 0 = .ok (.iload_n 1, 1) := by decide +kernel
theorem dX4_readTest_1 : decode cX4_readTest 1 = .ok (.iconst 2, 1) := by decide +kernel
theorem dX4_readTest_2 : decode cX4_readTest 2 = .ok (.if_icmp .lt 9, 3) := by decide +kernel
theorem dX4_readTest_5 : decode cX4_readTest 5 = .ok (.aload_n 0, 1) := by decide +kernel
theorem dX4_readTest_6 : decode cX4_readTest 6 = .ok (.iload_n 2, 1) := by decide +kernel
theorem dX4_readTest_7 : decode cX4_readTest 7 = .ok (.invokevirtual 123, 3) := by decide +kernel
theorem dX4_readTest_10 : decode cX4_readTest 10 = .ok (.ireturn, 1) := by decide +kernel
theorem dX4_readTest_11 : decode cX4_readTest 11 = .ok (.aload_n 0, 1) := by decide +kernel
theorem dX4_readTest_12 : decode cX4_readTest 12 = .ok (.iload_n 1, 1) := by decide +kernel
theorem dX4_readTest_13 : decode cX4_readTest 13 = .ok (.iconst 1, 1) := by decide +kernel
theorem dX4_readTest_14 : decode cX4_readTest 14 = .ok (.iadd, 1) := by decide +kernel
theorem dX4_readTest_15 : decode cX4_readTest 15 = .ok (.iload_n 2, 1) := by decide +kernel
theorem dX4_readTest_16 : decode cX4_readTest 16 = .ok (.invokevirtual 103, 3) := by decide +kernel
theorem dX4_readTest_19 : decode cX4_readTest 19 = .ok (.ifCond .ne 5, 3) := by decide +kernel
theorem dX4_readTest_22 : decode cX4_readTest 22 = .ok (.iconst 0, 1) := by decide +kernel
theorem dX4_readTest_23 : decode cX4_readTest 23 = .ok (.ireturn, 1) := by decide +kernel
theorem dX4_readTest_24 : decode cX4_readTest 24 = .ok (.iload_n 1, 1) := by decide +kernel
theorem dX4_readTest_25 : decode cX4_readTest 25 = .ok (.ifCond .ne 9, 3) := by decide +kernel
theorem dX4_readTest_28 : decode cX4_readTest 28 = .ok (.sipush 269, 3) := by decide +kernel
theorem dX4_readTest_31 : decode cX4_readTest 31 = .ok (.goto 6, 3) := by decide +kernel
theorem dX4_readTest_34 : decode cX4_readTest 34 = .ok (.sipush 270, 3) := by decide +kernel
theorem dX4_readTest_37 : decode cX4_readTest 37 = .ok (.istore_n 3, 1) := by decide +kernel
theorem dX4_readTest_38 : decode cX4_readTest 38 = .ok (.iconst 0, 1) := by decide +kernel
theorem dX4_readTest_39 : decode cX4_readTest 39 = .ok (.istore 4, 2) := by decide +kernel
theorem dX4_readTest_41 : decode cX4_readTest 41 = .ok (.iload 4, 2) := by decide +kernel
theorem dX4_readTest_43 : decode cX4_readTest 43 = .ok (.sipush 400, 3) := by decide +kernel
theorem dX4_readTest_46 : decode cX4_readTest 46 = .ok (.if_icmp .ge 39, 3) := by decide +kernel
theorem dX4_readTest_49 : decode cX4_readTest 49 = .ok (.aload_n 0, 1) := by decide +kernel
theorem dX4_readTest_50 : decode cX4_readTest 50 = .ok (.iload_n 3, 1) := by decide +kernel
theorem dX4_readTest_51 : decode cX4_readTest 51 = .ok (.invokevirtual 53, 3) := by decide +kernel
theorem dX4_readTest_54 : decode cX4_readTest 54 = .ok (.ifCond .eq 31, 3) := by decide +kernel
theorem dX4_readTest_57 : decode cX4_readTest 57 = .ok (.aload_n 0, 1) := by decide +kernel
theorem dX4_readTest_58 : decode cX4_readTest 58 = .ok (.iload_n 1, 1) := by decide +kernel
theorem dX4_readTest_59 : decode cX4_readTest 59 = .ok (.iconst 1, 1) := by decide +kernel
theorem dX4_readTest_60 : decode cX4_readTest 60 = .ok (.iadd, 1) := by decide +kernel
theorem dX4_readTest_61 : decode cX4_readTest 61 = .ok (.iload_n 2, 1) := by decide +kernel
theorem dX4_readTest_62 : decode cX4_readTest 62 = .ok (.invokevirtual 103, 3) := by decide +kernel
theorem dX4_readTest_65 : decode cX4_readTest 65 = .ok (.ifCond .ne 5, 3) := by decide +kernel
theorem dX4_readTest_68 : decode cX4_readTest 68 = .ok (.iconst 0, 1) := by decide +kernel
theorem dX4_readTest_69 : decode cX4_readTest 69 = .ok (.ireturn, 1) := by decide +kernel
theorem dX4_readTest_70 : decode cX4_readTest 70 = .ok (.aload_n 0, 1) := by decide +kernel
theorem dX4_readTest_71 : decode cX4_readTest 71 = .ok (.getfield 24, 3) := by decide +kernel
theorem dX4_readTest_74 : decode cX4_readTest 74 = .ok (.iload_n 3, 1) := by decide +kernel
theorem dX4_readTest_75 : decode cX4_readTest 75 = .ok (.iconst 0, 1) := by decide +kernel
theorem dX4_readTest_76 : decode cX4_readTest 76 = .ok (.invokevirtual 126, 3) := by decide +kernel
theorem dX4_readTest_79 : decode cX4_readTest 79 = .ok (.iinc 4 1, 3) := by decide +kernel
theorem dX4_readTest_82 : decode cX4_readTest 82 = .ok (.goto (-41), 3) := by decide +kernel
theorem dX4_readTest_85 : decode cX4_readTest 85 = .ok (.iconst 1, 1) := by decide +kernel
theorem dX4_readTest_86 : decode cX4_readTest 86 = .ok (.ireturn, 1) := by decide +kernel
theorem dX4_readPlain_0 : decode cX4_readPlain 0 = .ok (.iconst 0, 1) := by decide +kernel
theorem dX4_readPlain_1 : decode cX4_readPlain 1 = .ok (.istore_n 2, 1) := by decide +kernel
theorem dX4_readPlain_2 : decode cX4_readPlain 2 = .ok (.iconst 0, 1) := by decide +kernel
theorem dX4_readPlain_3 : decode cX4_readPlain 3 = .ok (.istore_n 3, 1) := by decide +kernel
theorem dX4_readPlain_4 : decode cX4_readPlain 4 = .ok (.iload_n 3, 1) := by decide +kernel
theorem dX4_readPlain_5 : decode cX4_readPlain 5 = .ok (.sipush 400, 3) := by decide +kernel
theorem dX4_readPlain_8 : decode cX4_readPlain 8 = .ok (.if_icmp .ge 22, 3) := by decide +kernel
theorem dX4_readPlain_11 : decode cX4_readPlain 11 = .ok (.aload_n 0, 1) := by decide +kernel
theorem dX4_readPlain_12 : decode cX4_readPlain 12 = .ok (.sipush 271, 3) := by decide +kernel
theorem dX4_readPlain_15 : decode cX4_readPlain 15 = .ok (.invokevirtual 53, 3) := by decide +kernel
theorem dX4_readPlain_18 : decode cX4_readPlain 18 = .ok (.ifCond .eq 12, 3) := by decide +kernel
theorem dX4_readPlain_21 : decode cX4_readPlain 21 = .ok (.iinc 2 1, 3) := by decide +kernel
theorem dX4_readPlain_24 : decode cX4_readPlain 24 = .ok (.iinc 3 1, 3) := by decide +kernel
theorem dX4_readPlain_27 : decode cX4_readPlain 27 = .ok (.goto (-23), 3) := by decide +kernel
theorem dX4_readPlain_30 : decode cX4_readPlain 30 = .ok (.aload_n 0, 1) := by decide +kernel
theorem dX4_readPlain_31 : decode cX4_readPlain 31 = .ok (.getfield 9, 3) := by decide +kernel
theorem dX4_readPlain_34 : decode cX4_readPlain 34 = .ok (.aload_n 0, 1) := by decide +kernel
theorem dX4_readPlain_35 : decode cX4_readPlain 35 = .ok (.getfield 36, 3) := by decide +kernel
theorem dX4_readPlain_38 : decode cX4_readPlain 38 = .ok (.iaload, 1) := by decide +kernel
theorem dX4_readPlain_39 : decode cX4_readPlain 39 = .ok (.bipush 40, 2) := by decide +kernel
theorem dX4_readPlain_41 : decode cX4_readPlain 41 = .ok (.if_icmp .ne 40, 3) := by decide +kernel
theorem dX4_readPlain_44 : decode cX4_readPlain 44 = .ok (.iload_n 1, 1) := by decide +kernel
theorem dX4_readPlain_45 : decode cX4_readPlain 45 = .ok (.bipush 8, 2) := by decide +kernel
theorem dX4_readPlain_47 : decode cX4_readPlain 47 = .ok (.if_icmp .ge 32, 3) := by decide +kernel
theorem dX4_readPlain_50 : decode cX4_readPlain 50 = .ok (.aload_n 0, 1) := by decide +kernel
theorem dX4_readPlain_51 : decode cX4_readPlain 51 = .ok (.bipush 40, 2) := by decide +kernel
theorem dX4_readPlain_53 : decode cX4_readPlain 53 = .ok (.invokevirtual 53, 3) := by decide +kernel
theorem dX4_readPlain_56 : decode cX4_readPlain 56 = .ok (.ifCond .eq 23, 3) := by decide +kernel
theorem dX4_readPlain_59 : decode cX4_readPlain 59 = .ok (.aload_n 0, 1) := by decide +kernel
theorem dX4_readPlain_60 : decode cX4_readPlain 60 = .ok (.iconst 0, 1) := by decide +kernel
theorem dX4_readPlain_61 : decode cX4_readPlain 61 = .ok (.iload_n 1, 1) := by decide +kernel
theorem dX4_readPlain_62 : decode cX4_readPlain 62 = .ok (.iconst 1, 1) := by decide +kernel
theorem dX4_readPlain_63 : decode cX4_readPlain 63 = .ok (.iadd, 1) := by decide +kernel
theorem dX4_readPlain_64 : decode cX4_readPlain 64 = .ok (.invokevirtual 103, 3) := by decide +kernel
theorem dX4_readPlain_67 : decode cX4_readPlain 67 = .ok (.ifCond .eq 12, 3) := by decide +kernel
theorem dX4_readPlain_70 : decode cX4_readPlain 70 = .ok (.aload_n 0, 1) := by decide +kernel
theorem dX4_readPlain_71 : decode cX4_readPlain 71 = .ok (.bipush 41, 2) := by decide +kernel
theorem dX4_readPlain_73 : decode cX4_readPlain 73 = .ok (.invokevirtual 53, 3) := by decide +kernel
theorem dX4_readPlain_76 : decode cX4_readPlain 76 = .ok (.ifCond .ne 73, 3) := by decide +kernel
theorem dX4_readPlain_79 : decode cX4_readPlain 79 = .ok (.iconst 0, 1) := by decide +kernel
theorem dX4_readPlain_80 : decode cX4_readPlain 80 = .ok (.ireturn, 1) := by decide +kernel
theorem dX4_readPlain_81 : decode cX4_readPlain 81 = .ok (.aload_n 0, 1) := by decide +kernel
theorem dX4_readPlain_82 : decode cX4_readPlain 82 = .ok (.iconst 0, 1) := by decide +kernel
theorem dX4_readPlain_83 : decode cX4_readPlain 83 = .ok (.iload_n 1, 1) := by decide +kernel
theorem dX4_readPlain_84 : decode cX4_readPlain 84 = .ok (.invokevirtual 120, 3) := by decide +kernel
theorem dX4_readPlain_87 : decode cX4_readPlain 87 = .ok (.ifCond .ne 5, 3) := by decide +kernel
theorem dX4_readPlain_90 : decode cX4_readPlain 90 = .ok (.iconst 0, 1) := by decide +kernel
theorem dX4_readPlain_91 : decode cX4_readPlain 91 = .ok (.ireturn, 1) := by decide +kernel
theorem dX4_readPlain_92 : decode cX4_readPlain 92 = .ok (.aload_n 0, 1) := by decide +kernel
theorem dX4_readPlain_93 : decode cX4_readPlain 93 = .ok (.getfield 9, 3) := by decide +kernel
theorem dX4_readPlain_96 : decode cX4_readPlain 96 = .ok (.aload_n 0, 1) := by decide +kernel
theorem dX4_readPlain_97 : decode cX4_readPlain 97 = .ok (.getfield 36, 3) := by decide +kernel
theorem dX4_readPlain_100 : decode cX4_readPlain 100 = .ok (.iaload, 1) := by decide +kernel
theorem dX4_readPlain_101 : decode cX4_readPlain 101 = .ok (.istore_n 3, 1) := by decide +kernel
theorem dX4_readPlain_102 : decode cX4_readPlain 102 = .ok (.aload_n 0, 1) := by decide +kernel
theorem dX4_readPlain_103 : decode cX4_readPlain 103 = .ok (.bipush 60, 2) := by decide +kernel
theorem dX4_readPlain_105 : decode cX4_readPlain 105 = .ok (.invokevirtual 53, 3) := by decide +kernel
theorem dX4_readPlain_108 : decode cX4_readPlain 108 = .ok (.ifCond .ne 21, 3) := by decide +kernel
theorem dX4_readPlain_111 : decode cX4_readPlain 111 = .ok (.aload_n 0, 1) := by decide +kernel
theorem dX4_readPlain_112 : decode cX4_readPlain 112 = .ok (.bipush 62, 2) := by decide +kernel
theorem dX4_readPlain_114 : decode cX4_readPlain 114 = .ok (.invokevirtual 53, 3) := by decide +kernel
theorem dX4_readPlain_117 : decode cX4_readPlain 117 = .ok (.ifCond .ne 12, 3) := by decide +kernel
theorem dX4_readPlain_120 : decode cX4_readPlain 120 = .ok (.aload_n 0, 1) := by decide +kernel
theorem dX4_readPlain_121 : decode cX4_readPlain 121 = .ok (.bipush 61, 2) := by decide +kernel
theorem dX4_readPlain_123 : decode cX4_readPlain 123 = .ok (.invokevirtual 53, 3) := by decide +kernel
theorem dX4_readPlain_126 : decode cX4_readPlain 126 = .ok (.ifCond .eq 12, 3) := by decide +kernel
theorem dX4_readPlain_129 : decode cX4_readPlain 129 = .ok (.aload_n 0, 1) := by decide +kernel
theorem dX4_readPlain_130 : decode cX4_readPlain 130 = .ok (.iconst 0, 1) := by decide +kernel
theorem dX4_readPlain_131 : decode cX4_readPlain 131 = .ok (.iload_n 1, 1) := by decide +kernel
theorem dX4_readPlain_132 : decode cX4_readPlain 132 = .ok (.invokevirtual 120, 3) := by decide +kernel
theorem dX4_readPlain_135 : decode cX4_readPlain 135 = .ok (.ifCond .ne 5, 3) := by decide +kernel
theorem dX4_readPlain_138 : decode cX4_readPlain 138 = .ok (.iconst 0, 1) := by decide +kernel
theorem dX4_readPlain_139 : decode cX4_readPlain 139 = .ok (.ireturn, 1) := by decide +kernel
theorem dX4_readPlain_140 : decode cX4_readPlain 140 = .ok (.aload_n 0, 1) := by decide +kernel
theorem dX4_readPlain_141 : decode cX4_readPlain 141 = .ok (.getfield 24, 3) := by decide +kernel
theorem dX4_readPlain_144 : decode cX4_readPlain 144 = .ok (.iload_n 3, 1) := by decide +kernel
theorem dX4_readPlain_145 : decode cX4_readPlain 145 = .ok (.iconst 0, 1) := by decide +kernel
theorem dX4_readPlain_146 : decode cX4_readPlain 146 = .ok (.invokevirtual 126, 3) := by decide +kernel
theorem dX4_readPlain_149 : decode cX4_readPlain 149 = .ok (.iload_n 2, 1) := by decide +kernel
theorem dX4_readPlain_150 : decode cX4_readPlain 150 = .ok (.iconst 2, 1) := by decide +kernel
theorem dX4_readPlain_151 : decode cX4_readPlain 151 = .ok (.irem, 1) := by decide +kernel
theorem dX4_readPlain_152 : decode cX4_readPlain 152 = .ok (.iconst 1, 1) := by decide +kernel
theorem dX4_readPlain_153 : decode cX4_readPlain 153 = .ok (.if_icmp .ne 14, 3) := by decide +kernel
theorem dX4_readPlain_156 : decode cX4_readPlain 156 = .ok (.aload_n 0, 1) := by decide +kernel
theorem dX4_readPlain_157 : decode cX4_readPlain 157 = .ok (.getfield 24, 3) := by decide +kernel
theorem dX4_readPlain_160 : decode cX4_readPlain 160 = .ok (.sipush 271, 3) := by decide +kernel
theorem dX4_readPlain_163 : decode cX4_readPlain 163 = .ok (.iconst 0, 1) := by decide +kernel
theorem dX4_readPlain_164 : decode cX4_readPlain 164 = .ok (.invokevirtual 126, 3) := by decide +kernel
theorem dX4_readPlain_167 : decode cX4_readPlain 167 = .ok (.iconst 1, 1) := by decide +kernel
theorem dX4_readPlain_168 : decode cX4_readPlain 168 = .ok (.ireturn, 1) := by decide +kernel
theorem dX4_readSum_0 : decode cX4_readSum 0 = .ok (.iload_n 1, 1) := by decide +kernel
theorem dX4_readSum_1 : decode cX4_readSum 1 = .ok (.iconst 2, 1) := by decide +kernel
theorem dX4_readSum_2 : decode cX4_readSum 2 = .ok (.if_icmp .lt 9, 3) := by decide +kernel
theorem dX4_readSum_5 : decode cX4_readSum 5 = .ok (.aload_n 0, 1) := by decide +kernel
theorem dX4_readSum_6 : decode cX4_readSum 6 = .ok (.iload_n 2, 1) := by decide +kernel
theorem dX4_readSum_7 : decode cX4_readSum 7 = .ok (.invokevirtual 130, 3) := by decide +kernel
theorem dX4_readSum_10 : decode cX4_readSum 10 = .ok (.ireturn, 1) := by decide +kernel
theorem dX4_readSum_11 : decode cX4_readSum 11 = .ok (.aload_n 0, 1) := by decide +kernel
theorem dX4_readSum_12 : decode cX4_readSum 12 = .ok (.iload_n 1, 1) := by decide +kernel
theorem dX4_readSum_13 : decode cX4_readSum 13 = .ok (.iconst 1, 1) := by decide +kernel
theorem dX4_readSum_14 : decode cX4_readSum 14 = .ok (.iadd, 1) := by decide +kernel
theorem dX4_readSum_15 : decode cX4_readSum 15 = .ok (.iload_n 2, 1) := by decide +kernel
theorem dX4_readSum_16 : decode cX4_readSum 16 = .ok (.invokevirtual 120, 3) := by decide +kernel
theorem dX4_readSum_19 : decode cX4_readSum 19 = .ok (.ifCond .ne 5, 3) := by decide +kernel
theorem dX4_readSum_22 : decode cX4_readSum 22 = .ok (.iconst 0, 1) := by decide +kernel
theorem dX4_readSum_23 : decode cX4_readSum 23 = .ok (.ireturn, 1) := by decide +kernel
theorem dX4_readSum_24 : decode cX4_readSum 24 = .ok (.iconst 0, 1) := by decide +kernel
theorem dX4_readSum_25 : decode cX4_readSum 25 = .ok (.istore_n 3, 1) := by decide +kernel
theorem dX4_readSum_26 : decode cX4_readSum 26 = .ok (.iload_n 3, 1) := by decide +kernel
theorem dX4_readSum_27 : decode cX4_readSum 27 = .ok (.sipush 400, 3) := by decide +kernel
theorem dX4_readSum_30 : decode cX4_readSum 30 = .ok (.if_icmp .ge 114, 3) := by decide +kernel
theorem dX4_readSum_33 : decode cX4_readSum 33 = .ok (.aload_n 0, 1) := by decide +kernel
theorem dX4_readSum_34 : decode cX4_readSum 34 = .ok (.getfield 9, 3) := by decide +kernel
theorem dX4_readSum_37 : decode cX4_readSum 37 = .ok (.aload_n 0, 1) := by decide +kernel
theorem dX4_readSum_38 : decode cX4_readSum 38 = .ok (.getfield 36, 3) := by decide +kernel
theorem dX4_readSum_41 : decode cX4_readSum 41 = .ok (.iaload, 1) := by decide +kernel
theorem dX4_readSum_42 : decode cX4_readSum 42 = .ok (.istore 4, 2) := by decide +kernel
theorem dX4_readSum_44 : decode cX4_readSum 44 = .ok (.iload_n 1, 1) := by decide +kernel
theorem dX4_readSum_45 : decode cX4_readSum 45 = .ok (.ifCond .ne 29, 3) := by decide +kernel
theorem dX4_readSum_48 : decode cX4_readSum 48 = .ok (.aload_n 0, 1) := by decide +kernel
theorem dX4_readSum_49 : decode cX4_readSum 49 = .ok (.bipush 43, 2) := by decide +kernel
theorem dX4_readSum_51 : decode cX4_readSum 51 = .ok (.invokevirtual 53, 3) := by decide +kernel
theorem dX4_readSum_54 : decode cX4_readSum 54 = .ok (.ifCond .ne 12, 3) := by decide +kernel
theorem dX4_readSum_57 : decode cX4_readSum 57 = .ok (.aload_n 0, 1) := by decide +kernel
theorem dX4_readSum_58 : decode cX4_readSum 58 = .ok (.bipush 45, 2) := by decide +kernel
theorem dX4_readSum_60 : decode cX4_readSum 60 = .ok (.invokevirtual 53, 3) := by decide +kernel
theorem dX4_readSum_63 : decode cX4_readSum 63 = .ok (.ifCond .eq 7, 3) := by decide +kernel
theorem dX4_readSum_66 : decode cX4_readSum 66 = .ok (.iconst 1, 1) := by decide +kernel
theorem dX4_readSum_67 : decode cX4_readSum 67 = .ok (.goto 39, 3) := by decide +kernel
theorem dX4_readSum_70 : decode cX4_readSum 70 = .ok (.iconst 0, 1) := by decide +kernel
theorem dX4_readSum_71 : decode cX4_readSum 71 = .ok (.goto 35, 3) := by decide +kernel
theorem dX4_readSum_74 : decode cX4_readSum 74 = .ok (.aload_n 0, 1) := by decide +kernel
theorem dX4_readSum_75 : decode cX4_readSum 75 = .ok (.bipush 42, 2) := by decide +kernel
theorem dX4_readSum_77 : decode cX4_readSum 77 = .ok (.invokevirtual 53, 3) := by decide +kernel
theorem dX4_readSum_80 : decode cX4_readSum 80 = .ok (.ifCond .ne 21, 3) := by decide +kernel
theorem dX4_readSum_83 : decode cX4_readSum 83 = .ok (.aload_n 0, 1) := by decide +kernel
theorem dX4_readSum_84 : decode cX4_readSum 84 = .ok (.bipush 47, 2) := by decide +kernel
theorem dX4_readSum_86 : decode cX4_readSum 86 = .ok (.invokevirtual 53, 3) := by decide +kernel
theorem dX4_readSum_89 : decode cX4_readSum 89 = .ok (.ifCond .ne 12, 3) := by decide +kernel
theorem dX4_readSum_92 : decode cX4_readSum 92 = .ok (.aload_n 0, 1) := by decide +kernel
theorem dX4_readSum_93 : decode cX4_readSum 93 = .ok (.bipush 37, 2) := by decide +kernel
theorem dX4_readSum_95 : decode cX4_readSum 95 = .ok (.invokevirtual 53, 3) := by decide +kernel
theorem dX4_readSum_98 : decode cX4_readSum 98 = .ok (.ifCond .eq 7, 3) := by decide +kernel
theorem dX4_readSum_101 : decode cX4_readSum 101 = .ok (.iconst 1, 1) := by decide +kernel
theorem dX4_readSum_102 : decode cX4_readSum 102 = .ok (.goto 4, 3) := by decide +kernel
theorem dX4_readSum_105 : decode cX4_readSum 105 = .ok (.iconst 0, 1) := by decide +kernel
theorem dX4_readSum_106 : decode cX4_readSum 106 = .ok (.istore 5, 2) := by decide +kernel
theorem dX4_readSum_108 : decode cX4_readSum 108 = .ok (.iload 5, 2) := by decide +kernel
theorem dX4_readSum_110 : decode cX4_readSum 110 = .ok (.ifCond .ne 5, 3) := by decide +kernel
theorem dX4_readSum_113 : decode cX4_readSum 113 = .ok (.iconst 1, 1) := by decide +kernel
theorem dX4_readSum_114 : decode cX4_readSum 114 = .ok (.ireturn, 1) := by decide +kernel
theorem dX4_readSum_115 : decode cX4_readSum 115 = .ok (.aload_n 0, 1) := by decide +kernel
theorem dX4_readSum_116 : decode cX4_readSum 116 = .ok (.iload_n 1, 1) := by decide +kernel
theorem dX4_readSum_117 : decode cX4_readSum 117 = .ok (.iconst 1, 1) := by decide +kernel
theorem dX4_readSum_118 : decode cX4_readSum 118 = .ok (.iadd, 1) := by decide +kernel
theorem dX4_readSum_119 : decode cX4_readSum 119 = .ok (.iload_n 2, 1) := by decide +kernel
theorem dX4_readSum_120 : decode cX4_readSum 120 = .ok (.invokevirtual 120, 3) := by decide +kernel
theorem dX4_readSum_123 : decode cX4_readSum 123 = .ok (.ifCond .ne 5, 3) := by decide +kernel
theorem dX4_readSum_126 : decode cX4_readSum 126 = .ok (.iconst 0, 1) := by decide +kernel
theorem dX4_readSum_127 : decode cX4_readSum 127 = .ok (.ireturn, 1) := by decide +kernel
theorem dX4_readSum_128 : decode cX4_readSum 128 = .ok (.aload_n 0, 1) := by decide +kernel
theorem dX4_readSum_129 : decode cX4_readSum 129 = .ok (.getfield 24, 3) := by decide +kernel
theorem dX4_readSum_132 : decode cX4_readSum 132 = .ok (.iload 4, 2) := by decide +kernel
theorem dX4_readSum_134 : decode cX4_readSum 134 = .ok (.iconst 0, 1) := by decide +kernel
theorem dX4_readSum_135 : decode cX4_readSum 135 = .ok (.invokevirtual 126, 3) := by decide +kernel
theorem dX4_readSum_138 : decode cX4_readSum 138 = .ok (.iinc 3 1, 3) := by decide +kernel
theorem dX4_readSum_141 : decode cX4_readSum 141 = .ok (.goto (-115), 3) := by decide +kernel
theorem dX4_readSum_144 : decode cX4_readSum 144 = .ok (.iconst 1, 1) := by decide +kernel
theorem dX4_readSum_145 : decode cX4_readSum 145 = .ok (.ireturn, 1) := by decide +kernel
theorem dX4_readPart_0 : decode cX4_readPart 0 = .ok (.aload_n 0, 1) := by decide +kernel
theorem dX4_readPart_1 : decode cX4_readPart 1 = .ok (.getfield 9, 3) := by decide +kernel
theorem dX4_readPart_4 : decode cX4_readPart 4 = .ok (.aload_n 0, 1) := by decide +kernel
theorem dX4_readPart_5 : decode cX4_readPart 5 = .ok (.getfield 36, 3) := by decide +kernel
theorem dX4_readPart_8 : decode cX4_readPart 8 = .ok (.iaload, 1) := by decide +kernel
theorem dX4_readPart_9 : decode cX4_readPart 9 = .ok (.bipush 91, 2) := by decide +kernel
theorem dX4_readPart_11 : decode cX4_readPart 11 = .ok (.if_icmp .ne 44, 3) := by decide +kernel
theorem dX4_readPart_14 : decode cX4_readPart 14 = .ok (.iload_n 1, 1) := by decide +kernel
theorem dX4_readPart_15 : decode cX4_readPart 15 = .ok (.bipush 8, 2) := by decide +kernel
theorem dX4_readPart_17 : decode cX4_readPart 17 = .ok (.if_icmp .ge 36, 3) := by decide +kernel
theorem dX4_readPart_20 : decode cX4_readPart 20 = .ok (.aload_n 0, 1) := by decide +kernel
theorem dX4_readPart_21 : decode cX4_readPart 21 = .ok (.bipush 91, 2) := by decide +kernel
theorem dX4_readPart_23 : decode cX4_readPart 23 = .ok (.invokevirtual 53, 3) := by decide +kernel
theorem dX4_readPart_26 : decode cX4_readPart 26 = .ok (.ifCond .eq 27, 3) := by decide +kernel
theorem dX4_readPart_29 : decode cX4_readPart 29 = .ok (.aload_n 0, 1) := by decide +kernel
theorem dX4_readPart_30 : decode cX4_readPart 30 = .ok (.iconst 0, 1) := by decide +kernel
theorem dX4_readPart_31 : decode cX4_readPart 31 = .ok (.iload_n 1, 1) := by decide +kernel
theorem dX4_readPart_32 : decode cX4_readPart 32 = .ok (.iconst 1, 1) := by decide +kernel
theorem dX4_readPart_33 : decode cX4_readPart 33 = .ok (.iadd, 1) := by decide +kernel
theorem dX4_readPart_34 : decode cX4_readPart 34 = .ok (.invokevirtual 120, 3) := by decide +kernel
theorem dX4_readPart_37 : decode cX4_readPart 37 = .ok (.ifCond .eq 16, 3) := by decide +kernel
theorem dX4_readPart_40 : decode cX4_readPart 40 = .ok (.aload_n 0, 1) := by decide +kernel
theorem dX4_readPart_41 : decode cX4_readPart 41 = .ok (.bipush 93, 2) := by decide +kernel
theorem dX4_readPart_43 : decode cX4_readPart 43 = .ok (.invokevirtual 53, 3) := by decide +kernel
theorem dX4_readPart_46 : decode cX4_readPart 46 = .ok (.ifCond .eq 7, 3) := by decide +kernel
theorem dX4_readPart_49 : decode cX4_readPart 49 = .ok (.iconst 1, 1) := by decide +kernel
theorem dX4_readPart_50 : decode cX4_readPart 50 = .ok (.goto 4, 3) := by decide +kernel
theorem dX4_readPart_53 : decode cX4_readPart 53 = .ok (.iconst 0, 1) := by decide +kernel
theorem dX4_readPart_54 : decode cX4_readPart 54 = .ok (.ireturn, 1) := by decide +kernel
theorem dX4_readPart_55 : decode cX4_readPart 55 = .ok (.aload_n 0, 1) := by decide +kernel
theorem dX4_readPart_56 : decode cX4_readPart 56 = .ok (.getfield 39, 3) := by decide +kernel
theorem dX4_readPart_59 : decode cX4_readPart 59 = .ok (.bipush 50, 2) := by decide +kernel
theorem dX4_readPart_61 : decode cX4_readPart 61 = .ok (.if_icmp .lt 5, 3) := by decide +kernel
theorem dX4_readPart_64 : decode cX4_readPart 64 = .ok (.iconst 0, 1) := by decide +kernel
theorem dX4_readPart_65 : decode cX4_readPart 65 = .ok (.ireturn, 1) := by decide +kernel
theorem dX4_readPart_66 : decode cX4_readPart 66 = .ok (.aload_n 0, 1) := by decide +kernel
theorem dX4_readPart_67 : decode cX4_readPart 67 = .ok (.dup, 1) := by decide +kernel
theorem dX4_readPart_68 : decode cX4_readPart 68 = .ok (.getfield 39, 3) := by decide +kernel
theorem dX4_readPart_71 : decode cX4_readPart 71 = .ok (.iconst 1, 1) := by decide +kernel
theorem dX4_readPart_72 : decode cX4_readPart 72 = .ok (.iadd, 1) := by decide +kernel
theorem dX4_readPart_73 : decode cX4_readPart 73 = .ok (.putfield 39, 3) := by decide +kernel
theorem dX4_readPart_76 : decode cX4_readPart 76 = .ok (.aload_n 0, 1) := by decide +kernel
theorem dX4_readPart_77 : decode cX4_readPart 77 = .ok (.getfield 15, 3) := by decide +kernel
theorem dX4_readPart_80 : decode cX4_readPart 80 = .ok (.aload_n 0, 1) := by decide +kernel
theorem dX4_readPart_81 : decode cX4_readPart 81 = .ok (.getfield 36, 3) := by decide +kernel
theorem dX4_readPart_84 : decode cX4_readPart 84 = .ok (.iaload, 1) := by decide +kernel
theorem dX4_readPart_85 : decode cX4_readPart 85 = .ok (.istore_n 2, 1) := by decide +kernel
theorem dX4_readPart_86 : decode cX4_readPart 86 = .ok (.iload_n 2, 1) := by decide +kernel
theorem dX4_readPart_87 : decode cX4_readPart 87 = .ok (.sipush 1000, 3) := by decide +kernel
theorem dX4_readPart_90 : decode cX4_readPart 90 = .ok (.if_icmp .gt 26, 3) := by decide +kernel
theorem dX4_readPart_93 : decode cX4_readPart 93 = .ok (.aload_n 0, 1) := by decide +kernel
theorem dX4_readPart_94 : decode cX4_readPart 94 = .ok (.sipush 285, 3) := by decide +kernel
theorem dX4_readPart_97 : decode cX4_readPart 97 = .ok (.invokevirtual 53, 3) := by decide +kernel
theorem dX4_readPart_100 : decode cX4_readPart 100 = .ok (.ifCond .eq 16, 3) := by decide +kernel
theorem dX4_readPart_103 : decode cX4_readPart 103 = .ok (.aload_n 0, 1) := by decide +kernel
theorem dX4_readPart_104 : decode cX4_readPart 104 = .ok (.getfield 24, 3) := by decide +kernel
theorem dX4_readPart_107 : decode cX4_readPart 107 = .ok (.sipush 285, 3) := by decide +kernel
theorem dX4_readPart_110 : decode cX4_readPart 110 = .ok (.iload_n 2, 1) := by decide +kernel
theorem dX4_readPart_111 : decode cX4_readPart 111 = .ok (.invokevirtual 126, 3) := by decide +kernel
theorem dX4_readPart_114 : decode cX4_readPart 114 = .ok (.iconst 1, 1) := by decide +kernel
theorem dX4_readPart_115 : decode cX4_readPart 115 = .ok (.ireturn, 1) := by decide +kernel
theorem dX4_readPart_116 : decode cX4_readPart 116 = .ok (.aload_n 0, 1) := by decide +kernel
theorem dX4_readPart_117 : decode cX4_readPart 117 = .ok (.getfield 28, 3) := by decide +kernel
theorem dX4_readPart_120 : decode cX4_readPart 120 = .ok (.ifCond .eq 10, 3) := by decide +kernel
theorem dX4_readPart_123 : decode cX4_readPart 123 = .ok (.aload_n 0, 1) := by decide +kernel
theorem dX4_readPart_124 : decode cX4_readPart 124 = .ok (.invokevirtual 133, 3) := by decide +kernel
theorem dX4_readPart_127 : decode cX4_readPart 127 = .ok (.goto 7, 3) := by decide +kernel
theorem dX4_readPart_130 : decode cX4_readPart 130 = .ok (.aload_n 0, 1) := by decide +kernel
theorem dX4_readPart_131 : decode cX4_readPart 131 = .ok (.invokevirtual 136, 3) := by decide +kernel
theorem dX4_readPart_134 : decode cX4_readPart 134 = .ok (.istore_n 3, 1) := by decide +kernel
theorem dX4_readPart_135 : decode cX4_readPart 135 = .ok (.aload_n 0, 1) := by decide +kernel
theorem dX4_readPart_136 : decode cX4_readPart 136 = .ok (.getfield 24, 3) := by decide +kernel
theorem dX4_readPart_139 : decode cX4_readPart 139 = .ok (.sipush 287, 3) := by decide +kernel
theorem dX4_readPart_142 : decode cX4_readPart 142 = .ok (.iload_n 3, 1) := by decide +kernel
theorem dX4_readPart_143 : decode cX4_readPart 143 = .ok (.invokevirtual 126, 3) := by decide +kernel
theorem dX4_readPart_146 : decode cX4_readPart 146 = .ok (.iload_n 3, 1) := by decide +kernel
theorem dX4_readPart_147 : decode cX4_readPart 147 = .ok (.iconst (-1), 1) := by decide +kernel
theorem dX4_readPart_148 : decode cX4_readPart 148 = .ok (.if_icmp .eq 7, 3) := by decide +kernel
theorem dX4_readPart_151 : decode cX4_readPart 151 = .ok (.iconst 1, 1) := by decide +kernel
theorem dX4_readPart_152 : decode cX4_readPart 152 = .ok (.goto 4, 3) := by decide +kernel
theorem dX4_readPart_155 : decode cX4_readPart 155 = .ok (.iconst 0, 1) := by decide +kernel
theorem dX4_readPart_156 : decode cX4_readPart 156 = .ok (.ireturn, 1) := by decide +kernel
theorem dX4_readLawWord_0 : decode cX4_readLawWord 0 = .ok (.aload_n 0, 1) := by decide +kernel
theorem dX4_readLawWord_1 : decode cX4_readLawWord 1 = .ok (.getfield 9, 3) := by decide +kernel
theorem dX4_readLawWord_4 : decode cX4_readLawWord 4 = .ok (.aload_n 0, 1) := by decide +kernel
theorem dX4_readLawWord_5 : decode cX4_readLawWord 5 = .ok (.getfield 36, 3) := by decide +kernel
theorem dX4_readLawWord_8 : decode cX4_readLawWord 8 = .ok (.iaload, 1) := by decide +kernel
theorem dX4_readLawWord_9 : decode cX4_readLawWord 9 = .ok (.istore_n 1, 1) := by decide +kernel
theorem dX4_readLawWord_10 : decode cX4_readLawWord 10 = .ok (.iload_n 1, 1) := by decide +kernel
theorem dX4_readLawWord_11 : decode cX4_readLawWord 11 = .ok (.sipush 272, 3) := by decide +kernel
theorem dX4_readLawWord_14 : decode cX4_readLawWord 14 = .ok (.if_icmp .lt 10, 3) := by decide +kernel
theorem dX4_readLawWord_17 : decode cX4_readLawWord 17 = .ok (.iload_n 1, 1) := by decide +kernel
theorem dX4_readLawWord_18 : decode cX4_readLawWord 18 = .ok (.sipush 281, 3) := by decide +kernel
theorem dX4_readLawWord_21 : decode cX4_readLawWord 21 = .ok (.if_icmp .le 5, 3) := by decide +kernel
theorem dX4_readLawWord_24 : decode cX4_readLawWord 24 = .ok (.iconst (-1), 1) := by decide +kernel
theorem dX4_readLawWord_25 : decode cX4_readLawWord 25 = .ok (.ireturn, 1) := by decide +kernel
theorem dX4_readLawWord_26 : decode cX4_readLawWord 26 = .ok (.aload_n 0, 1) := by decide +kernel
theorem dX4_readLawWord_27 : decode cX4_readLawWord 27 = .ok (.dup, 1) := by decide +kernel
theorem dX4_readLawWord_28 : decode cX4_readLawWord 28 = .ok (.getfield 36, 3) := by decide +kernel
theorem dX4_readLawWord_31 : decode cX4_readLawWord 31 = .ok (.iconst 1, 1) := by decide +kernel
theorem dX4_readLawWord_32 : decode cX4_readLawWord 32 = .ok (.iadd, 1) := by decide +kernel
theorem dX4_readLawWord_33 : decode cX4_readLawWord 33 = .ok (.putfield 36, 3) := by decide +kernel
theorem dX4_readLawWord_36 : decode cX4_readLawWord 36 = .ok (.iload_n 1, 1) := by decide +kernel
theorem dX4_readLawWord_37 : decode cX4_readLawWord 37 = .ok (.sipush 272, 3) := by decide +kernel
theorem dX4_readLawWord_40 : decode cX4_readLawWord 40 = .ok (.isub, 1) := by decide +kernel
theorem dX4_readLawWord_41 : decode cX4_readLawWord 41 = .ok (.ireturn, 1) := by decide +kernel
theorem dX4_readOrderWord_0 : decode cX4_readOrderWord 0 = .ok (.aload_n 0, 1) := by decide +kernel
theorem dX4_readOrderWord_1 : decode cX4_readOrderWord 1 = .ok (.getfield 9, 3) := by decide +kernel
theorem dX4_readOrderWord_4 : decode cX4_readOrderWord 4 = .ok (.aload_n 0, 1) := by decide +kernel
theorem dX4_readOrderWord_5 : decode cX4_readOrderWord 5 = .ok (.getfield 36, 3) := by decide +kernel
theorem dX4_readOrderWord_8 : decode cX4_readOrderWord 8 = .ok (.iaload, 1) := by decide +kernel
theorem dX4_readOrderWord_9 : decode cX4_readOrderWord 9 = .ok (.istore_n 1, 1) := by decide +kernel
theorem dX4_readOrderWord_10 : decode cX4_readOrderWord 10 = .ok (.iload_n 1, 1) := by decide +kernel
theorem dX4_readOrderWord_11 : decode cX4_readOrderWord 11 = .ok (.sipush 280, 3) := by decide +kernel
theorem dX4_readOrderWord_14 : decode cX4_readOrderWord 14 = .ok (.if_icmp .eq 17, 3) := by decide +kernel
theorem dX4_readOrderWord_17 : decode cX4_readOrderWord 17 = .ok (.iload_n 1, 1) := by decide +kernel
theorem dX4_readOrderWord_18 : decode cX4_readOrderWord 18 = .ok (.sipush 282, 3) := by decide +kernel
theorem dX4_readOrderWord_21 : decode cX4_readOrderWord 21 = .ok (.if_icmp .eq 10, 3) := by decide +kernel
theorem dX4_readOrderWord_24 : decode cX4_readOrderWord 24 = .ok (.iload_n 1, 1) := by decide +kernel
theorem dX4_readOrderWord_25 : decode cX4_readOrderWord 25 = .ok (.sipush 283, 3) := by decide +kernel
theorem dX4_readOrderWord_28 : decode cX4_readOrderWord 28 = .ok (.if_icmp .ne 37, 3) := by decide +kernel
theorem dX4_readOrderWord_31 : decode cX4_readOrderWord 31 = .ok (.aload_n 0, 1) := by decide +kernel
theorem dX4_readOrderWord_32 : decode cX4_readOrderWord 32 = .ok (.dup, 1) := by decide +kernel
theorem dX4_readOrderWord_33 : decode cX4_readOrderWord 33 = .ok (.getfield 36, 3) := by decide +kernel
theorem dX4_readOrderWord_36 : decode cX4_readOrderWord 36 = .ok (.iconst 1, 1) := by decide +kernel
theorem dX4_readOrderWord_37 : decode cX4_readOrderWord 37 = .ok (.iadd, 1) := by decide +kernel
theorem dX4_readOrderWord_38 : decode cX4_readOrderWord 38 = .ok (.putfield 36, 3) := by decide +kernel
theorem dX4_readOrderWord_41 : decode cX4_readOrderWord 41 = .ok (.iload_n 1, 1) := by decide +kernel
theorem dX4_readOrderWord_42 : decode cX4_readOrderWord 42 = .ok (.sipush 280, 3) := by decide +kernel
theorem dX4_readOrderWord_45 : decode cX4_readOrderWord 45 = .ok (.if_icmp .ne 7, 3) := by decide +kernel
theorem dX4_readOrderWord_48 : decode cX4_readOrderWord 48 = .ok (.iconst 0, 1) := by decide +kernel
theorem dX4_readOrderWord_49 : decode cX4_readOrderWord 49 = .ok (.goto 15, 3) := by decide +kernel
theorem dX4_readOrderWord_52 : decode cX4_readOrderWord 52 = .ok (.iload_n 1, 1) := by decide +kernel
theorem dX4_readOrderWord_53 : decode cX4_readOrderWord 53 = .ok (.sipush 282, 3) := by decide +kernel
theorem dX4_readOrderWord_56 : decode cX4_readOrderWord 56 = .ok (.if_icmp .ne 7, 3) := by decide +kernel
theorem dX4_readOrderWord_59 : decode cX4_readOrderWord 59 = .ok (.iconst 1, 1) := by decide +kernel
theorem dX4_readOrderWord_60 : decode cX4_readOrderWord 60 = .ok (.goto 4, 3) := by decide +kernel
theorem dX4_readOrderWord_63 : decode cX4_readOrderWord 63 = .ok (.iconst 2, 1) := by decide +kernel
theorem dX4_readOrderWord_64 : decode cX4_readOrderWord 64 = .ok (.ireturn, 1) := by decide +kernel
theorem dX4_readOrderWord_65 : decode cX4_readOrderWord 65 = .ok (.iload_n 1, 1) := by decide +kernel
theorem dX4_readOrderWord_66 : decode cX4_readOrderWord 66 = .ok (.sipush 274, 3) := by decide +kernel
theorem dX4_readOrderWord_69 : decode cX4_readOrderWord 69 = .ok (.if_icmp .eq 19, 3) := by decide +kernel
theorem dX4_readOrderWord_72 : decode cX4_readOrderWord 72 = .ok (.iload_n 1, 1) := by decide +kernel
theorem dX4_readOrderWord_73 : decode cX4_readOrderWord 73 = .ok (.sipush 277, 3) := by decide +kernel
theorem dX4_readOrderWord_76 : decode cX4_readOrderWord 76 = .ok (.if_icmp .eq 12, 3) := by decide +kernel
theorem dX4_readOrderWord_79 : decode cX4_readOrderWord 79 = .ok (.iload_n 1, 1) := by decide +kernel
theorem dX4_readOrderWord_80 : decode cX4_readOrderWord 80 = .ok (.sipush 278, 3) := by decide +kernel
theorem dX4_readOrderWord_83 : decode cX4_readOrderWord 83 = .ok (.if_icmp .eq 5, 3) := by decide +kernel
theorem dX4_readOrderWord_86 : decode cX4_readOrderWord 86 = .ok (.iconst (-1), 1) := by decide +kernel
theorem dX4_readOrderWord_87 : decode cX4_readOrderWord 87 = .ok (.ireturn, 1) := by decide +kernel
theorem dX4_readOrderWord_88 : decode cX4_readOrderWord 88 = .ok (.aload_n 0, 1) := by decide +kernel
theorem dX4_readOrderWord_89 : decode cX4_readOrderWord 89 = .ok (.dup, 1) := by decide +kernel
theorem dX4_readOrderWord_90 : decode cX4_readOrderWord 90 = .ok (.getfield 36, 3) := by decide +kernel
theorem dX4_readOrderWord_93 : decode cX4_readOrderWord 93 = .ok (.iconst 1, 1) := by decide +kernel
theorem dX4_readOrderWord_94 : decode cX4_readOrderWord 94 = .ok (.iadd, 1) := by decide +kernel
theorem dX4_readOrderWord_95 : decode cX4_readOrderWord 95 = .ok (.putfield 36, 3) := by decide +kernel
theorem dX4_readOrderWord_98 : decode cX4_readOrderWord 98 = .ok (.aload_n 0, 1) := by decide +kernel
theorem dX4_readOrderWord_99 : decode cX4_readOrderWord 99 = .ok (.getfield 15, 3) := by decide +kernel
theorem dX4_readOrderWord_102 : decode cX4_readOrderWord 102 = .ok (.aload_n 0, 1) := by decide +kernel
theorem dX4_readOrderWord_103 : decode cX4_readOrderWord 103 = .ok (.getfield 36, 3) := by decide +kernel
theorem dX4_readOrderWord_106 : decode cX4_readOrderWord 106 = .ok (.iaload, 1) := by decide +kernel
theorem dX4_readOrderWord_107 : decode cX4_readOrderWord 107 = .ok (.istore_n 2, 1) := by decide +kernel
theorem dX4_readOrderWord_108 : decode cX4_readOrderWord 108 = .ok (.iload_n 1, 1) := by decide +kernel
theorem dX4_readOrderWord_109 : decode cX4_readOrderWord 109 = .ok (.sipush 274, 3) := by decide +kernel
theorem dX4_readOrderWord_112 : decode cX4_readOrderWord 112 = .ok (.if_icmp .ne 8, 3) := by decide +kernel
theorem dX4_readOrderWord_115 : decode cX4_readOrderWord 115 = .ok (.bipush 7, 2) := by decide +kernel
theorem dX4_readOrderWord_117 : decode cX4_readOrderWord 117 = .ok (.goto 4, 3) := by decide +kernel
theorem dX4_readOrderWord_120 : decode cX4_readOrderWord 120 = .ok (.iconst 1, 1) := by decide +kernel
theorem dX4_readOrderWord_121 : decode cX4_readOrderWord 121 = .ok (.istore_n 3, 1) := by decide +kernel
theorem dX4_readOrderWord_122 : decode cX4_readOrderWord 122 = .ok (.aload_n 0, 1) := by decide +kernel
theorem dX4_readOrderWord_123 : decode cX4_readOrderWord 123 = .ok (.getfield 9, 3) := by decide +kernel
theorem dX4_readOrderWord_126 : decode cX4_readOrderWord 126 = .ok (.aload_n 0, 1) := by decide +kernel
theorem dX4_readOrderWord_127 : decode cX4_readOrderWord 127 = .ok (.getfield 36, 3) := by decide +kernel
theorem dX4_readOrderWord_130 : decode cX4_readOrderWord 130 = .ok (.iaload, 1) := by decide +kernel
theorem dX4_readOrderWord_131 : decode cX4_readOrderWord 131 = .ok (.sipush 285, 3) := by decide +kernel
theorem dX4_readOrderWord_134 : decode cX4_readOrderWord 134 = .ok (.if_icmp .ne 8, 3) := by decide +kernel
theorem dX4_readOrderWord_137 : decode cX4_readOrderWord 137 = .ok (.iload_n 2, 1) := by decide +kernel
theorem dX4_readOrderWord_138 : decode cX4_readOrderWord 138 = .ok (.iload_n 3, 1) := by decide +kernel
theorem dX4_readOrderWord_139 : decode cX4_readOrderWord 139 = .ok (.if_icmp .le 5, 3) := by decide +kernel
theorem dX4_readOrderWord_142 : decode cX4_readOrderWord 142 = .ok (.iconst (-1), 1) := by decide +kernel
theorem dX4_readOrderWord_143 : decode cX4_readOrderWord 143 = .ok (.ireturn, 1) := by decide +kernel
theorem dX4_readOrderWord_144 : decode cX4_readOrderWord 144 = .ok (.aload_n 0, 1) := by decide +kernel
theorem dX4_readOrderWord_145 : decode cX4_readOrderWord 145 = .ok (.dup, 1) := by decide +kernel
theorem dX4_readOrderWord_146 : decode cX4_readOrderWord 146 = .ok (.getfield 36, 3) := by decide +kernel
theorem dX4_readOrderWord_149 : decode cX4_readOrderWord 149 = .ok (.iconst 1, 1) := by decide +kernel
theorem dX4_readOrderWord_150 : decode cX4_readOrderWord 150 = .ok (.iadd, 1) := by decide +kernel
theorem dX4_readOrderWord_151 : decode cX4_readOrderWord 151 = .ok (.putfield 36, 3) := by decide +kernel
theorem dX4_readOrderWord_154 : decode cX4_readOrderWord 154 = .ok (.iload_n 2, 1) := by decide +kernel
theorem dX4_readOrderWord_155 : decode cX4_readOrderWord 155 = .ok (.iload_n 1, 1) := by decide +kernel
theorem dX4_readOrderWord_156 : decode cX4_readOrderWord 156 = .ok (.sipush 274, 3) := by decide +kernel
theorem dX4_readOrderWord_159 : decode cX4_readOrderWord 159 = .ok (.if_icmp .ne 7, 3) := by decide +kernel
theorem dX4_readOrderWord_162 : decode cX4_readOrderWord 162 = .ok (.iconst 3, 1) := by decide +kernel
theorem dX4_readOrderWord_163 : decode cX4_readOrderWord 163 = .ok (.goto 17, 3) := by decide +kernel
theorem dX4_readOrderWord_166 : decode cX4_readOrderWord 166 = .ok (.iload_n 1, 1) := by decide +kernel
theorem dX4_readOrderWord_167 : decode cX4_readOrderWord 167 = .ok (.sipush 277, 3) := by decide +kernel
theorem dX4_readOrderWord_170 : decode cX4_readOrderWord 170 = .ok (.if_icmp .ne 8, 3) := by decide +kernel
theorem dX4_readOrderWord_173 : decode cX4_readOrderWord 173 = .ok (.bipush 11, 2) := by decide +kernel
theorem dX4_readOrderWord_175 : decode cX4_readOrderWord 175 = .ok (.goto 5, 3) := by decide +kernel
theorem dX4_readOrderWord_178 : decode cX4_readOrderWord 178 = .ok (.bipush 13, 2) := by decide +kernel
theorem dX4_readOrderWord_180 : decode cX4_readOrderWord 180 = .ok (.iadd, 1) := by decide +kernel
theorem dX4_readOrderWord_181 : decode cX4_readOrderWord 181 = .ok (.ireturn, 1) := by decide +kernel
