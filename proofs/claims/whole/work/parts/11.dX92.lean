/-! ===== what each instruction is (printed rows) ===== -/
theorem dX9_attackIt_80 : decode cX9_attackIt 80 = .ok (.istore 5, 2) := by decide +kernel
theorem dX9_attackIt_82 : decode cX9_attackIt 82 = .ok (.aload_n 0, 1) := by decide +kernel
theorem dX9_attackIt_83 : decode cX9_attackIt 83 = .ok (.getfield 13, 3) := by decide +kernel
theorem dX9_attackIt_86 : decode cX9_attackIt 86 = .ok (.iload 5, 2) := by decide +kernel
theorem dX9_attackIt_88 : decode cX9_attackIt 88 = .ok (.dup2, 1) := by decide +kernel
theorem dX9_attackIt_89 : decode cX9_attackIt 89 = .ok (.iaload, 1) := by decide +kernel
theorem dX9_attackIt_90 : decode cX9_attackIt 90 = .ok (.aload_n 0, 1) := by decide +kernel
theorem dX9_attackIt_91 : decode cX9_attackIt 91 = .ok (.getfield 13, 3) := by decide +kernel
theorem dX9_attackIt_94 : decode cX9_attackIt 94 = .ok (.iload 5, 2) := by decide +kernel
theorem dX9_attackIt_96 : decode cX9_attackIt 96 = .ok (.iaload, 1) := by decide +kernel
theorem dX9_attackIt_97 : decode cX9_attackIt 97 = .ok (.iconst 2, 1) := by decide +kernel
theorem dX9_attackIt_98 : decode cX9_attackIt 98 = .ok (.idiv, 1) := by decide +kernel
theorem dX9_attackIt_99 : decode cX9_attackIt 99 = .ok (.isub, 1) := by decide +kernel
theorem dX9_attackIt_100 : decode cX9_attackIt 100 = .ok (.iastore, 1) := by decide +kernel
theorem dX9_attackIt_101 : decode cX9_attackIt 101 = .ok (.aload_n 0, 1) := by decide +kernel
theorem dX9_attackIt_102 : decode cX9_attackIt 102 = .ok (.getfield 13, 3) := by decide +kernel
theorem dX9_attackIt_105 : decode cX9_attackIt 105 = .ok (.bipush 7, 2) := by decide +kernel
theorem dX9_attackIt_107 : decode cX9_attackIt 107 = .ok (.iload_n 2, 1) := by decide +kernel
theorem dX9_attackIt_108 : decode cX9_attackIt 108 = .ok (.iadd, 1) := by decide +kernel
theorem dX9_attackIt_109 : decode cX9_attackIt 109 = .ok (.dup2, 1) := by decide +kernel
theorem dX9_attackIt_110 : decode cX9_attackIt 110 = .ok (.iaload, 1) := by decide +kernel
theorem dX9_attackIt_111 : decode cX9_attackIt 111 = .ok (.iload 4, 2) := by decide +kernel
theorem dX9_attackIt_113 : decode cX9_attackIt 113 = .ok (.ifCond .ne 7, 3) := by decide +kernel
theorem dX9_attackIt_116 : decode cX9_attackIt 116 = .ok (.iconst 0, 1) := by decide +kernel
theorem dX9_attackIt_117 : decode cX9_attackIt 117 = .ok (.goto 12, 3) := by decide +kernel
theorem dX9_attackIt_120 : decode cX9_attackIt 120 = .ok (.iload_n 1, 1) := by decide +kernel
theorem dX9_attackIt_121 : decode cX9_attackIt 121 = .ok (.ifCond .ne 7, 3) := by decide +kernel
theorem dX9_attackIt_124 : decode cX9_attackIt 124 = .ok (.iconst 1, 1) := by decide +kernel
theorem dX9_attackIt_125 : decode cX9_attackIt 125 = .ok (.goto 4, 3) := by decide +kernel
theorem dX9_attackIt_128 : decode cX9_attackIt 128 = .ok (.iconst (-1), 1) := by decide +kernel
theorem dX9_attackIt_129 : decode cX9_attackIt 129 = .ok (.iadd, 1) := by decide +kernel
theorem dX9_attackIt_130 : decode cX9_attackIt 130 = .ok (.iastore, 1) := by decide +kernel
theorem dX9_attackIt_131 : decode cX9_attackIt 131 = .ok (.iload 4, 2) := by decide +kernel
theorem dX9_attackIt_133 : decode cX9_attackIt 133 = .ok (.ifCond .eq 7, 3) := by decide +kernel
theorem dX9_attackIt_136 : decode cX9_attackIt 136 = .ok (.iconst 1, 1) := by decide +kernel
theorem dX9_attackIt_137 : decode cX9_attackIt 137 = .ok (.goto 4, 3) := by decide +kernel
theorem dX9_attackIt_140 : decode cX9_attackIt 140 = .ok (.iconst 0, 1) := by decide +kernel
theorem dX9_attackIt_141 : decode cX9_attackIt 141 = .ok (.ireturn, 1) := by decide +kernel
theorem dX9_attackNow_0 : decode cX9_attackNow 0 = .ok (.iload_n 1, 1) := by decide +kernel
theorem dX9_attackNow_1 : decode cX9_attackNow 1 = .ok (.invokestatic 167, 3) := by decide +kernel
theorem dX9_attackNow_4 : decode cX9_attackNow 4 = .ok (.ifCond .eq 10, 3) := by decide +kernel
theorem dX9_attackNow_7 : decode cX9_attackNow 7 = .ok (.iload_n 2, 1) := by decide +kernel
theorem dX9_attackNow_8 : decode cX9_attackNow 8 = .ok (.invokestatic 171, 3) := by decide +kernel
theorem dX9_attackNow_11 : decode cX9_attackNow 11 = .ok (.ifCond .ne 5, 3) := by decide +kernel
theorem dX9_attackNow_14 : decode cX9_attackNow 14 = .ok (.iconst (-1), 1) := by decide +kernel
theorem dX9_attackNow_15 : decode cX9_attackNow 15 = .ok (.ireturn, 1) := by decide +kernel
theorem dX9_attackNow_16 : decode cX9_attackNow 16 = .ok (.aload_n 0, 1) := by decide +kernel
theorem dX9_attackNow_17 : decode cX9_attackNow 17 = .ok (.iload_n 1, 1) := by decide +kernel
theorem dX9_attackNow_18 : decode cX9_attackNow 18 = .ok (.iload_n 2, 1) := by decide +kernel
theorem dX9_attackNow_19 : decode cX9_attackNow 19 = .ok (.invokevirtual 409, 3) := by decide +kernel
theorem dX9_attackNow_22 : decode cX9_attackNow 22 = .ok (.ifCond .ne 6, 3) := by decide +kernel
theorem dX9_attackNow_25 : decode cX9_attackNow 25 = .ok (.bipush (-3), 2) := by decide +kernel
theorem dX9_attackNow_27 : decode cX9_attackNow 27 = .ok (.ireturn, 1) := by decide +kernel
theorem dX9_attackNow_28 : decode cX9_attackNow 28 = .ok (.aload_n 0, 1) := by decide +kernel
theorem dX9_attackNow_29 : decode cX9_attackNow 29 = .ok (.iconst 0, 1) := by decide +kernel
theorem dX9_attackNow_30 : decode cX9_attackNow 30 = .ok (.invokevirtual 412, 3) := by decide +kernel
theorem dX9_attackNow_33 : decode cX9_attackNow 33 = .ok (.aload_n 0, 1) := by decide +kernel
theorem dX9_attackNow_34 : decode cX9_attackNow 34 = .ok (.iload_n 1, 1) := by decide +kernel
theorem dX9_attackNow_35 : decode cX9_attackNow 35 = .ok (.iload_n 2, 1) := by decide +kernel
theorem dX9_attackNow_36 : decode cX9_attackNow 36 = .ok (.invokevirtual 415, 3) := by decide +kernel
theorem dX9_attackNow_39 : decode cX9_attackNow 39 = .ok (.ireturn, 1) := by decide +kernel
theorem dX9_attack_0 : decode cX9_attack 0 = .ok (.aload_n 0, 1) := by decide +kernel
theorem dX9_attack_1 : decode cX9_attack 1 = .ok (.iconst 0, 1) := by decide +kernel
theorem dX9_attack_2 : decode cX9_attack 2 = .ok (.putfield 134, 3) := by decide +kernel
theorem dX9_attack_5 : decode cX9_attack 5 = .ok (.aload_n 0, 1) := by decide +kernel
theorem dX9_attack_6 : decode cX9_attack 6 = .ok (.aload_n 0, 1) := by decide +kernel
theorem dX9_attack_7 : decode cX9_attack 7 = .ok (.iload_n 1, 1) := by decide +kernel
theorem dX9_attack_8 : decode cX9_attack 8 = .ok (.iload_n 2, 1) := by decide +kernel
theorem dX9_attack_9 : decode cX9_attack 9 = .ok (.invokevirtual 418, 3) := by decide +kernel
theorem dX9_attack_12 : decode cX9_attack 12 = .ok (.invokevirtual 143, 3) := by decide +kernel
theorem dX9_attack_15 : decode cX9_attack 15 = .ok (.ireturn, 1) := by decide +kernel
theorem dX9_shiftNow_0 : decode cX9_shiftNow 0 = .ok (.iload_n 3, 1) := by decide +kernel
theorem dX9_shiftNow_1 : decode cX9_shiftNow 1 = .ok (.ifCond .le 9, 3) := by decide +kernel
theorem dX9_shiftNow_4 : decode cX9_shiftNow 4 = .ok (.iload_n 2, 1) := by decide +kernel
theorem dX9_shiftNow_5 : decode cX9_shiftNow 5 = .ok (.iconst 1, 1) := by decide +kernel
theorem dX9_shiftNow_6 : decode cX9_shiftNow 6 = .ok (.iadd, 1) := by decide +kernel
theorem dX9_shiftNow_7 : decode cX9_shiftNow 7 = .ok (.goto 6, 3) := by decide +kernel
theorem dX9_shiftNow_10 : decode cX9_shiftNow 10 = .ok (.iload_n 2, 1) := by decide +kernel
theorem dX9_shiftNow_11 : decode cX9_shiftNow 11 = .ok (.iconst 1, 1) := by decide +kernel
theorem dX9_shiftNow_12 : decode cX9_shiftNow 12 = .ok (.isub, 1) := by decide +kernel
theorem dX9_shiftNow_13 : decode cX9_shiftNow 13 = .ok (.istore 4, 2) := by decide +kernel
theorem dX9_shiftNow_15 : decode cX9_shiftNow 15 = .ok (.iload_n 1, 1) := by decide +kernel
theorem dX9_shiftNow_16 : decode cX9_shiftNow 16 = .ok (.invokestatic 167, 3) := by decide +kernel
theorem dX9_shiftNow_19 : decode cX9_shiftNow 19 = .ok (.ifCond .eq 36, 3) := by decide +kernel
theorem dX9_shiftNow_22 : decode cX9_shiftNow 22 = .ok (.iload_n 2, 1) := by decide +kernel
theorem dX9_shiftNow_23 : decode cX9_shiftNow 23 = .ok (.invokestatic 171, 3) := by decide +kernel
theorem dX9_shiftNow_26 : decode cX9_shiftNow 26 = .ok (.ifCond .eq 29, 3) := by decide +kernel
theorem dX9_shiftNow_29 : decode cX9_shiftNow 29 = .ok (.iload_n 3, 1) := by decide +kernel
theorem dX9_shiftNow_30 : decode cX9_shiftNow 30 = .ok (.ifCond .eq 25, 3) := by decide +kernel
theorem dX9_shiftNow_33 : decode cX9_shiftNow 33 = .ok (.iload_n 3, 1) := by decide +kernel
theorem dX9_shiftNow_34 : decode cX9_shiftNow 34 = .ok (.i2l, 1) := by decide +kernel
theorem dX9_shiftNow_35 : decode cX9_shiftNow 35 = .ok (.ldc2_w 421, 3) := by decide +kernel
theorem dX9_shiftNow_38 : decode cX9_shiftNow 38 = .ok (.ldc2_w 174, 3) := by decide +kernel
theorem dX9_shiftNow_41 : decode cX9_shiftNow 41 = .ok (.invokestatic 154, 3) := by decide +kernel
theorem dX9_shiftNow_44 : decode cX9_shiftNow 44 = .ok (.ifCond .eq 11, 3) := by decide +kernel
theorem dX9_shiftNow_47 : decode cX9_shiftNow 47 = .ok (.iload 4, 2) := by decide +kernel
theorem dX9_shiftNow_49 : decode cX9_shiftNow 49 = .ok (.invokestatic 171, 3) := by decide +kernel
theorem dX9_shiftNow_52 : decode cX9_shiftNow 52 = .ok (.ifCond .ne 5, 3) := by decide +kernel
theorem dX9_shiftNow_55 : decode cX9_shiftNow 55 = .ok (.iconst (-1), 1) := by decide +kernel
theorem dX9_shiftNow_56 : decode cX9_shiftNow 56 = .ok (.ireturn, 1) := by decide +kernel
theorem dX9_shiftNow_57 : decode cX9_shiftNow 57 = .ok (.iload_n 3, 1) := by decide +kernel
theorem dX9_shiftNow_58 : decode cX9_shiftNow 58 = .ok (.invokestatic 423, 3) := by decide +kernel
theorem dX9_shiftNow_61 : decode cX9_shiftNow 61 = .ok (.istore 5, 2) := by decide +kernel
theorem dX9_shiftNow_63 : decode cX9_shiftNow 63 = .ok (.aload_n 0, 1) := by decide +kernel
theorem dX9_shiftNow_64 : decode cX9_shiftNow 64 = .ok (.iload_n 1, 1) := by decide +kernel
theorem dX9_shiftNow_65 : decode cX9_shiftNow 65 = .ok (.iload_n 2, 1) := by decide +kernel
theorem dX9_shiftNow_66 : decode cX9_shiftNow 66 = .ok (.invokevirtual 163, 3) := by decide +kernel
theorem dX9_shiftNow_69 : decode cX9_shiftNow 69 = .ok (.iload 5, 2) := by decide +kernel
theorem dX9_shiftNow_71 : decode cX9_shiftNow 71 = .ok (.if_icmp .lt 18, 3) := by decide +kernel
theorem dX9_shiftNow_74 : decode cX9_shiftNow 74 = .ok (.aload_n 0, 1) := by decide +kernel
theorem dX9_shiftNow_75 : decode cX9_shiftNow 75 = .ok (.iload_n 1, 1) := by decide +kernel
theorem dX9_shiftNow_76 : decode cX9_shiftNow 76 = .ok (.iload 4, 2) := by decide +kernel
theorem dX9_shiftNow_78 : decode cX9_shiftNow 78 = .ok (.invokevirtual 163, 3) := by decide +kernel
theorem dX9_shiftNow_81 : decode cX9_shiftNow 81 = .ok (.iload 5, 2) := by decide +kernel
theorem dX9_shiftNow_83 : decode cX9_shiftNow 83 = .ok (.iadd, 1) := by decide +kernel
theorem dX9_shiftNow_84 : decode cX9_shiftNow 84 = .ok (.bipush 99, 2) := by decide +kernel
theorem dX9_shiftNow_86 : decode cX9_shiftNow 86 = .ok (.if_icmp .le 6, 3) := by decide +kernel
theorem dX9_shiftNow_89 : decode cX9_shiftNow 89 = .ok (.bipush (-3), 2) := by decide +kernel
theorem dX9_shiftNow_91 : decode cX9_shiftNow 91 = .ok (.ireturn, 1) := by decide +kernel
theorem dX9_shiftNow_92 : decode cX9_shiftNow 92 = .ok (.aload_n 0, 1) := by decide +kernel
theorem dX9_shiftNow_93 : decode cX9_shiftNow 93 = .ok (.iconst 1, 1) := by decide +kernel
theorem dX9_shiftNow_94 : decode cX9_shiftNow 94 = .ok (.invokevirtual 412, 3) := by decide +kernel
theorem dX9_shiftNow_97 : decode cX9_shiftNow 97 = .ok (.aload_n 0, 1) := by decide +kernel
theorem dX9_shiftNow_98 : decode cX9_shiftNow 98 = .ok (.getfield 13, 3) := by decide +kernel
theorem dX9_shiftNow_101 : decode cX9_shiftNow 101 = .ok (.bipush 15, 2) := by decide +kernel
theorem dX9_shiftNow_103 : decode cX9_shiftNow 103 = .ok (.bipush 8, 2) := by decide +kernel
theorem dX9_shiftNow_105 : decode cX9_shiftNow 105 = .ok (.iload_n 1, 1) := by decide +kernel
theorem dX9_shiftNow_106 : decode cX9_shiftNow 106 = .ok (.imul, 1) := by decide +kernel
theorem dX9_shiftNow_107 : decode cX9_shiftNow 107 = .ok (.iadd, 1) := by decide +kernel
theorem dX9_shiftNow_108 : decode cX9_shiftNow 108 = .ok (.iload_n 2, 1) := by decide +kernel
theorem dX9_shiftNow_109 : decode cX9_shiftNow 109 = .ok (.iadd, 1) := by decide +kernel
theorem dX9_shiftNow_110 : decode cX9_shiftNow 110 = .ok (.dup2, 1) := by decide +kernel
theorem dX9_shiftNow_111 : decode cX9_shiftNow 111 = .ok (.iaload, 1) := by decide +kernel
theorem dX9_shiftNow_112 : decode cX9_shiftNow 112 = .ok (.iload 5, 2) := by decide +kernel
theorem dX9_shiftNow_114 : decode cX9_shiftNow 114 = .ok (.isub, 1) := by decide +kernel
theorem dX9_shiftNow_115 : decode cX9_shiftNow 115 = .ok (.iastore, 1) := by decide +kernel
theorem dX9_shiftNow_116 : decode cX9_shiftNow 116 = .ok (.aload_n 0, 1) := by decide +kernel
theorem dX9_shiftNow_117 : decode cX9_shiftNow 117 = .ok (.getfield 13, 3) := by decide +kernel
theorem dX9_shiftNow_120 : decode cX9_shiftNow 120 = .ok (.bipush 15, 2) := by decide +kernel
theorem dX9_shiftNow_122 : decode cX9_shiftNow 122 = .ok (.bipush 8, 2) := by decide +kernel
theorem dX9_shiftNow_124 : decode cX9_shiftNow 124 = .ok (.iload_n 1, 1) := by decide +kernel
theorem dX9_shiftNow_125 : decode cX9_shiftNow 125 = .ok (.imul, 1) := by decide +kernel
theorem dX9_shiftNow_126 : decode cX9_shiftNow 126 = .ok (.iadd, 1) := by decide +kernel
theorem dX9_shiftNow_127 : decode cX9_shiftNow 127 = .ok (.iload 4, 2) := by decide +kernel
theorem dX9_shiftNow_129 : decode cX9_shiftNow 129 = .ok (.iadd, 1) := by decide +kernel
theorem dX9_shiftNow_130 : decode cX9_shiftNow 130 = .ok (.dup2, 1) := by decide +kernel
theorem dX9_shiftNow_131 : decode cX9_shiftNow 131 = .ok (.iaload, 1) := by decide +kernel
theorem dX9_shiftNow_132 : decode cX9_shiftNow 132 = .ok (.iload 5, 2) := by decide +kernel
theorem dX9_shiftNow_134 : decode cX9_shiftNow 134 = .ok (.iadd, 1) := by decide +kernel
theorem dX9_shiftNow_135 : decode cX9_shiftNow 135 = .ok (.iastore, 1) := by decide +kernel
theorem dX9_shiftNow_136 : decode cX9_shiftNow 136 = .ok (.aload_n 0, 1) := by decide +kernel
theorem dX9_shiftNow_137 : decode cX9_shiftNow 137 = .ok (.iload_n 1, 1) := by decide +kernel
theorem dX9_shiftNow_138 : decode cX9_shiftNow 138 = .ok (.iload_n 2, 1) := by decide +kernel
theorem dX9_shiftNow_139 : decode cX9_shiftNow 139 = .ok (.invokevirtual 163, 3) := by decide +kernel
theorem dX9_shiftNow_142 : decode cX9_shiftNow 142 = .ok (.ireturn, 1) := by decide +kernel
theorem dX9_shift_0 : decode cX9_shift 0 = .ok (.aload_n 0, 1) := by decide +kernel
theorem dX9_shift_1 : decode cX9_shift 1 = .ok (.iconst 0, 1) := by decide +kernel
theorem dX9_shift_2 : decode cX9_shift 2 = .ok (.putfield 134, 3) := by decide +kernel
theorem dX9_shift_5 : decode cX9_shift 5 = .ok (.aload_n 0, 1) := by decide +kernel
theorem dX9_shift_6 : decode cX9_shift 6 = .ok (.aload_n 0, 1) := by decide +kernel
theorem dX9_shift_7 : decode cX9_shift 7 = .ok (.iload_n 1, 1) := by decide +kernel
theorem dX9_shift_8 : decode cX9_shift 8 = .ok (.iload_n 2, 1) := by decide +kernel
theorem dX9_shift_9 : decode cX9_shift 9 = .ok (.iload_n 3, 1) := by decide +kernel
theorem dX9_shift_10 : decode cX9_shift 10 = .ok (.invokevirtual 426, 3) := by decide +kernel
theorem dX9_shift_13 : decode cX9_shift 13 = .ok (.invokevirtual 143, 3) := by decide +kernel
theorem dX9_shift_16 : decode cX9_shift 16 = .ok (.ireturn, 1) := by decide +kernel
theorem dX9_showIt_0 : decode cX9_showIt 0 = .ok (.iconst 0, 1) := by decide +kernel
theorem dX9_showIt_1 : decode cX9_showIt 1 = .ok (.istore_n 3, 1) := by decide +kernel
theorem dX9_showIt_2 : decode cX9_showIt 2 = .ok (.iload_n 1, 1) := by decide +kernel
theorem dX9_showIt_3 : decode cX9_showIt 3 = .ok (.istore 4, 2) := by decide +kernel
theorem dX9_showIt_5 : decode cX9_showIt 5 = .ok (.iload_n 2, 1) := by decide +kernel
theorem dX9_showIt_6 : decode cX9_showIt 6 = .ok (.istore 5, 2) := by decide +kernel
theorem dX9_showIt_8 : decode cX9_showIt 8 = .ok (.iload 4, 2) := by decide +kernel
theorem dX9_showIt_10 : decode cX9_showIt 10 = .ok (.iconst (-1), 1) := by decide +kernel
theorem dX9_showIt_11 : decode cX9_showIt 11 = .ok (.if_icmp .eq 74, 3) := by decide +kernel
theorem dX9_showIt_14 : decode cX9_showIt 14 = .ok (.iload_n 3, 1) := by decide +kernel
theorem dX9_showIt_15 : decode cX9_showIt 15 = .ok (.bipush 16, 2) := by decide +kernel
theorem dX9_showIt_17 : decode cX9_showIt 17 = .ok (.if_icmp .ge 68, 3) := by decide +kernel
theorem dX9_showIt_20 : decode cX9_showIt 20 = .ok (.aload_n 0, 1) := by decide +kernel
theorem dX9_showIt_21 : decode cX9_showIt 21 = .ok (.getfield 13, 3) := by decide +kernel
theorem dX9_showIt_24 : decode cX9_showIt 24 = .ok (.bipush 33, 2) := by decide +kernel
theorem dX9_showIt_26 : decode cX9_showIt 26 = .ok (.iload 5, 2) := by decide +kernel
theorem dX9_showIt_28 : decode cX9_showIt 28 = .ok (.iadd, 1) := by decide +kernel
theorem dX9_showIt_29 : decode cX9_showIt 29 = .ok (.aload_n 0, 1) := by decide +kernel
theorem dX9_showIt_30 : decode cX9_showIt 30 = .ok (.getfield 13, 3) := by decide +kernel
theorem dX9_showIt_33 : decode cX9_showIt 33 = .ok (.bipush 33, 2) := by decide +kernel
theorem dX9_showIt_35 : decode cX9_showIt 35 = .ok (.iload 5, 2) := by decide +kernel
theorem dX9_showIt_37 : decode cX9_showIt 37 = .ok (.iadd, 1) := by decide +kernel
theorem dX9_showIt_38 : decode cX9_showIt 38 = .ok (.iaload, 1) := by decide +kernel
theorem dX9_showIt_39 : decode cX9_showIt 39 = .ok (.aload_n 0, 1) := by decide +kernel
theorem dX9_showIt_40 : decode cX9_showIt 40 = .ok (.iload 4, 2) := by decide +kernel
theorem dX9_showIt_42 : decode cX9_showIt 42 = .ok (.iload 5, 2) := by decide +kernel
theorem dX9_showIt_44 : decode cX9_showIt 44 = .ok (.invokevirtual 198, 3) := by decide +kernel
theorem dX9_showIt_47 : decode cX9_showIt 47 = .ok (.iadd, 1) := by decide +kernel
theorem dX9_showIt_48 : decode cX9_showIt 48 = .ok (.i2l, 1) := by decide +kernel
theorem dX9_showIt_49 : decode cX9_showIt 49 = .ok (.iconst 0, 1) := by decide +kernel
theorem dX9_showIt_50 : decode cX9_showIt 50 = .ok (.bipush 99, 2) := by decide +kernel
theorem dX9_showIt_52 : decode cX9_showIt 52 = .ok (.invokestatic 398, 3) := by decide +kernel
theorem dX9_showIt_55 : decode cX9_showIt 55 = .ok (.iastore, 1) := by decide +kernel
theorem dX9_showIt_56 : decode cX9_showIt 56 = .ok (.aload_n 0, 1) := by decide +kernel
theorem dX9_showIt_57 : decode cX9_showIt 57 = .ok (.getfield 13, 3) := by decide +kernel
theorem dX9_showIt_60 : decode cX9_showIt 60 = .ok (.bipush 51, 2) := by decide +kernel
theorem dX9_showIt_62 : decode cX9_showIt 62 = .ok (.iconst 2, 1) := by decide +kernel
theorem dX9_showIt_63 : decode cX9_showIt 63 = .ok (.iload 4, 2) := by decide +kernel
theorem dX9_showIt_65 : decode cX9_showIt 65 = .ok (.imul, 1) := by decide +kernel
theorem dX9_showIt_66 : decode cX9_showIt 66 = .ok (.iadd, 1) := by decide +kernel
theorem dX9_showIt_67 : decode cX9_showIt 67 = .ok (.iload 5, 2) := by decide +kernel
theorem dX9_showIt_69 : decode cX9_showIt 69 = .ok (.iadd, 1) := by decide +kernel
theorem dX9_showIt_70 : decode cX9_showIt 70 = .ok (.iaload, 1) := by decide +kernel
theorem dX9_showIt_71 : decode cX9_showIt 71 = .ok (.istore 4, 2) := by decide +kernel
theorem dX9_showIt_73 : decode cX9_showIt 73 = .ok (.iconst 1, 1) := by decide +kernel
theorem dX9_showIt_74 : decode cX9_showIt 74 = .ok (.iload 5, 2) := by decide +kernel
theorem dX9_showIt_76 : decode cX9_showIt 76 = .ok (.isub, 1) := by decide +kernel
theorem dX9_showIt_77 : decode cX9_showIt 77 = .ok (.istore 5, 2) := by decide +kernel
theorem dX9_showIt_79 : decode cX9_showIt 79 = .ok (.iinc 3 1, 3) := by decide +kernel
theorem dX9_showIt_82 : decode cX9_showIt 82 = .ok (.goto (-74), 3) := by decide +kernel
theorem dX9_showIt_85 : decode cX9_showIt 85 = .ok (.iload_n 3, 1) := by decide +kernel
theorem dX9_showIt_86 : decode cX9_showIt 86 = .ok (.ireturn, 1) := by decide +kernel
theorem dX9_showNow_0 : decode cX9_showNow 0 = .ok (.iload_n 1, 1) := by decide +kernel
theorem dX9_showNow_1 : decode cX9_showNow 1 = .ok (.invokestatic 171, 3) := by decide +kernel
theorem dX9_showNow_4 : decode cX9_showNow 4 = .ok (.ifCond .eq 10, 3) := by decide +kernel
theorem dX9_showNow_7 : decode cX9_showNow 7 = .ok (.iload_n 2, 1) := by decide +kernel
theorem dX9_showNow_8 : decode cX9_showNow 8 = .ok (.invokestatic 167, 3) := by decide +kernel
theorem dX9_showNow_11 : decode cX9_showNow 11 = .ok (.ifCond .ne 5, 3) := by decide +kernel
theorem dX9_showNow_14 : decode cX9_showNow 14 = .ok (.iconst (-1), 1) := by decide +kernel
theorem dX9_showNow_15 : decode cX9_showNow 15 = .ok (.ireturn, 1) := by decide +kernel
theorem dX9_showNow_16 : decode cX9_showNow 16 = .ok (.aload_n 0, 1) := by decide +kernel
theorem dX9_showNow_17 : decode cX9_showNow 17 = .ok (.iconst 2, 1) := by decide +kernel
theorem dX9_showNow_18 : decode cX9_showNow 18 = .ok (.invokevirtual 412, 3) := by decide +kernel
theorem dX9_showNow_21 : decode cX9_showNow 21 = .ok (.aload_n 0, 1) := by decide +kernel
theorem dX9_showNow_22 : decode cX9_showNow 22 = .ok (.iload_n 1, 1) := by decide +kernel
theorem dX9_showNow_23 : decode cX9_showNow 23 = .ok (.iload_n 2, 1) := by decide +kernel
theorem dX9_showNow_24 : decode cX9_showNow 24 = .ok (.invokevirtual 430, 3) := by decide +kernel
theorem dX9_showNow_27 : decode cX9_showNow 27 = .ok (.ireturn, 1) := by decide +kernel
theorem dX9_show_0 : decode cX9_show 0 = .ok (.aload_n 0, 1) := by decide +kernel
theorem dX9_show_1 : decode cX9_show 1 = .ok (.iconst 0, 1) := by decide +kernel
theorem dX9_show_2 : decode cX9_show 2 = .ok (.putfield 134, 3) := by decide +kernel
theorem dX9_show_5 : decode cX9_show 5 = .ok (.aload_n 0, 1) := by decide +kernel
theorem dX9_show_6 : decode cX9_show 6 = .ok (.aload_n 0, 1) := by decide +kernel
theorem dX9_show_7 : decode cX9_show 7 = .ok (.iload_n 1, 1) := by decide +kernel
theorem dX9_show_8 : decode cX9_show 8 = .ok (.iload_n 2, 1) := by decide +kernel
theorem dX9_show_9 : decode cX9_show 9 = .ok (.invokevirtual 433, 3) := by decide +kernel
theorem dX9_show_12 : decode cX9_show 12 = .ok (.invokevirtual 143, 3) := by decide +kernel
theorem dX9_show_15 : decode cX9_show 15 = .ok (.ireturn, 1) := by decide +kernel
theorem dX9_passIt_0 : decode cX9_passIt 0 = .ok (.aload_n 0, 1) := by decide +kernel
theorem dX9_passIt_1 : decode cX9_passIt 1 = .ok (.iconst 0, 1) := by decide +kernel
theorem dX9_passIt_2 : decode cX9_passIt 2 = .ok (.invokevirtual 186, 3) := by decide +kernel
theorem dX9_passIt_5 : decode cX9_passIt 5 = .ok (.istore_n 1, 1) := by decide +kernel
theorem dX9_passIt_6 : decode cX9_passIt 6 = .ok (.aload_n 0, 1) := by decide +kernel
theorem dX9_passIt_7 : decode cX9_passIt 7 = .ok (.iconst 1, 1) := by decide +kernel
theorem dX9_passIt_8 : decode cX9_passIt 8 = .ok (.invokevirtual 186, 3) := by decide +kernel
theorem dX9_passIt_11 : decode cX9_passIt 11 = .ok (.istore_n 2, 1) := by decide +kernel
theorem dX9_passIt_12 : decode cX9_passIt 12 = .ok (.aload_n 0, 1) := by decide +kernel
theorem dX9_passIt_13 : decode cX9_passIt 13 = .ok (.getfield 13, 3) := by decide +kernel
theorem dX9_passIt_16 : decode cX9_passIt 16 = .ok (.bipush 31, 2) := by decide +kernel
theorem dX9_passIt_18 : decode cX9_passIt 18 = .ok (.aload_n 0, 1) := by decide +kernel
theorem dX9_passIt_19 : decode cX9_passIt 19 = .ok (.getfield 13, 3) := by decide +kernel
theorem dX9_passIt_22 : decode cX9_passIt 22 = .ok (.bipush 31, 2) := by decide +kernel
theorem dX9_passIt_24 : decode cX9_passIt 24 = .ok (.iaload, 1) := by decide +kernel
theorem dX9_passIt_25 : decode cX9_passIt 25 = .ok (.iload_n 1, 1) := by decide +kernel
theorem dX9_passIt_26 : decode cX9_passIt 26 = .ok (.iadd, 1) := by decide +kernel
theorem dX9_passIt_27 : decode cX9_passIt 27 = .ok (.i2l, 1) := by decide +kernel
theorem dX9_passIt_28 : decode cX9_passIt 28 = .ok (.iconst 0, 1) := by decide +kernel
theorem dX9_passIt_29 : decode cX9_passIt 29 = .ok (.sipush 999, 3) := by decide +kernel
theorem dX9_passIt_32 : decode cX9_passIt 32 = .ok (.invokestatic 398, 3) := by decide +kernel
theorem dX9_passIt_35 : decode cX9_passIt 35 = .ok (.iastore, 1) := by decide +kernel
theorem dX9_passIt_36 : decode cX9_passIt 36 = .ok (.aload_n 0, 1) := by decide +kernel
theorem dX9_passIt_37 : decode cX9_passIt 37 = .ok (.getfield 13, 3) := by decide +kernel
theorem dX9_passIt_40 : decode cX9_passIt 40 = .ok (.bipush 32, 2) := by decide +kernel
theorem dX9_passIt_42 : decode cX9_passIt 42 = .ok (.aload_n 0, 1) := by decide +kernel
theorem dX9_passIt_43 : decode cX9_passIt 43 = .ok (.getfield 13, 3) := by decide +kernel
theorem dX9_passIt_46 : decode cX9_passIt 46 = .ok (.bipush 32, 2) := by decide +kernel
theorem dX9_passIt_48 : decode cX9_passIt 48 = .ok (.iaload, 1) := by decide +kernel
theorem dX9_passIt_49 : decode cX9_passIt 49 = .ok (.iload_n 2, 1) := by decide +kernel
theorem dX9_passIt_50 : decode cX9_passIt 50 = .ok (.iadd, 1) := by decide +kernel
theorem dX9_passIt_51 : decode cX9_passIt 51 = .ok (.i2l, 1) := by decide +kernel
theorem dX9_passIt_52 : decode cX9_passIt 52 = .ok (.iconst 0, 1) := by decide +kernel
theorem dX9_passIt_53 : decode cX9_passIt 53 = .ok (.sipush 999, 3) := by decide +kernel
theorem dX9_passIt_56 : decode cX9_passIt 56 = .ok (.invokestatic 398, 3) := by decide +kernel
theorem dX9_passIt_59 : decode cX9_passIt 59 = .ok (.iastore, 1) := by decide +kernel
theorem dX9_passIt_60 : decode cX9_passIt 60 = .ok (.aload_n 0, 1) := by decide +kernel
theorem dX9_passIt_61 : decode cX9_passIt 61 = .ok (.getfield 13, 3) := by decide +kernel
theorem dX9_passIt_64 : decode cX9_passIt 64 = .ok (.iconst 4, 1) := by decide +kernel
theorem dX9_passIt_65 : decode cX9_passIt 65 = .ok (.dup2, 1) := by decide +kernel
theorem dX9_passIt_66 : decode cX9_passIt 66 = .ok (.iaload, 1) := by decide +kernel
theorem dX9_passIt_67 : decode cX9_passIt 67 = .ok (.iconst 1, 1) := by decide +kernel
theorem dX9_passIt_68 : decode cX9_passIt 68 = .ok (.iadd, 1) := by decide +kernel
theorem dX9_passIt_69 : decode cX9_passIt 69 = .ok (.iastore, 1) := by decide +kernel
theorem dX9_passIt_70 : decode cX9_passIt 70 = .ok (.return_, 1) := by decide +kernel
theorem dX9_passNow_0 : decode cX9_passNow 0 = .ok (.aload_n 0, 1) := by decide +kernel
theorem dX9_passNow_1 : decode cX9_passNow 1 = .ok (.getfield 13, 3) := by decide +kernel
theorem dX9_passNow_4 : decode cX9_passNow 4 = .ok (.iconst 4, 1) := by decide +kernel
theorem dX9_passNow_5 : decode cX9_passNow 5 = .ok (.iaload, 1) := by decide +kernel
theorem dX9_passNow_6 : decode cX9_passNow 6 = .ok (.sipush 999, 3) := by decide +kernel
theorem dX9_passNow_9 : decode cX9_passNow 9 = .ok (.if_icmp .ne 6, 3) := by decide +kernel
theorem dX9_passNow_12 : decode cX9_passNow 12 = .ok (.bipush (-3), 2) := by decide +kernel
theorem dX9_passNow_14 : decode cX9_passNow 14 = .ok (.ireturn, 1) := by decide +kernel
theorem dX9_passNow_15 : decode cX9_passNow 15 = .ok (.aload_n 0, 1) := by decide +kernel
theorem dX9_passNow_16 : decode cX9_passNow 16 = .ok (.iconst 3, 1) := by decide +kernel
theorem dX9_passNow_17 : decode cX9_passNow 17 = .ok (.invokevirtual 412, 3) := by decide +kernel
theorem dX9_passNow_20 : decode cX9_passNow 20 = .ok (.aload_n 0, 1) := by decide +kernel
theorem dX9_passNow_21 : decode cX9_passNow 21 = .ok (.invokevirtual 436, 3) := by decide +kernel
theorem dX9_passNow_24 : decode cX9_passNow 24 = .ok (.aload_n 0, 1) := by decide +kernel
theorem dX9_passNow_25 : decode cX9_passNow 25 = .ok (.getfield 13, 3) := by decide +kernel
theorem dX9_passNow_28 : decode cX9_passNow 28 = .ok (.iconst 4, 1) := by decide +kernel
theorem dX9_passNow_29 : decode cX9_passNow 29 = .ok (.iaload, 1) := by decide +kernel
theorem dX9_passNow_30 : decode cX9_passNow 30 = .ok (.ireturn, 1) := by decide +kernel
theorem dX9_pass_0 : decode cX9_pass 0 = .ok (.aload_n 0, 1) := by decide +kernel
theorem dX9_pass_1 : decode cX9_pass 1 = .ok (.iconst 0, 1) := by decide +kernel
theorem dX9_pass_2 : decode cX9_pass 2 = .ok (.putfield 134, 3) := by decide +kernel
theorem dX9_pass_5 : decode cX9_pass 5 = .ok (.aload_n 0, 1) := by decide +kernel
theorem dX9_pass_6 : decode cX9_pass 6 = .ok (.aload_n 0, 1) := by decide +kernel
theorem dX9_pass_7 : decode cX9_pass 7 = .ok (.invokevirtual 439, 3) := by decide +kernel
theorem dX9_pass_10 : decode cX9_pass 10 = .ok (.invokevirtual 143, 3) := by decide +kernel
theorem dX9_pass_13 : decode cX9_pass 13 = .ok (.ireturn, 1) := by decide +kernel
theorem dX9_worthOf_0 : decode cX9_worthOf 0 = .ok (.iconst 0, 1) := by decide +kernel
theorem dX9_worthOf_1 : decode cX9_worthOf 1 = .ok (.istore_n 3, 1) := by decide +kernel
theorem dX9_worthOf_2 : decode cX9_worthOf 2 = .ok (.iconst 0, 1) := by decide +kernel
theorem dX9_worthOf_3 : decode cX9_worthOf 3 = .ok (.istore 4, 2) := by decide +kernel
theorem dX9_worthOf_5 : decode cX9_worthOf 5 = .ok (.iload 4, 2) := by decide +kernel
theorem dX9_worthOf_7 : decode cX9_worthOf 7 = .ok (.bipush 8, 2) := by decide +kernel
theorem dX9_worthOf_9 : decode cX9_worthOf 9 = .ok (.if_icmp .ge 39, 3) := by decide +kernel
theorem dX9_worthOf_12 : decode cX9_worthOf 12 = .ok (.iload_n 3, 1) := by decide +kernel
theorem dX9_worthOf_13 : decode cX9_worthOf 13 = .ok (.iload_n 1, 1) := by decide +kernel
theorem dX9_worthOf_14 : decode cX9_worthOf 14 = .ok (.iload 4, 2) := by decide +kernel
theorem dX9_worthOf_16 : decode cX9_worthOf 16 = .ok (.invokestatic 442, 3) := by decide +kernel
theorem dX9_worthOf_19 : decode cX9_worthOf 19 = .ok (.ifCond .eq 20, 3) := by decide +kernel
theorem dX9_worthOf_22 : decode cX9_worthOf 22 = .ok (.aload_n 0, 1) := by decide +kernel
theorem dX9_worthOf_23 : decode cX9_worthOf 23 = .ok (.getfield 13, 3) := by decide +kernel
theorem dX9_worthOf_26 : decode cX9_worthOf 26 = .ok (.bipush 67, 2) := by decide +kernel
theorem dX9_worthOf_28 : decode cX9_worthOf 28 = .ok (.iconst 2, 1) := by decide +kernel
theorem dX9_worthOf_29 : decode cX9_worthOf 29 = .ok (.iload 4, 2) := by decide +kernel
theorem dX9_worthOf_31 : decode cX9_worthOf 31 = .ok (.imul, 1) := by decide +kernel
theorem dX9_worthOf_32 : decode cX9_worthOf 32 = .ok (.iadd, 1) := by decide +kernel
theorem dX9_worthOf_33 : decode cX9_worthOf 33 = .ok (.iload_n 2, 1) := by decide +kernel
theorem dX9_worthOf_34 : decode cX9_worthOf 34 = .ok (.iadd, 1) := by decide +kernel
theorem dX9_worthOf_35 : decode cX9_worthOf 35 = .ok (.iaload, 1) := by decide +kernel
theorem dX9_worthOf_36 : decode cX9_worthOf 36 = .ok (.goto 4, 3) := by decide +kernel
theorem dX9_worthOf_39 : decode cX9_worthOf 39 = .ok (.iconst 0, 1) := by decide +kernel
theorem dX9_worthOf_40 : decode cX9_worthOf 40 = .ok (.iadd, 1) := by decide +kernel
theorem dX9_worthOf_41 : decode cX9_worthOf 41 = .ok (.istore_n 3, 1) := by decide +kernel
theorem dX9_worthOf_42 : decode cX9_worthOf 42 = .ok (.iinc 4 1, 3) := by decide +kernel
theorem dX9_worthOf_45 : decode cX9_worthOf 45 = .ok (.goto (-40), 3) := by decide +kernel
theorem dX9_worthOf_48 : decode cX9_worthOf 48 = .ok (.iload_n 3, 1) := by decide +kernel
theorem dX9_worthOf_49 : decode cX9_worthOf 49 = .ok (.ireturn, 1) := by decide +kernel
theorem dX9_treaty_0 : decode cX9_treaty 0 = .ok (.aload_n 0, 1) := by decide +kernel
theorem dX9_treaty_1 : decode cX9_treaty 1 = .ok (.iconst 0, 1) := by decide +kernel
theorem dX9_treaty_2 : decode cX9_treaty 2 = .ok (.putfield 134, 3) := by decide +kernel
theorem dX9_treaty_5 : decode cX9_treaty 5 = .ok (.iload_n 1, 1) := by decide +kernel
theorem dX9_treaty_6 : decode cX9_treaty 6 = .ok (.i2l, 1) := by decide +kernel
theorem dX9_treaty_7 : decode cX9_treaty 7 = .ok (.lconst 0, 1) := by decide +kernel
theorem dX9_treaty_8 : decode cX9_treaty 8 = .ok (.lconst 1, 1) := by decide +kernel
theorem dX9_treaty_9 : decode cX9_treaty 9 = .ok (.invokestatic 154, 3) := by decide +kernel
theorem dX9_treaty_12 : decode cX9_treaty 12 = .ok (.ifCond .ne 5, 3) := by decide +kernel
theorem dX9_treaty_15 : decode cX9_treaty 15 = .ok (.iconst (-1), 1) := by decide +kernel
theorem dX9_treaty_16 : decode cX9_treaty 16 = .ok (.ireturn, 1) := by decide +kernel
theorem dX9_treaty_17 : decode cX9_treaty 17 = .ok (.aload_n 0, 1) := by decide +kernel
theorem dX9_treaty_18 : decode cX9_treaty 18 = .ok (.getfield 13, 3) := by decide +kernel
theorem dX9_treaty_21 : decode cX9_treaty 21 = .ok (.iconst 5, 1) := by decide +kernel
theorem dX9_treaty_22 : decode cX9_treaty 22 = .ok (.iaload, 1) := by decide +kernel
theorem dX9_treaty_23 : decode cX9_treaty 23 = .ok (.istore_n 2, 1) := by decide +kernel
theorem dX9_treaty_24 : decode cX9_treaty 24 = .ok (.ldc_w 445, 3) := by decide +kernel
theorem dX9_treaty_27 : decode cX9_treaty 27 = .ok (.istore_n 3, 1) := by decide +kernel
theorem dX9_treaty_28 : decode cX9_treaty 28 = .ok (.iconst (-1), 1) := by decide +kernel
theorem dX9_treaty_29 : decode cX9_treaty 29 = .ok (.istore 4, 2) := by decide +kernel
theorem dX9_treaty_31 : decode cX9_treaty 31 = .ok (.iconst 0, 1) := by decide +kernel
theorem dX9_treaty_32 : decode cX9_treaty 32 = .ok (.istore 5, 2) := by decide +kernel
theorem dX9_treaty_34 : decode cX9_treaty 34 = .ok (.iload 5, 2) := by decide +kernel
theorem dX9_treaty_36 : decode cX9_treaty 36 = .ok (.sipush 256, 3) := by decide +kernel
theorem dX9_treaty_39 : decode cX9_treaty 39 = .ok (.if_icmp .ge 76, 3) := by decide +kernel
theorem dX9_treaty_42 : decode cX9_treaty 42 = .ok (.iload 5, 2) := by decide +kernel
theorem dX9_treaty_44 : decode cX9_treaty 44 = .ok (.invokestatic 446, 3) := by decide +kernel
theorem dX9_treaty_47 : decode cX9_treaty 47 = .ok (.iload_n 3, 1) := by decide +kernel
theorem dX9_treaty_48 : decode cX9_treaty 48 = .ok (.if_icmp .ge 29, 3) := by decide +kernel
theorem dX9_treaty_51 : decode cX9_treaty 51 = .ok (.aload_n 0, 1) := by decide +kernel
theorem dX9_treaty_52 : decode cX9_treaty 52 = .ok (.iload 5, 2) := by decide +kernel
theorem dX9_treaty_54 : decode cX9_treaty 54 = .ok (.iconst 0, 1) := by decide +kernel
theorem dX9_treaty_55 : decode cX9_treaty 55 = .ok (.invokevirtual 449, 3) := by decide +kernel
theorem dX9_treaty_58 : decode cX9_treaty 58 = .ok (.iload_n 2, 1) := by decide +kernel
theorem dX9_treaty_59 : decode cX9_treaty 59 = .ok (.if_icmp .lt 18, 3) := by decide +kernel
theorem dX9_treaty_62 : decode cX9_treaty 62 = .ok (.aload_n 0, 1) := by decide +kernel
theorem dX9_treaty_63 : decode cX9_treaty 63 = .ok (.iload 5, 2) := by decide +kernel
theorem dX9_treaty_65 : decode cX9_treaty 65 = .ok (.iconst 1, 1) := by decide +kernel
theorem dX9_treaty_66 : decode cX9_treaty 66 = .ok (.invokevirtual 449, 3) := by decide +kernel
theorem dX9_treaty_69 : decode cX9_treaty 69 = .ok (.iload_n 2, 1) := by decide +kernel
theorem dX9_treaty_70 : decode cX9_treaty 70 = .ok (.if_icmp .lt 7, 3) := by decide +kernel
theorem dX9_treaty_73 : decode cX9_treaty 73 = .ok (.iconst 1, 1) := by decide +kernel
theorem dX9_treaty_74 : decode cX9_treaty 74 = .ok (.goto 4, 3) := by decide +kernel
theorem dX9_treaty_77 : decode cX9_treaty 77 = .ok (.iconst 0, 1) := by decide +kernel
theorem dX9_treaty_78 : decode cX9_treaty 78 = .ok (.istore 6, 2) := by decide +kernel
theorem dX9_treaty_80 : decode cX9_treaty 80 = .ok (.iload 6, 2) := by decide +kernel
theorem dX9_treaty_82 : decode cX9_treaty 82 = .ok (.ifCond .eq 8, 3) := by decide +kernel
theorem dX9_treaty_85 : decode cX9_treaty 85 = .ok (.iload 5, 2) := by decide +kernel
theorem dX9_treaty_87 : decode cX9_treaty 87 = .ok (.goto 5, 3) := by decide +kernel
theorem dX9_treaty_90 : decode cX9_treaty 90 = .ok (.iload 4, 2) := by decide +kernel
theorem dX9_treaty_92 : decode cX9_treaty 92 = .ok (.istore 4, 2) := by decide +kernel
theorem dX9_treaty_94 : decode cX9_treaty 94 = .ok (.iload 6, 2) := by decide +kernel
theorem dX9_treaty_96 : decode cX9_treaty 96 = .ok (.ifCond .eq 11, 3) := by decide +kernel
theorem dX9_treaty_99 : decode cX9_treaty 99 = .ok (.iload 5, 2) := by decide +kernel
theorem dX9_treaty_101 : decode cX9_treaty 101 = .ok (.invokestatic 446, 3) := by decide +kernel
theorem dX9_treaty_104 : decode cX9_treaty 104 = .ok (.goto 4, 3) := by decide +kernel
theorem dX9_treaty_107 : decode cX9_treaty 107 = .ok (.iload_n 3, 1) := by decide +kernel
theorem dX9_treaty_108 : decode cX9_treaty 108 = .ok (.istore_n 3, 1) := by decide +kernel
theorem dX9_treaty_109 : decode cX9_treaty 109 = .ok (.iinc 5 1, 3) := by decide +kernel
theorem dX9_treaty_112 : decode cX9_treaty 112 = .ok (.goto (-78), 3) := by decide +kernel
theorem dX9_treaty_115 : decode cX9_treaty 115 = .ok (.iload 4, 2) := by decide +kernel
theorem dX9_treaty_117 : decode cX9_treaty 117 = .ok (.iconst (-1), 1) := by decide +kernel
theorem dX9_treaty_118 : decode cX9_treaty 118 = .ok (.if_icmp .eq 8, 3) := by decide +kernel
theorem dX9_treaty_121 : decode cX9_treaty 121 = .ok (.iload_n 1, 1) := by decide +kernel
theorem dX9_treaty_122 : decode cX9_treaty 122 = .ok (.iconst 1, 1) := by decide +kernel
theorem dX9_treaty_123 : decode cX9_treaty 123 = .ok (.if_icmp .ne 8, 3) := by decide +kernel
theorem dX9_treaty_126 : decode cX9_treaty 126 = .ok (.iload 4, 2) := by decide +kernel
theorem dX9_treaty_128 : decode cX9_treaty 128 = .ok (.goto 4, 3) := by decide +kernel
theorem dX9_treaty_131 : decode cX9_treaty 131 = .ok (.iload_n 3, 1) := by decide +kernel
theorem dX9_treaty_132 : decode cX9_treaty 132 = .ok (.ireturn, 1) := by decide +kernel
theorem dX9_hear_0 : decode cX9_hear 0 = .ok (.aload_n 0, 1) := by decide +kernel
theorem dX9_hear_1 : decode cX9_hear 1 = .ok (.iconst 0, 1) := by decide +kernel
theorem dX9_hear_2 : decode cX9_hear 2 = .ok (.putfield 134, 3) := by decide +kernel
theorem dX9_hear_5 : decode cX9_hear 5 = .ok (.iload_n 1, 1) := by decide +kernel
theorem dX9_hear_6 : decode cX9_hear 6 = .ok (.invokestatic 171, 3) := by decide +kernel
theorem dX9_hear_9 : decode cX9_hear 9 = .ok (.ifCond .eq 13, 3) := by decide +kernel
theorem dX9_hear_12 : decode cX9_hear 12 = .ok (.iload_n 2, 1) := by decide +kernel
theorem dX9_hear_13 : decode cX9_hear 13 = .ok (.i2l, 1) := by decide +kernel
theorem dX9_hear_14 : decode cX9_hear 14 = .ok (.lconst 0, 1) := by decide +kernel
theorem dX9_hear_15 : decode cX9_hear 15 = .ok (.lconst 1, 1) := by decide +kernel
theorem dX9_hear_16 : decode cX9_hear 16 = .ok (.invokestatic 154, 3) := by decide +kernel
theorem dX9_hear_19 : decode cX9_hear 19 = .ok (.ifCond .ne 9, 3) := by decide +kernel
theorem dX9_hear_22 : decode cX9_hear 22 = .ok (.aload_n 0, 1) := by decide +kernel
theorem dX9_hear_23 : decode cX9_hear 23 = .ok (.iconst (-1), 1) := by decide +kernel
theorem dX9_hear_24 : decode cX9_hear 24 = .ok (.invokevirtual 143, 3) := by decide +kernel
theorem dX9_hear_27 : decode cX9_hear 27 = .ok (.ireturn, 1) := by decide +kernel
theorem dX9_hear_28 : decode cX9_hear 28 = .ok (.aload_n 0, 1) := by decide +kernel
theorem dX9_hear_29 : decode cX9_hear 29 = .ok (.getfield 13, 3) := by decide +kernel
theorem dX9_hear_32 : decode cX9_hear 32 = .ok (.iconst 0, 1) := by decide +kernel
theorem dX9_hear_33 : decode cX9_hear 33 = .ok (.iaload, 1) := by decide +kernel
theorem dX9_hear_34 : decode cX9_hear 34 = .ok (.istore_n 3, 1) := by decide +kernel
theorem dX9_hear_35 : decode cX9_hear 35 = .ok (.iload_n 3, 1) := by decide +kernel
theorem dX9_hear_36 : decode cX9_hear 36 = .ok (.bipush 8, 2) := by decide +kernel
theorem dX9_hear_38 : decode cX9_hear 38 = .ok (.if_icmp .ne 10, 3) := by decide +kernel
theorem dX9_hear_41 : decode cX9_hear 41 = .ok (.aload_n 0, 1) := by decide +kernel
theorem dX9_hear_42 : decode cX9_hear 42 = .ok (.bipush (-5), 2) := by decide +kernel
theorem dX9_hear_44 : decode cX9_hear 44 = .ok (.invokevirtual 143, 3) := by decide +kernel
theorem dX9_hear_47 : decode cX9_hear 47 = .ok (.ireturn, 1) := by decide +kernel
theorem dX9_hear_48 : decode cX9_hear 48 = .ok (.aload_n 0, 1) := by decide +kernel
theorem dX9_hear_49 : decode cX9_hear 49 = .ok (.getfield 13, 3) := by decide +kernel
theorem dX9_hear_52 : decode cX9_hear 52 = .ok (.bipush 99, 2) := by decide +kernel
theorem dX9_hear_54 : decode cX9_hear 54 = .ok (.iconst 2, 1) := by decide +kernel
theorem dX9_hear_55 : decode cX9_hear 55 = .ok (.iload_n 3, 1) := by decide +kernel
theorem dX9_hear_56 : decode cX9_hear 56 = .ok (.imul, 1) := by decide +kernel
theorem dX9_hear_57 : decode cX9_hear 57 = .ok (.iadd, 1) := by decide +kernel
theorem dX9_hear_58 : decode cX9_hear 58 = .ok (.iload_n 1, 1) := by decide +kernel
theorem dX9_hear_59 : decode cX9_hear 59 = .ok (.iastore, 1) := by decide +kernel
theorem dX9_hear_60 : decode cX9_hear 60 = .ok (.aload_n 0, 1) := by decide +kernel
theorem dX9_hear_61 : decode cX9_hear 61 = .ok (.getfield 13, 3) := by decide +kernel
theorem dX9_hear_64 : decode cX9_hear 64 = .ok (.bipush 99, 2) := by decide +kernel
theorem dX9_hear_66 : decode cX9_hear 66 = .ok (.iconst 2, 1) := by decide +kernel
theorem dX9_hear_67 : decode cX9_hear 67 = .ok (.iload_n 3, 1) := by decide +kernel
theorem dX9_hear_68 : decode cX9_hear 68 = .ok (.imul, 1) := by decide +kernel
theorem dX9_hear_69 : decode cX9_hear 69 = .ok (.iadd, 1) := by decide +kernel
theorem dX9_hear_70 : decode cX9_hear 70 = .ok (.iconst 1, 1) := by decide +kernel
theorem dX9_hear_71 : decode cX9_hear 71 = .ok (.iadd, 1) := by decide +kernel
theorem dX9_hear_72 : decode cX9_hear 72 = .ok (.iload_n 2, 1) := by decide +kernel
theorem dX9_hear_73 : decode cX9_hear 73 = .ok (.iastore, 1) := by decide +kernel
theorem dX9_hear_74 : decode cX9_hear 74 = .ok (.aload_n 0, 1) := by decide +kernel
theorem dX9_hear_75 : decode cX9_hear 75 = .ok (.getfield 13, 3) := by decide +kernel
theorem dX9_hear_78 : decode cX9_hear 78 = .ok (.iconst 0, 1) := by decide +kernel
theorem dX9_hear_79 : decode cX9_hear 79 = .ok (.dup2, 1) := by decide +kernel
theorem dX9_hear_80 : decode cX9_hear 80 = .ok (.iaload, 1) := by decide +kernel
theorem dX9_hear_81 : decode cX9_hear 81 = .ok (.iconst 1, 1) := by decide +kernel
theorem dX9_hear_82 : decode cX9_hear 82 = .ok (.iadd, 1) := by decide +kernel
theorem dX9_hear_83 : decode cX9_hear 83 = .ok (.iastore, 1) := by decide +kernel
theorem dX9_hear_84 : decode cX9_hear 84 = .ok (.aload_n 0, 1) := by decide +kernel
theorem dX9_hear_85 : decode cX9_hear 85 = .ok (.iload_n 3, 1) := by decide +kernel
theorem dX9_hear_86 : decode cX9_hear 86 = .ok (.iconst 1, 1) := by decide +kernel
theorem dX9_hear_87 : decode cX9_hear 87 = .ok (.iadd, 1) := by decide +kernel
theorem dX9_hear_88 : decode cX9_hear 88 = .ok (.invokevirtual 143, 3) := by decide +kernel
theorem dX9_hear_91 : decode cX9_hear 91 = .ok (.ireturn, 1) := by decide +kernel
theorem dX9_tell_0 : decode cX9_tell 0 = .ok (.aload_n 0, 1) := by decide +kernel
theorem dX9_tell_1 : decode cX9_tell 1 = .ok (.iconst 0, 1) := by decide +kernel
theorem dX9_tell_2 : decode cX9_tell 2 = .ok (.putfield 134, 3) := by decide +kernel
theorem dX9_tell_5 : decode cX9_tell 5 = .ok (.iload_n 1, 1) := by decide +kernel
theorem dX9_tell_6 : decode cX9_tell 6 = .ok (.invokestatic 167, 3) := by decide +kernel
theorem dX9_tell_9 : decode cX9_tell 9 = .ok (.ifCond .eq 17, 3) := by decide +kernel
theorem dX9_tell_12 : decode cX9_tell 12 = .ok (.iload_n 2, 1) := by decide +kernel
theorem dX9_tell_13 : decode cX9_tell 13 = .ok (.i2l, 1) := by decide +kernel
theorem dX9_tell_14 : decode cX9_tell 14 = .ok (.ldc2_w 192, 3) := by decide +kernel
theorem dX9_tell_17 : decode cX9_tell 17 = .ok (.ldc2_w 194, 3) := by decide +kernel
theorem dX9_tell_20 : decode cX9_tell 20 = .ok (.invokestatic 154, 3) := by decide +kernel
theorem dX9_tell_23 : decode cX9_tell 23 = .ok (.ifCond .ne 9, 3) := by decide +kernel
theorem dX9_tell_26 : decode cX9_tell 26 = .ok (.aload_n 0, 1) := by decide +kernel
theorem dX9_tell_27 : decode cX9_tell 27 = .ok (.iconst (-1), 1) := by decide +kernel
theorem dX9_tell_28 : decode cX9_tell 28 = .ok (.invokevirtual 143, 3) := by decide +kernel
theorem dX9_tell_31 : decode cX9_tell 31 = .ok (.ireturn, 1) := by decide +kernel
theorem dX9_tell_32 : decode cX9_tell 32 = .ok (.aload_n 0, 1) := by decide +kernel
theorem dX9_tell_33 : decode cX9_tell 33 = .ok (.getfield 13, 3) := by decide +kernel
theorem dX9_tell_36 : decode cX9_tell 36 = .ok (.iconst 1, 1) := by decide +kernel
theorem dX9_tell_37 : decode cX9_tell 37 = .ok (.iaload, 1) := by decide +kernel
theorem dX9_tell_38 : decode cX9_tell 38 = .ok (.istore_n 3, 1) := by decide +kernel
theorem dX9_tell_39 : decode cX9_tell 39 = .ok (.iload_n 3, 1) := by decide +kernel
theorem dX9_tell_40 : decode cX9_tell 40 = .ok (.bipush 6, 2) := by decide +kernel
theorem dX9_tell_42 : decode cX9_tell 42 = .ok (.if_icmp .ne 10, 3) := by decide +kernel
theorem dX9_tell_45 : decode cX9_tell 45 = .ok (.aload_n 0, 1) := by decide +kernel
theorem dX9_tell_46 : decode cX9_tell 46 = .ok (.bipush (-5), 2) := by decide +kernel
theorem dX9_tell_48 : decode cX9_tell 48 = .ok (.invokevirtual 143, 3) := by decide +kernel
theorem dX9_tell_51 : decode cX9_tell 51 = .ok (.ireturn, 1) := by decide +kernel
theorem dX9_tell_52 : decode cX9_tell 52 = .ok (.aload_n 0, 1) := by decide +kernel
theorem dX9_tell_53 : decode cX9_tell 53 = .ok (.getfield 13, 3) := by decide +kernel
theorem dX9_tell_56 : decode cX9_tell 56 = .ok (.bipush 115, 2) := by decide +kernel
theorem dX9_tell_58 : decode cX9_tell 58 = .ok (.iconst 2, 1) := by decide +kernel
theorem dX9_tell_59 : decode cX9_tell 59 = .ok (.iload_n 3, 1) := by decide +kernel
theorem dX9_tell_60 : decode cX9_tell 60 = .ok (.imul, 1) := by decide +kernel
theorem dX9_tell_61 : decode cX9_tell 61 = .ok (.iadd, 1) := by decide +kernel
theorem dX9_tell_62 : decode cX9_tell 62 = .ok (.iload_n 1, 1) := by decide +kernel
theorem dX9_tell_63 : decode cX9_tell 63 = .ok (.iastore, 1) := by decide +kernel
theorem dX9_tell_64 : decode cX9_tell 64 = .ok (.aload_n 0, 1) := by decide +kernel
theorem dX9_tell_65 : decode cX9_tell 65 = .ok (.getfield 13, 3) := by decide +kernel
theorem dX9_tell_68 : decode cX9_tell 68 = .ok (.bipush 115, 2) := by decide +kernel
theorem dX9_tell_70 : decode cX9_tell 70 = .ok (.iconst 2, 1) := by decide +kernel
theorem dX9_tell_71 : decode cX9_tell 71 = .ok (.iload_n 3, 1) := by decide +kernel
theorem dX9_tell_72 : decode cX9_tell 72 = .ok (.imul, 1) := by decide +kernel
theorem dX9_tell_73 : decode cX9_tell 73 = .ok (.iadd, 1) := by decide +kernel
theorem dX9_tell_74 : decode cX9_tell 74 = .ok (.iconst 1, 1) := by decide +kernel
theorem dX9_tell_75 : decode cX9_tell 75 = .ok (.iadd, 1) := by decide +kernel
theorem dX9_tell_76 : decode cX9_tell 76 = .ok (.iload_n 2, 1) := by decide +kernel
theorem dX9_tell_77 : decode cX9_tell 77 = .ok (.iastore, 1) := by decide +kernel
theorem dX9_tell_78 : decode cX9_tell 78 = .ok (.aload_n 0, 1) := by decide +kernel
theorem dX9_tell_79 : decode cX9_tell 79 = .ok (.getfield 13, 3) := by decide +kernel
theorem dX9_tell_82 : decode cX9_tell 82 = .ok (.iconst 1, 1) := by decide +kernel
theorem dX9_tell_83 : decode cX9_tell 83 = .ok (.dup2, 1) := by decide +kernel
theorem dX9_tell_84 : decode cX9_tell 84 = .ok (.iaload, 1) := by decide +kernel
theorem dX9_tell_85 : decode cX9_tell 85 = .ok (.iconst 1, 1) := by decide +kernel
theorem dX9_tell_86 : decode cX9_tell 86 = .ok (.iadd, 1) := by decide +kernel
theorem dX9_tell_87 : decode cX9_tell 87 = .ok (.iastore, 1) := by decide +kernel
theorem dX9_tell_88 : decode cX9_tell 88 = .ok (.aload_n 0, 1) := by decide +kernel
theorem dX9_tell_89 : decode cX9_tell 89 = .ok (.iload_n 3, 1) := by decide +kernel
theorem dX9_tell_90 : decode cX9_tell 90 = .ok (.iconst 1, 1) := by decide +kernel
theorem dX9_tell_91 : decode cX9_tell 91 = .ok (.iadd, 1) := by decide +kernel
theorem dX9_tell_92 : decode cX9_tell 92 = .ok (.invokevirtual 143, 3) := by decide +kernel
theorem dX9_tell_95 : decode cX9_tell 95 = .ok (.ireturn, 1) := by decide +kernel
theorem dX9_forget_0 : decode cX9_forget 0 = .ok (.aload_n 0, 1) := by decide +kernel
theorem dX9_forget_1 : decode cX9_forget 1 = .ok (.iconst 0, 1) := by decide +kernel
theorem dX9_forget_2 : decode cX9_forget 2 = .ok (.putfield 134, 3) := by decide +kernel
theorem dX9_forget_5 : decode cX9_forget 5 = .ok (.aload_n 0, 1) := by decide +kernel
theorem dX9_forget_6 : decode cX9_forget 6 = .ok (.getfield 13, 3) := by decide +kernel
theorem dX9_forget_9 : decode cX9_forget 9 = .ok (.iconst 0, 1) := by decide +kernel
theorem dX9_forget_10 : decode cX9_forget 10 = .ok (.iaload, 1) := by decide +kernel
theorem dX9_forget_11 : decode cX9_forget 11 = .ok (.aload_n 0, 1) := by decide +kernel
theorem dX9_forget_12 : decode cX9_forget 12 = .ok (.getfield 13, 3) := by decide +kernel
theorem dX9_forget_15 : decode cX9_forget 15 = .ok (.iconst 1, 1) := by decide +kernel
theorem dX9_forget_16 : decode cX9_forget 16 = .ok (.iaload, 1) := by decide +kernel
theorem dX9_forget_17 : decode cX9_forget 17 = .ok (.iadd, 1) := by decide +kernel
theorem dX9_forget_18 : decode cX9_forget 18 = .ok (.istore_n 1, 1) := by decide +kernel
theorem dX9_forget_19 : decode cX9_forget 19 = .ok (.aload_n 0, 1) := by decide +kernel
theorem dX9_forget_20 : decode cX9_forget 20 = .ok (.getfield 13, 3) := by decide +kernel
theorem dX9_forget_23 : decode cX9_forget 23 = .ok (.iconst 0, 1) := by decide +kernel
theorem dX9_forget_24 : decode cX9_forget 24 = .ok (.iconst 0, 1) := by decide +kernel
theorem dX9_forget_25 : decode cX9_forget 25 = .ok (.iastore, 1) := by decide +kernel
theorem dX9_forget_26 : decode cX9_forget 26 = .ok (.aload_n 0, 1) := by decide +kernel
theorem dX9_forget_27 : decode cX9_forget 27 = .ok (.getfield 13, 3) := by decide +kernel
theorem dX9_forget_30 : decode cX9_forget 30 = .ok (.iconst 1, 1) := by decide +kernel
theorem dX9_forget_31 : decode cX9_forget 31 = .ok (.iconst 0, 1) := by decide +kernel
theorem dX9_forget_32 : decode cX9_forget 32 = .ok (.iastore, 1) := by decide +kernel
theorem dX9_forget_33 : decode cX9_forget 33 = .ok (.iload_n 1, 1) := by decide +kernel
theorem dX9_forget_34 : decode cX9_forget 34 = .ok (.ireturn, 1) := by decide +kernel
theorem dX9_pausesOf_0 : decode cX9_pausesOf 0 = .ok (.aload_n 0, 1) := by decide +kernel
theorem dX9_pausesOf_1 : decode cX9_pausesOf 1 = .ok (.getfield 13, 3) := by decide +kernel
theorem dX9_pausesOf_4 : decode cX9_pausesOf 4 = .ok (.bipush 83, 2) := by decide +kernel
theorem dX9_pausesOf_6 : decode cX9_pausesOf 6 = .ok (.iconst 2, 1) := by decide +kernel
theorem dX9_pausesOf_7 : decode cX9_pausesOf 7 = .ok (.iload_n 1, 1) := by decide +kernel
theorem dX9_pausesOf_8 : decode cX9_pausesOf 8 = .ok (.imul, 1) := by decide +kernel
theorem dX9_pausesOf_9 : decode cX9_pausesOf 9 = .ok (.iadd, 1) := by decide +kernel
theorem dX9_pausesOf_10 : decode cX9_pausesOf 10 = .ok (.iload_n 2, 1) := by decide +kernel
theorem dX9_pausesOf_11 : decode cX9_pausesOf 11 = .ok (.iadd, 1) := by decide +kernel
theorem dX9_pausesOf_12 : decode cX9_pausesOf 12 = .ok (.iaload, 1) := by decide +kernel
theorem dX9_pausesOf_13 : decode cX9_pausesOf 13 = .ok (.istore 4, 2) := by decide +kernel
theorem dX9_pausesOf_15 : decode cX9_pausesOf 15 = .ok (.iload_n 3, 1) := by decide +kernel
theorem dX9_pausesOf_16 : decode cX9_pausesOf 16 = .ok (.iconst 1, 1) := by decide +kernel
theorem dX9_pausesOf_17 : decode cX9_pausesOf 17 = .ok (.if_icmp .ne 9, 3) := by decide +kernel
theorem dX9_pausesOf_20 : decode cX9_pausesOf 20 = .ok (.iload 4, 2) := by decide +kernel
theorem dX9_pausesOf_22 : decode cX9_pausesOf 22 = .ok (.i2l, 1) := by decide +kernel
theorem dX9_pausesOf_23 : decode cX9_pausesOf 23 = .ok (.goto 10, 3) := by decide +kernel
theorem dX9_pausesOf_26 : decode cX9_pausesOf 26 = .ok (.ldc2_w 205, 3) := by decide +kernel
theorem dX9_pausesOf_29 : decode cX9_pausesOf 29 = .ok (.iload 4, 2) := by decide +kernel
theorem dX9_pausesOf_31 : decode cX9_pausesOf 31 = .ok (.i2l, 1) := by decide +kernel
theorem dX9_pausesOf_32 : decode cX9_pausesOf 32 = .ok (.lsub, 1) := by decide +kernel
theorem dX9_pausesOf_33 : decode cX9_pausesOf 33 = .ok (.lreturn, 1) := by decide +kernel
theorem dX9_probablyBy_0 : decode cX9_probablyBy 0 = .ok (.lconst 1, 1) := by decide +kernel
theorem dX9_probablyBy_1 : decode cX9_probablyBy 1 = .ok (.lstore_n 3, 1) := by decide +kernel
theorem dX9_probablyBy_2 : decode cX9_probablyBy 2 = .ok (.lconst 1, 1) := by decide +kernel
theorem dX9_probablyBy_3 : decode cX9_probablyBy 3 = .ok (.lstore 5, 2) := by decide +kernel
theorem dX9_probablyBy_5 : decode cX9_probablyBy 5 = .ok (.iconst 0, 1) := by decide +kernel
theorem dX9_probablyBy_6 : decode cX9_probablyBy 6 = .ok (.istore 7, 2) := by decide +kernel
theorem dX9_probablyBy_8 : decode cX9_probablyBy 8 = .ok (.iload 7, 2) := by decide +kernel
theorem dX9_probablyBy_10 : decode cX9_probablyBy 10 = .ok (.aload_n 0, 1) := by decide +kernel
theorem dX9_probablyBy_11 : decode cX9_probablyBy 11 = .ok (.getfield 13, 3) := by decide +kernel
theorem dX9_probablyBy_14 : decode cX9_probablyBy 14 = .ok (.iconst 0, 1) := by decide +kernel
theorem dX9_probablyBy_15 : decode cX9_probablyBy 15 = .ok (.iaload, 1) := by decide +kernel
theorem dX9_probablyBy_16 : decode cX9_probablyBy 16 = .ok (.if_icmp .ge 79, 3) := by decide +kernel
theorem dX9_probablyBy_19 : decode cX9_probablyBy 19 = .ok (.lload_n 3, 1) := by decide +kernel
theorem dX9_probablyBy_20 : decode cX9_probablyBy 20 = .ok (.aload_n 0, 1) := by decide +kernel
theorem dX9_probablyBy_21 : decode cX9_probablyBy 21 = .ok (.aload_n 0, 1) := by decide +kernel
theorem dX9_probablyBy_22 : decode cX9_probablyBy 22 = .ok (.getfield 13, 3) := by decide +kernel
theorem dX9_probablyBy_25 : decode cX9_probablyBy 25 = .ok (.bipush 99, 2) := by decide +kernel
theorem dX9_probablyBy_27 : decode cX9_probablyBy 27 = .ok (.iconst 2, 1) := by decide +kernel
theorem dX9_probablyBy_28 : decode cX9_probablyBy 28 = .ok (.iload 7, 2) := by decide +kernel
theorem dX9_probablyBy_30 : decode cX9_probablyBy 30 = .ok (.imul, 1) := by decide +kernel
theorem dX9_probablyBy_31 : decode cX9_probablyBy 31 = .ok (.iadd, 1) := by decide +kernel
theorem dX9_probablyBy_32 : decode cX9_probablyBy 32 = .ok (.iaload, 1) := by decide +kernel
theorem dX9_probablyBy_33 : decode cX9_probablyBy 33 = .ok (.iconst 0, 1) := by decide +kernel
theorem dX9_probablyBy_34 : decode cX9_probablyBy 34 = .ok (.aload_n 0, 1) := by decide +kernel
theorem dX9_probablyBy_35 : decode cX9_probablyBy 35 = .ok (.getfield 13, 3) := by decide +kernel
theorem dX9_probablyBy_38 : decode cX9_probablyBy 38 = .ok (.bipush 99, 2) := by decide +kernel
theorem dX9_probablyBy_40 : decode cX9_probablyBy 40 = .ok (.iconst 2, 1) := by decide +kernel
theorem dX9_probablyBy_41 : decode cX9_probablyBy 41 = .ok (.iload 7, 2) := by decide +kernel
theorem dX9_probablyBy_43 : decode cX9_probablyBy 43 = .ok (.imul, 1) := by decide +kernel
theorem dX9_probablyBy_44 : decode cX9_probablyBy 44 = .ok (.iadd, 1) := by decide +kernel
theorem dX9_probablyBy_45 : decode cX9_probablyBy 45 = .ok (.iconst 1, 1) := by decide +kernel
theorem dX9_probablyBy_46 : decode cX9_probablyBy 46 = .ok (.iadd, 1) := by decide +kernel
theorem dX9_probablyBy_47 : decode cX9_probablyBy 47 = .ok (.iaload, 1) := by decide +kernel
theorem dX9_probablyBy_48 : decode cX9_probablyBy 48 = .ok (.invokevirtual 452, 3) := by decide +kernel
theorem dX9_probablyBy_51 : decode cX9_probablyBy 51 = .ok (.lmul, 1) := by decide +kernel
theorem dX9_probablyBy_52 : decode cX9_probablyBy 52 = .ok (.lstore_n 3, 1) := by decide +kernel
theorem dX9_probablyBy_53 : decode cX9_probablyBy 53 = .ok (.lload 5, 2) := by decide +kernel
theorem dX9_probablyBy_55 : decode cX9_probablyBy 55 = .ok (.aload_n 0, 1) := by decide +kernel
theorem dX9_probablyBy_56 : decode cX9_probablyBy 56 = .ok (.aload_n 0, 1) := by decide +kernel
theorem dX9_probablyBy_57 : decode cX9_probablyBy 57 = .ok (.getfield 13, 3) := by decide +kernel
theorem dX9_probablyBy_60 : decode cX9_probablyBy 60 = .ok (.bipush 99, 2) := by decide +kernel
theorem dX9_probablyBy_62 : decode cX9_probablyBy 62 = .ok (.iconst 2, 1) := by decide +kernel
theorem dX9_probablyBy_63 : decode cX9_probablyBy 63 = .ok (.iload 7, 2) := by decide +kernel
theorem dX9_probablyBy_65 : decode cX9_probablyBy 65 = .ok (.imul, 1) := by decide +kernel
theorem dX9_probablyBy_66 : decode cX9_probablyBy 66 = .ok (.iadd, 1) := by decide +kernel
theorem dX9_probablyBy_67 : decode cX9_probablyBy 67 = .ok (.iaload, 1) := by decide +kernel
theorem dX9_probablyBy_68 : decode cX9_probablyBy 68 = .ok (.iconst 1, 1) := by decide +kernel
theorem dX9_probablyBy_69 : decode cX9_probablyBy 69 = .ok (.aload_n 0, 1) := by decide +kernel
theorem dX9_probablyBy_70 : decode cX9_probablyBy 70 = .ok (.getfield 13, 3) := by decide +kernel
theorem dX9_probablyBy_73 : decode cX9_probablyBy 73 = .ok (.bipush 99, 2) := by decide +kernel
theorem dX9_probablyBy_75 : decode cX9_probablyBy 75 = .ok (.iconst 2, 1) := by decide +kernel
theorem dX9_probablyBy_76 : decode cX9_probablyBy 76 = .ok (.iload 7, 2) := by decide +kernel
theorem dX9_probablyBy_78 : decode cX9_probablyBy 78 = .ok (.imul, 1) := by decide +kernel
theorem dX9_probablyBy_79 : decode cX9_probablyBy 79 = .ok (.iadd, 1) := by decide +kernel
theorem dX9_probablyBy_80 : decode cX9_probablyBy 80 = .ok (.iconst 1, 1) := by decide +kernel
theorem dX9_probablyBy_81 : decode cX9_probablyBy 81 = .ok (.iadd, 1) := by decide +kernel
theorem dX9_probablyBy_82 : decode cX9_probablyBy 82 = .ok (.iaload, 1) := by decide +kernel
theorem dX9_probablyBy_83 : decode cX9_probablyBy 83 = .ok (.invokevirtual 452, 3) := by decide +kernel
theorem dX9_probablyBy_86 : decode cX9_probablyBy 86 = .ok (.lmul, 1) := by decide +kernel
theorem dX9_probablyBy_87 : decode cX9_probablyBy 87 = .ok (.lstore 5, 2) := by decide +kernel
theorem dX9_probablyBy_89 : decode cX9_probablyBy 89 = .ok (.iinc 7 1, 3) := by decide +kernel
theorem dX9_probablyBy_92 : decode cX9_probablyBy 92 = .ok (.goto (-84), 3) := by decide +kernel
theorem dX9_probablyBy_95 : decode cX9_probablyBy 95 = .ok (.lload_n 3, 1) := by decide +kernel
theorem dX9_probablyBy_96 : decode cX9_probablyBy 96 = .ok (.iload_n 1, 1) := by decide +kernel
theorem dX9_probablyBy_97 : decode cX9_probablyBy 97 = .ok (.iconst (-1), 1) := by decide +kernel
theorem dX9_probablyBy_98 : decode cX9_probablyBy 98 = .ok (.if_icmp .ne 7, 3) := by decide +kernel
theorem dX9_probablyBy_101 : decode cX9_probablyBy 101 = .ok (.lconst 1, 1) := by decide +kernel
theorem dX9_probablyBy_102 : decode cX9_probablyBy 102 = .ok (.goto 10, 3) := by decide +kernel
theorem dX9_probablyBy_105 : decode cX9_probablyBy 105 = .ok (.aload_n 0, 1) := by decide +kernel
theorem dX9_probablyBy_106 : decode cX9_probablyBy 106 = .ok (.iload_n 1, 1) := by decide +kernel
theorem dX9_probablyBy_107 : decode cX9_probablyBy 107 = .ok (.iconst 0, 1) := by decide +kernel
theorem dX9_probablyBy_108 : decode cX9_probablyBy 108 = .ok (.iload_n 2, 1) := by decide +kernel
theorem dX9_probablyBy_109 : decode cX9_probablyBy 109 = .ok (.invokevirtual 452, 3) := by decide +kernel
theorem dX9_probablyBy_112 : decode cX9_probablyBy 112 = .ok (.lmul, 1) := by decide +kernel
theorem dX9_probablyBy_113 : decode cX9_probablyBy 113 = .ok (.lstore_n 3, 1) := by decide +kernel
theorem dX9_probablyBy_114 : decode cX9_probablyBy 114 = .ok (.lload 5, 2) := by decide +kernel
theorem dX9_probablyBy_116 : decode cX9_probablyBy 116 = .ok (.iload_n 1, 1) := by decide +kernel
theorem dX9_probablyBy_117 : decode cX9_probablyBy 117 = .ok (.iconst (-1), 1) := by decide +kernel
theorem dX9_probablyBy_118 : decode cX9_probablyBy 118 = .ok (.if_icmp .ne 7, 3) := by decide +kernel
theorem dX9_probablyBy_121 : decode cX9_probablyBy 121 = .ok (.lconst 1, 1) := by decide +kernel
theorem dX9_probablyBy_122 : decode cX9_probablyBy 122 = .ok (.goto 10, 3) := by decide +kernel
theorem dX9_probablyBy_125 : decode cX9_probablyBy 125 = .ok (.aload_n 0, 1) := by decide +kernel
theorem dX9_probablyBy_126 : decode cX9_probablyBy 126 = .ok (.iload_n 1, 1) := by decide +kernel
theorem dX9_probablyBy_127 : decode cX9_probablyBy 127 = .ok (.iconst 1, 1) := by decide +kernel
theorem dX9_probablyBy_128 : decode cX9_probablyBy 128 = .ok (.iload_n 2, 1) := by decide +kernel
theorem dX9_probablyBy_129 : decode cX9_probablyBy 129 = .ok (.invokevirtual 452, 3) := by decide +kernel
theorem dX9_probablyBy_132 : decode cX9_probablyBy 132 = .ok (.lmul, 1) := by decide +kernel
theorem dX9_probablyBy_133 : decode cX9_probablyBy 133 = .ok (.lstore 5, 2) := by decide +kernel
theorem dX9_probablyBy_135 : decode cX9_probablyBy 135 = .ok (.lload_n 3, 1) := by decide +kernel
theorem dX9_probablyBy_136 : decode cX9_probablyBy 136 = .ok (.lload 5, 2) := by decide +kernel
theorem dX9_probablyBy_138 : decode cX9_probablyBy 138 = .ok (.ladd, 1) := by decide +kernel
theorem dX9_probablyBy_139 : decode cX9_probablyBy 139 = .ok (.lconst 0, 1) := by decide +kernel
theorem dX9_probablyBy_140 : decode cX9_probablyBy 140 = .ok (.lcmp, 1) := by decide +kernel
theorem dX9_probablyBy_141 : decode cX9_probablyBy 141 = .ok (.ifCond .ne 9, 3) := by decide +kernel
theorem dX9_probablyBy_144 : decode cX9_probablyBy 144 = .ok (.ldc_w 456, 3) := by decide +kernel
theorem dX9_probablyBy_147 : decode cX9_probablyBy 147 = .ok (.goto 14, 3) := by decide +kernel
theorem dX9_probablyBy_150 : decode cX9_probablyBy 150 = .ok (.lload_n 3, 1) := by decide +kernel
theorem dX9_probablyBy_151 : decode cX9_probablyBy 151 = .ok (.ldc2_w 250, 3) := by decide +kernel
theorem dX9_probablyBy_154 : decode cX9_probablyBy 154 = .ok (.lmul, 1) := by decide +kernel
theorem dX9_probablyBy_155 : decode cX9_probablyBy 155 = .ok (.lload_n 3, 1) := by decide +kernel
theorem dX9_probablyBy_156 : decode cX9_probablyBy 156 = .ok (.lload 5, 2) := by decide +kernel
theorem dX9_probablyBy_158 : decode cX9_probablyBy 158 = .ok (.ladd, 1) := by decide +kernel
theorem dX9_probablyBy_159 : decode cX9_probablyBy 159 = .ok (.ldiv, 1) := by decide +kernel
theorem dX9_probablyBy_160 : decode cX9_probablyBy 160 = .ok (.l2i, 1) := by decide +kernel
theorem dX9_probablyBy_161 : decode cX9_probablyBy 161 = .ok (.ireturn, 1) := by decide +kernel
theorem dX9_probably_0 : decode cX9_probably 0 = .ok (.aload_n 0, 1) := by decide +kernel
theorem dX9_probably_1 : decode cX9_probably 1 = .ok (.iconst 0, 1) := by decide +kernel
theorem dX9_probably_2 : decode cX9_probably 2 = .ok (.putfield 134, 3) := by decide +kernel
theorem dX9_probably_5 : decode cX9_probably 5 = .ok (.aload_n 0, 1) := by decide +kernel
theorem dX9_probably_6 : decode cX9_probably 6 = .ok (.iconst (-1), 1) := by decide +kernel
theorem dX9_probably_7 : decode cX9_probably 7 = .ok (.iconst 0, 1) := by decide +kernel
theorem dX9_probably_8 : decode cX9_probably 8 = .ok (.invokevirtual 457, 3) := by decide +kernel
theorem dX9_probably_11 : decode cX9_probably 11 = .ok (.ireturn, 1) := by decide +kernel
theorem dX9_ask_0 : decode cX9_ask 0 = .ok (.aload_n 0, 1) := by decide +kernel
theorem dX9_ask_1 : decode cX9_ask 1 = .ok (.iconst 0, 1) := by decide +kernel
theorem dX9_ask_2 : decode cX9_ask 2 = .ok (.putfield 134, 3) := by decide +kernel
theorem dX9_ask_5 : decode cX9_ask 5 = .ok (.iload_n 1, 1) := by decide +kernel
theorem dX9_ask_6 : decode cX9_ask 6 = .ok (.i2l, 1) := by decide +kernel
theorem dX9_ask_7 : decode cX9_ask 7 = .ok (.lconst 0, 1) := by decide +kernel
theorem dX9_ask_8 : decode cX9_ask 8 = .ok (.lconst 1, 1) := by decide +kernel
theorem dX9_ask_9 : decode cX9_ask 9 = .ok (.invokestatic 154, 3) := by decide +kernel
theorem dX9_ask_12 : decode cX9_ask 12 = .ok (.ifCond .ne 5, 3) := by decide +kernel
theorem dX9_ask_15 : decode cX9_ask 15 = .ok (.iconst (-1), 1) := by decide +kernel
theorem dX9_ask_16 : decode cX9_ask 16 = .ok (.ireturn, 1) := by decide +kernel
theorem dX9_ask_17 : decode cX9_ask 17 = .ok (.iconst (-1), 1) := by decide +kernel
theorem dX9_ask_18 : decode cX9_ask 18 = .ok (.istore_n 2, 1) := by decide +kernel
theorem dX9_ask_19 : decode cX9_ask 19 = .ok (.iconst (-1), 1) := by decide +kernel
theorem dX9_ask_20 : decode cX9_ask 20 = .ok (.istore_n 3, 1) := by decide +kernel
theorem dX9_ask_21 : decode cX9_ask 21 = .ok (.iconst 0, 1) := by decide +kernel
theorem dX9_ask_22 : decode cX9_ask 22 = .ok (.istore 4, 2) := by decide +kernel
theorem dX9_ask_24 : decode cX9_ask 24 = .ok (.iload 4, 2) := by decide +kernel
theorem dX9_ask_26 : decode cX9_ask 26 = .ok (.bipush 8, 2) := by decide +kernel
theorem dX9_ask_28 : decode cX9_ask 28 = .ok (.if_icmp .ge 55, 3) := by decide +kernel
theorem dX9_ask_31 : decode cX9_ask 31 = .ok (.aload_n 0, 1) := by decide +kernel
theorem dX9_ask_32 : decode cX9_ask 32 = .ok (.iload 4, 2) := by decide +kernel
theorem dX9_ask_34 : decode cX9_ask 34 = .ok (.iconst 1, 1) := by decide +kernel
theorem dX9_ask_35 : decode cX9_ask 35 = .ok (.invokevirtual 457, 3) := by decide +kernel
theorem dX9_ask_38 : decode cX9_ask 38 = .ok (.aload_n 0, 1) := by decide +kernel
theorem dX9_ask_39 : decode cX9_ask 39 = .ok (.iload 4, 2) := by decide +kernel
theorem dX9_ask_41 : decode cX9_ask 41 = .ok (.iconst 0, 1) := by decide +kernel
theorem dX9_ask_42 : decode cX9_ask 42 = .ok (.invokevirtual 457, 3) := by decide +kernel
theorem dX9_ask_45 : decode cX9_ask 45 = .ok (.isub, 1) := by decide +kernel
theorem dX9_ask_46 : decode cX9_ask 46 = .ok (.invokestatic 423, 3) := by decide +kernel
theorem dX9_ask_49 : decode cX9_ask 49 = .ok (.istore 5, 2) := by decide +kernel
theorem dX9_ask_51 : decode cX9_ask 51 = .ok (.iload 5, 2) := by decide +kernel
theorem dX9_ask_53 : decode cX9_ask 53 = .ok (.iload_n 2, 1) := by decide +kernel
theorem dX9_ask_54 : decode cX9_ask 54 = .ok (.if_icmp .le 8, 3) := by decide +kernel
theorem dX9_ask_57 : decode cX9_ask 57 = .ok (.iload 4, 2) := by decide +kernel
theorem dX9_ask_59 : decode cX9_ask 59 = .ok (.goto 4, 3) := by decide +kernel
theorem dX9_ask_62 : decode cX9_ask 62 = .ok (.iload_n 3, 1) := by decide +kernel
theorem dX9_ask_63 : decode cX9_ask 63 = .ok (.istore_n 3, 1) := by decide +kernel
theorem dX9_ask_64 : decode cX9_ask 64 = .ok (.iload 5, 2) := by decide +kernel
theorem dX9_ask_66 : decode cX9_ask 66 = .ok (.iload_n 2, 1) := by decide +kernel
theorem dX9_ask_67 : decode cX9_ask 67 = .ok (.if_icmp .le 8, 3) := by decide +kernel
theorem dX9_ask_70 : decode cX9_ask 70 = .ok (.iload 5, 2) := by decide +kernel
theorem dX9_ask_72 : decode cX9_ask 72 = .ok (.goto 4, 3) := by decide +kernel
theorem dX9_ask_75 : decode cX9_ask 75 = .ok (.iload_n 2, 1) := by decide +kernel
theorem dX9_ask_76 : decode cX9_ask 76 = .ok (.istore_n 2, 1) := by decide +kernel
theorem dX9_ask_77 : decode cX9_ask 77 = .ok (.iinc 4 1, 3) := by decide +kernel
theorem dX9_ask_80 : decode cX9_ask 80 = .ok (.goto (-56), 3) := by decide +kernel
theorem dX9_ask_83 : decode cX9_ask 83 = .ok (.iload_n 1, 1) := by decide +kernel
theorem dX9_ask_84 : decode cX9_ask 84 = .ok (.ifCond .ne 7, 3) := by decide +kernel
theorem dX9_ask_87 : decode cX9_ask 87 = .ok (.iload_n 3, 1) := by decide +kernel
theorem dX9_ask_88 : decode cX9_ask 88 = .ok (.goto 4, 3) := by decide +kernel
theorem dX9_ask_91 : decode cX9_ask 91 = .ok (.iload_n 2, 1) := by decide +kernel
theorem dX9_ask_92 : decode cX9_ask 92 = .ok (.ireturn, 1) := by decide +kernel
theorem dX9_chainOf_0 : decode cX9_chainOf 0 = .ok (.iconst 0, 1) := by decide +kernel
theorem dX9_chainOf_1 : decode cX9_chainOf 1 = .ok (.istore 4, 2) := by decide +kernel
theorem dX9_chainOf_3 : decode cX9_chainOf 3 = .ok (.iload 4, 2) := by decide +kernel
theorem dX9_chainOf_5 : decode cX9_chainOf 5 = .ok (.bipush 16, 2) := by decide +kernel
theorem dX9_chainOf_7 : decode cX9_chainOf 7 = .ok (.if_icmp .ge 17, 3) := by decide +kernel
theorem dX9_chainOf_10 : decode cX9_chainOf 10 = .ok (.aload_n 0, 1) := by decide +kernel
theorem dX9_chainOf_11 : decode cX9_chainOf 11 = .ok (.getfield 108, 3) := by decide +kernel
theorem dX9_chainOf_14 : decode cX9_chainOf 14 = .ok (.iload 4, 2) := by decide +kernel
theorem dX9_chainOf_16 : decode cX9_chainOf 16 = .ok (.iconst 0, 1) := by decide +kernel
theorem dX9_chainOf_17 : decode cX9_chainOf 17 = .ok (.bastore, 1) := by decide +kernel
theorem dX9_chainOf_18 : decode cX9_chainOf 18 = .ok (.iinc 4 1, 3) := by decide +kernel
theorem dX9_chainOf_21 : decode cX9_chainOf 21 = .ok (.goto (-18), 3) := by decide +kernel
theorem dX9_chainOf_24 : decode cX9_chainOf 24 = .ok (.iconst 0, 1) := by decide +kernel
theorem dX9_chainOf_25 : decode cX9_chainOf 25 = .ok (.istore 4, 2) := by decide +kernel
theorem dX9_chainOf_27 : decode cX9_chainOf 27 = .ok (.iload_n 1, 1) := by decide +kernel
theorem dX9_chainOf_28 : decode cX9_chainOf 28 = .ok (.istore 5, 2) := by decide +kernel
theorem dX9_chainOf_30 : decode cX9_chainOf 30 = .ok (.iload_n 2, 1) := by decide +kernel
theorem dX9_chainOf_31 : decode cX9_chainOf 31 = .ok (.istore 6, 2) := by decide +kernel
theorem dX9_chainOf_33 : decode cX9_chainOf 33 = .ok (.iload 5, 2) := by decide +kernel
theorem dX9_chainOf_35 : decode cX9_chainOf 35 = .ok (.iconst (-1), 1) := by decide +kernel
theorem dX9_chainOf_36 : decode cX9_chainOf 36 = .ok (.if_icmp .eq 77, 3) := by decide +kernel
theorem dX9_chainOf_39 : decode cX9_chainOf 39 = .ok (.aload_n 0, 1) := by decide +kernel
theorem dX9_chainOf_40 : decode cX9_chainOf 40 = .ok (.getfield 108, 3) := by decide +kernel
theorem dX9_chainOf_43 : decode cX9_chainOf 43 = .ok (.iconst 2, 1) := by decide +kernel
theorem dX9_chainOf_44 : decode cX9_chainOf 44 = .ok (.iload 5, 2) := by decide +kernel
theorem dX9_chainOf_46 : decode cX9_chainOf 46 = .ok (.imul, 1) := by decide +kernel
theorem dX9_chainOf_47 : decode cX9_chainOf 47 = .ok (.iload 6, 2) := by decide +kernel
theorem dX9_chainOf_49 : decode cX9_chainOf 49 = .ok (.iadd, 1) := by decide +kernel
theorem dX9_chainOf_50 : decode cX9_chainOf 50 = .ok (.baload, 1) := by decide +kernel
theorem dX9_chainOf_51 : decode cX9_chainOf 51 = .ok (.ifCond .eq 7, 3) := by decide +kernel
theorem dX9_chainOf_54 : decode cX9_chainOf 54 = .ok (.iload 4, 2) := by decide +kernel
theorem dX9_chainOf_56 : decode cX9_chainOf 56 = .ok (.ineg, 1) := by decide +kernel
theorem dX9_chainOf_57 : decode cX9_chainOf 57 = .ok (.ireturn, 1) := by decide +kernel
theorem dX9_chainOf_58 : decode cX9_chainOf 58 = .ok (.aload_n 0, 1) := by decide +kernel
theorem dX9_chainOf_59 : decode cX9_chainOf 59 = .ok (.getfield 108, 3) := by decide +kernel
theorem dX9_chainOf_62 : decode cX9_chainOf 62 = .ok (.iconst 2, 1) := by decide +kernel
theorem dX9_chainOf_63 : decode cX9_chainOf 63 = .ok (.iload 5, 2) := by decide +kernel
theorem dX9_chainOf_65 : decode cX9_chainOf 65 = .ok (.imul, 1) := by decide +kernel
theorem dX9_chainOf_66 : decode cX9_chainOf 66 = .ok (.iload 6, 2) := by decide +kernel
theorem dX9_chainOf_68 : decode cX9_chainOf 68 = .ok (.iadd, 1) := by decide +kernel
theorem dX9_chainOf_69 : decode cX9_chainOf 69 = .ok (.iconst 1, 1) := by decide +kernel
theorem dX9_chainOf_70 : decode cX9_chainOf 70 = .ok (.bastore, 1) := by decide +kernel
theorem dX9_chainOf_71 : decode cX9_chainOf 71 = .ok (.iinc 4 1, 3) := by decide +kernel
theorem dX9_chainOf_74 : decode cX9_chainOf 74 = .ok (.iload_n 3, 1) := by decide +kernel
theorem dX9_chainOf_75 : decode cX9_chainOf 75 = .ok (.iload 5, 2) := by decide +kernel
theorem dX9_chainOf_77 : decode cX9_chainOf 77 = .ok (.invokestatic 442, 3) := by decide +kernel
theorem dX9_chainOf_80 : decode cX9_chainOf 80 = .ok (.ifCond .eq 7, 3) := by decide +kernel
theorem dX9_chainOf_83 : decode cX9_chainOf 83 = .ok (.iconst (-1), 1) := by decide +kernel
theorem dX9_chainOf_84 : decode cX9_chainOf 84 = .ok (.goto 18, 3) := by decide +kernel
theorem dX9_chainOf_87 : decode cX9_chainOf 87 = .ok (.aload_n 0, 1) := by decide +kernel
theorem dX9_chainOf_88 : decode cX9_chainOf 88 = .ok (.getfield 13, 3) := by decide +kernel
theorem dX9_chainOf_91 : decode cX9_chainOf 91 = .ok (.bipush 51, 2) := by decide +kernel
theorem dX9_chainOf_93 : decode cX9_chainOf 93 = .ok (.iconst 2, 1) := by decide +kernel
theorem dX9_chainOf_94 : decode cX9_chainOf 94 = .ok (.iload 5, 2) := by decide +kernel
theorem dX9_chainOf_96 : decode cX9_chainOf 96 = .ok (.imul, 1) := by decide +kernel
theorem dX9_chainOf_97 : decode cX9_chainOf 97 = .ok (.iadd, 1) := by decide +kernel
theorem dX9_chainOf_98 : decode cX9_chainOf 98 = .ok (.iload 6, 2) := by decide +kernel
theorem dX9_chainOf_100 : decode cX9_chainOf 100 = .ok (.iadd, 1) := by decide +kernel
theorem dX9_chainOf_101 : decode cX9_chainOf 101 = .ok (.iaload, 1) := by decide +kernel
theorem dX9_chainOf_102 : decode cX9_chainOf 102 = .ok (.istore 5, 2) := by decide +kernel
theorem dX9_chainOf_104 : decode cX9_chainOf 104 = .ok (.iconst 1, 1) := by decide +kernel
theorem dX9_chainOf_105 : decode cX9_chainOf 105 = .ok (.iload 6, 2) := by decide +kernel
theorem dX9_chainOf_107 : decode cX9_chainOf 107 = .ok (.isub, 1) := by decide +kernel
theorem dX9_chainOf_108 : decode cX9_chainOf 108 = .ok (.istore 6, 2) := by decide +kernel
theorem dX9_chainOf_110 : decode cX9_chainOf 110 = .ok (.goto (-77), 3) := by decide +kernel
theorem dX9_chainOf_113 : decode cX9_chainOf 113 = .ok (.iload 4, 2) := by decide +kernel
theorem dX9_chainOf_115 : decode cX9_chainOf 115 = .ok (.ireturn, 1) := by decide +kernel
theorem dX9_chain_0 : decode cX9_chain 0 = .ok (.aload_n 0, 1) := by decide +kernel
theorem dX9_chain_1 : decode cX9_chain 1 = .ok (.iconst 0, 1) := by decide +kernel
theorem dX9_chain_2 : decode cX9_chain 2 = .ok (.putfield 134, 3) := by decide +kernel
theorem dX9_chain_5 : decode cX9_chain 5 = .ok (.iload_n 1, 1) := by decide +kernel
theorem dX9_chain_6 : decode cX9_chain 6 = .ok (.invokestatic 171, 3) := by decide +kernel
theorem dX9_chain_9 : decode cX9_chain 9 = .ok (.ifCond .eq 20, 3) := by decide +kernel
theorem dX9_chain_12 : decode cX9_chain 12 = .ok (.iload_n 2, 1) := by decide +kernel
theorem dX9_chain_13 : decode cX9_chain 13 = .ok (.invokestatic 167, 3) := by decide +kernel
theorem dX9_chain_16 : decode cX9_chain 16 = .ok (.ifCond .eq 13, 3) := by decide +kernel
theorem dX9_chain_19 : decode cX9_chain 19 = .ok (.iload_n 3, 1) := by decide +kernel
theorem dX9_chain_20 : decode cX9_chain 20 = .ok (.i2l, 1) := by decide +kernel
theorem dX9_chain_21 : decode cX9_chain 21 = .ok (.lconst 0, 1) := by decide +kernel
theorem dX9_chain_22 : decode cX9_chain 22 = .ok (.lconst 1, 1) := by decide +kernel
theorem dX9_chain_23 : decode cX9_chain 23 = .ok (.invokestatic 154, 3) := by decide +kernel
theorem dX9_chain_26 : decode cX9_chain 26 = .ok (.ifCond .ne 5, 3) := by decide +kernel
theorem dX9_chain_29 : decode cX9_chain 29 = .ok (.iconst (-1), 1) := by decide +kernel
theorem dX9_chain_30 : decode cX9_chain 30 = .ok (.ireturn, 1) := by decide +kernel
theorem dX9_chain_31 : decode cX9_chain 31 = .ok (.aload_n 0, 1) := by decide +kernel
theorem dX9_chain_32 : decode cX9_chain 32 = .ok (.iload_n 1, 1) := by decide +kernel
theorem dX9_chain_33 : decode cX9_chain 33 = .ok (.iload_n 2, 1) := by decide +kernel
theorem dX9_chain_34 : decode cX9_chain 34 = .ok (.iconst 0, 1) := by decide +kernel
theorem dX9_chain_35 : decode cX9_chain 35 = .ok (.invokevirtual 460, 3) := by decide +kernel
theorem dX9_chain_38 : decode cX9_chain 38 = .ok (.istore 4, 2) := by decide +kernel
theorem dX9_chain_40 : decode cX9_chain 40 = .ok (.iload_n 3, 1) := by decide +kernel
theorem dX9_chain_41 : decode cX9_chain 41 = .ok (.ifCond .ne 11, 3) := by decide +kernel
theorem dX9_chain_44 : decode cX9_chain 44 = .ok (.iload 4, 2) := by decide +kernel
theorem dX9_chain_46 : decode cX9_chain 46 = .ok (.invokestatic 423, 3) := by decide +kernel
theorem dX9_chain_49 : decode cX9_chain 49 = .ok (.goto 13, 3) := by decide +kernel
theorem dX9_chain_52 : decode cX9_chain 52 = .ok (.iload 4, 2) := by decide +kernel
theorem dX9_chain_54 : decode cX9_chain 54 = .ok (.ifCond .ge 7, 3) := by decide +kernel
theorem dX9_chain_57 : decode cX9_chain 57 = .ok (.iconst 1, 1) := by decide +kernel
theorem dX9_chain_58 : decode cX9_chain 58 = .ok (.goto 4, 3) := by decide +kernel
theorem dX9_chain_61 : decode cX9_chain 61 = .ok (.iconst 0, 1) := by decide +kernel
theorem dX9_chain_62 : decode cX9_chain 62 = .ok (.ireturn, 1) := by decide +kernel
theorem dX9_isStill_0 : decode cX9_isStill 0 = .ok (.iconst 1, 1) := by decide +kernel
theorem dX9_isStill_1 : decode cX9_isStill 1 = .ok (.istore_n 2, 1) := by decide +kernel
theorem dX9_isStill_2 : decode cX9_isStill 2 = .ok (.iconst 0, 1) := by decide +kernel
theorem dX9_isStill_3 : decode cX9_isStill 3 = .ok (.istore_n 3, 1) := by decide +kernel
theorem dX9_isStill_4 : decode cX9_isStill 4 = .ok (.iload_n 3, 1) := by decide +kernel
theorem dX9_isStill_5 : decode cX9_isStill 5 = .ok (.bipush 8, 2) := by decide +kernel
theorem dX9_isStill_7 : decode cX9_isStill 7 = .ok (.if_icmp .ge 39, 3) := by decide +kernel
theorem dX9_isStill_10 : decode cX9_isStill 10 = .ok (.iload_n 2, 1) := by decide +kernel
theorem dX9_isStill_11 : decode cX9_isStill 11 = .ok (.ifCond .eq 27, 3) := by decide +kernel
theorem dX9_isStill_14 : decode cX9_isStill 14 = .ok (.aload_n 0, 1) := by decide +kernel
theorem dX9_isStill_15 : decode cX9_isStill 15 = .ok (.iload_n 3, 1) := by decide +kernel
theorem dX9_isStill_16 : decode cX9_isStill 16 = .ok (.iconst 0, 1) := by decide +kernel
theorem dX9_isStill_17 : decode cX9_isStill 17 = .ok (.iload_n 1, 1) := by decide +kernel
theorem dX9_isStill_18 : decode cX9_isStill 18 = .ok (.invokevirtual 460, 3) := by decide +kernel
theorem dX9_isStill_21 : decode cX9_isStill 21 = .ok (.ifCond .le 17, 3) := by decide +kernel
theorem dX9_isStill_24 : decode cX9_isStill 24 = .ok (.aload_n 0, 1) := by decide +kernel
theorem dX9_isStill_25 : decode cX9_isStill 25 = .ok (.iload_n 3, 1) := by decide +kernel
theorem dX9_isStill_26 : decode cX9_isStill 26 = .ok (.iconst 1, 1) := by decide +kernel
theorem dX9_isStill_27 : decode cX9_isStill 27 = .ok (.iload_n 1, 1) := by decide +kernel
theorem dX9_isStill_28 : decode cX9_isStill 28 = .ok (.invokevirtual 460, 3) := by decide +kernel
theorem dX9_isStill_31 : decode cX9_isStill 31 = .ok (.ifCond .le 7, 3) := by decide +kernel
theorem dX9_isStill_34 : decode cX9_isStill 34 = .ok (.iconst 1, 1) := by decide +kernel
theorem dX9_isStill_35 : decode cX9_isStill 35 = .ok (.goto 4, 3) := by decide +kernel
theorem dX9_isStill_38 : decode cX9_isStill 38 = .ok (.iconst 0, 1) := by decide +kernel
theorem dX9_isStill_39 : decode cX9_isStill 39 = .ok (.istore_n 2, 1) := by decide +kernel
theorem dX9_isStill_40 : decode cX9_isStill 40 = .ok (.iinc 3 1, 3) := by decide +kernel
theorem dX9_isStill_43 : decode cX9_isStill 43 = .ok (.goto (-39), 3) := by decide +kernel
theorem dX9_isStill_46 : decode cX9_isStill 46 = .ok (.iload_n 2, 1) := by decide +kernel
theorem dX9_isStill_47 : decode cX9_isStill 47 = .ok (.ireturn, 1) := by decide +kernel
theorem dX9_stilled_0 : decode cX9_stilled 0 = .ok (.aload_n 0, 1) := by decide +kernel
theorem dX9_stilled_1 : decode cX9_stilled 1 = .ok (.iconst 0, 1) := by decide +kernel
theorem dX9_stilled_2 : decode cX9_stilled 2 = .ok (.putfield 134, 3) := by decide +kernel
theorem dX9_stilled_5 : decode cX9_stilled 5 = .ok (.iload_n 1, 1) := by decide +kernel
theorem dX9_stilled_6 : decode cX9_stilled 6 = .ok (.i2l, 1) := by decide +kernel
theorem dX9_stilled_7 : decode cX9_stilled 7 = .ok (.lconst 0, 1) := by decide +kernel
theorem dX9_stilled_8 : decode cX9_stilled 8 = .ok (.lconst 1, 1) := by decide +kernel
theorem dX9_stilled_9 : decode cX9_stilled 9 = .ok (.invokestatic 154, 3) := by decide +kernel
theorem dX9_stilled_12 : decode cX9_stilled 12 = .ok (.ifCond .ne 5, 3) := by decide +kernel
theorem dX9_stilled_15 : decode cX9_stilled 15 = .ok (.iconst (-1), 1) := by decide +kernel
theorem dX9_stilled_16 : decode cX9_stilled 16 = .ok (.ireturn, 1) := by decide +kernel
theorem dX9_stilled_17 : decode cX9_stilled 17 = .ok (.ldc_w 445, 3) := by decide +kernel
theorem dX9_stilled_20 : decode cX9_stilled 20 = .ok (.istore_n 2, 1) := by decide +kernel
theorem dX9_stilled_21 : decode cX9_stilled 21 = .ok (.iconst (-1), 1) := by decide +kernel
theorem dX9_stilled_22 : decode cX9_stilled 22 = .ok (.istore_n 3, 1) := by decide +kernel
theorem dX9_stilled_23 : decode cX9_stilled 23 = .ok (.iconst 0, 1) := by decide +kernel
theorem dX9_stilled_24 : decode cX9_stilled 24 = .ok (.istore 4, 2) := by decide +kernel
theorem dX9_stilled_26 : decode cX9_stilled 26 = .ok (.iload 4, 2) := by decide +kernel
theorem dX9_stilled_28 : decode cX9_stilled 28 = .ok (.sipush 256, 3) := by decide +kernel
theorem dX9_stilled_31 : decode cX9_stilled 31 = .ok (.if_icmp .ge 61, 3) := by decide +kernel
theorem dX9_stilled_34 : decode cX9_stilled 34 = .ok (.iload 4, 2) := by decide +kernel
theorem dX9_stilled_36 : decode cX9_stilled 36 = .ok (.invokestatic 446, 3) := by decide +kernel
theorem dX9_stilled_39 : decode cX9_stilled 39 = .ok (.iload_n 2, 1) := by decide +kernel
theorem dX9_stilled_40 : decode cX9_stilled 40 = .ok (.if_icmp .ge 16, 3) := by decide +kernel
theorem dX9_stilled_43 : decode cX9_stilled 43 = .ok (.aload_n 0, 1) := by decide +kernel
theorem dX9_stilled_44 : decode cX9_stilled 44 = .ok (.iload 4, 2) := by decide +kernel
theorem dX9_stilled_46 : decode cX9_stilled 46 = .ok (.invokevirtual 463, 3) := by decide +kernel
theorem dX9_stilled_49 : decode cX9_stilled 49 = .ok (.ifCond .eq 7, 3) := by decide +kernel
theorem dX9_stilled_52 : decode cX9_stilled 52 = .ok (.iconst 1, 1) := by decide +kernel
theorem dX9_stilled_53 : decode cX9_stilled 53 = .ok (.goto 4, 3) := by decide +kernel
theorem dX9_stilled_56 : decode cX9_stilled 56 = .ok (.iconst 0, 1) := by decide +kernel
theorem dX9_stilled_57 : decode cX9_stilled 57 = .ok (.istore 5, 2) := by decide +kernel
theorem dX9_stilled_59 : decode cX9_stilled 59 = .ok (.iload 5, 2) := by decide +kernel
theorem dX9_stilled_61 : decode cX9_stilled 61 = .ok (.ifCond .eq 8, 3) := by decide +kernel
theorem dX9_stilled_64 : decode cX9_stilled 64 = .ok (.iload 4, 2) := by decide +kernel
theorem dX9_stilled_66 : decode cX9_stilled 66 = .ok (.goto 4, 3) := by decide +kernel
theorem dX9_stilled_69 : decode cX9_stilled 69 = .ok (.iload_n 3, 1) := by decide +kernel
theorem dX9_stilled_70 : decode cX9_stilled 70 = .ok (.istore_n 3, 1) := by decide +kernel
theorem dX9_stilled_71 : decode cX9_stilled 71 = .ok (.iload 5, 2) := by decide +kernel
theorem dX9_stilled_73 : decode cX9_stilled 73 = .ok (.ifCond .eq 11, 3) := by decide +kernel
theorem dX9_stilled_76 : decode cX9_stilled 76 = .ok (.iload 4, 2) := by decide +kernel
theorem dX9_stilled_78 : decode cX9_stilled 78 = .ok (.invokestatic 446, 3) := by decide +kernel
theorem dX9_stilled_81 : decode cX9_stilled 81 = .ok (.goto 4, 3) := by decide +kernel
theorem dX9_stilled_84 : decode cX9_stilled 84 = .ok (.iload_n 2, 1) := by decide +kernel
theorem dX9_stilled_85 : decode cX9_stilled 85 = .ok (.istore_n 2, 1) := by decide +kernel
theorem dX9_stilled_86 : decode cX9_stilled 86 = .ok (.iinc 4 1, 3) := by decide +kernel
theorem dX9_stilled_89 : decode cX9_stilled 89 = .ok (.goto (-63), 3) := by decide +kernel
theorem dX9_stilled_92 : decode cX9_stilled 92 = .ok (.iload_n 1, 1) := by decide +kernel
theorem dX9_stilled_93 : decode cX9_stilled 93 = .ok (.ifCond .ne 7, 3) := by decide +kernel
theorem dX9_stilled_96 : decode cX9_stilled 96 = .ok (.iload_n 2, 1) := by decide +kernel
theorem dX9_stilled_97 : decode cX9_stilled 97 = .ok (.goto 4, 3) := by decide +kernel
theorem dX9_stilled_100 : decode cX9_stilled 100 = .ok (.iload_n 3, 1) := by decide +kernel
theorem dX9_stilled_101 : decode cX9_stilled 101 = .ok (.ireturn, 1) := by decide +kernel
theorem dX9_pricesOf_0 : decode cX9_pricesOf 0 = .ok (.iconst 0, 1) := by decide +kernel
theorem dX9_pricesOf_1 : decode cX9_pricesOf 1 = .ok (.istore_n 2, 1) := by decide +kernel
theorem dX9_pricesOf_2 : decode cX9_pricesOf 2 = .ok (.iconst 0, 1) := by decide +kernel
theorem dX9_pricesOf_3 : decode cX9_pricesOf 3 = .ok (.istore_n 3, 1) := by decide +kernel
theorem dX9_pricesOf_4 : decode cX9_pricesOf 4 = .ok (.iload_n 3, 1) := by decide +kernel
theorem dX9_pricesOf_5 : decode cX9_pricesOf 5 = .ok (.bipush 8, 2) := by decide +kernel
theorem dX9_pricesOf_7 : decode cX9_pricesOf 7 = .ok (.if_icmp .ge 30, 3) := by decide +kernel
theorem dX9_pricesOf_10 : decode cX9_pricesOf 10 = .ok (.iload_n 2, 1) := by decide +kernel
theorem dX9_pricesOf_11 : decode cX9_pricesOf 11 = .ok (.iload_n 1, 1) := by decide +kernel
theorem dX9_pricesOf_12 : decode cX9_pricesOf 12 = .ok (.iload_n 3, 1) := by decide +kernel
theorem dX9_pricesOf_13 : decode cX9_pricesOf 13 = .ok (.invokestatic 442, 3) := by decide +kernel
theorem dX9_pricesOf_16 : decode cX9_pricesOf 16 = .ok (.ifCond .eq 12, 3) := by decide +kernel
theorem dX9_pricesOf_19 : decode cX9_pricesOf 19 = .ok (.aload_n 0, 1) := by decide +kernel
theorem dX9_pricesOf_20 : decode cX9_pricesOf 20 = .ok (.getfield 111, 3) := by decide +kernel
theorem dX9_pricesOf_23 : decode cX9_pricesOf 23 = .ok (.iload_n 3, 1) := by decide +kernel
theorem dX9_pricesOf_24 : decode cX9_pricesOf 24 = .ok (.iaload, 1) := by decide +kernel
theorem dX9_pricesOf_25 : decode cX9_pricesOf 25 = .ok (.goto 4, 3) := by decide +kernel
theorem dX9_pricesOf_28 : decode cX9_pricesOf 28 = .ok (.iconst 0, 1) := by decide +kernel
theorem dX9_pricesOf_29 : decode cX9_pricesOf 29 = .ok (.iadd, 1) := by decide +kernel
theorem dX9_pricesOf_30 : decode cX9_pricesOf 30 = .ok (.istore_n 2, 1) := by decide +kernel
theorem dX9_pricesOf_31 : decode cX9_pricesOf 31 = .ok (.iinc 3 1, 3) := by decide +kernel
theorem dX9_pricesOf_34 : decode cX9_pricesOf 34 = .ok (.goto (-30), 3) := by decide +kernel
theorem dX9_pricesOf_37 : decode cX9_pricesOf 37 = .ok (.iload_n 2, 1) := by decide +kernel
theorem dX9_pricesOf_38 : decode cX9_pricesOf 38 = .ok (.ireturn, 1) := by decide +kernel
theorem dX9_pushed_0 : decode cX9_pushed 0 = .ok (.aload_n 0, 1) := by decide +kernel
theorem dX9_pushed_1 : decode cX9_pushed 1 = .ok (.iconst 0, 1) := by decide +kernel
theorem dX9_pushed_2 : decode cX9_pushed 2 = .ok (.putfield 134, 3) := by decide +kernel
theorem dX9_pushed_5 : decode cX9_pushed 5 = .ok (.iload_n 1, 1) := by decide +kernel
theorem dX9_pushed_6 : decode cX9_pushed 6 = .ok (.invokestatic 167, 3) := by decide +kernel
theorem dX9_pushed_9 : decode cX9_pushed 9 = .ok (.ifCond .eq 15, 3) := by decide +kernel
theorem dX9_pushed_12 : decode cX9_pushed 12 = .ok (.iload_n 2, 1) := by decide +kernel
theorem dX9_pushed_13 : decode cX9_pushed 13 = .ok (.i2l, 1) := by decide +kernel
theorem dX9_pushed_14 : decode cX9_pushed 14 = .ok (.lconst 0, 1) := by decide +kernel
theorem dX9_pushed_15 : decode cX9_pushed 15 = .ok (.ldc2_w 466, 3) := by decide +kernel
theorem dX9_pushed_18 : decode cX9_pushed 18 = .ok (.invokestatic 154, 3) := by decide +kernel
theorem dX9_pushed_21 : decode cX9_pushed 21 = .ok (.ifCond .ne 5, 3) := by decide +kernel
theorem dX9_pushed_24 : decode cX9_pushed 24 = .ok (.iconst (-1), 1) := by decide +kernel
theorem dX9_pushed_25 : decode cX9_pushed 25 = .ok (.ireturn, 1) := by decide +kernel
theorem dX9_pushed_26 : decode cX9_pushed 26 = .ok (.iconst 0, 1) := by decide +kernel
theorem dX9_pushed_27 : decode cX9_pushed 27 = .ok (.istore_n 3, 1) := by decide +kernel
theorem dX9_pushed_28 : decode cX9_pushed 28 = .ok (.iconst 0, 1) := by decide +kernel
theorem dX9_pushed_29 : decode cX9_pushed 29 = .ok (.istore 4, 2) := by decide +kernel
theorem dX9_pushed_31 : decode cX9_pushed 31 = .ok (.iload 4, 2) := by decide +kernel
theorem dX9_pushed_33 : decode cX9_pushed 33 = .ok (.bipush 8, 2) := by decide +kernel
theorem dX9_pushed_35 : decode cX9_pushed 35 = .ok (.if_icmp .ge 73, 3) := by decide +kernel
theorem dX9_pushed_38 : decode cX9_pushed 38 = .ok (.aload_n 0, 1) := by decide +kernel
theorem dX9_pushed_39 : decode cX9_pushed 39 = .ok (.getfield 111, 3) := by decide +kernel
theorem dX9_pushed_42 : decode cX9_pushed 42 = .ok (.iload 4, 2) := by decide +kernel
theorem dX9_pushed_44 : decode cX9_pushed 44 = .ok (.aload_n 0, 1) := by decide +kernel
theorem dX9_pushed_45 : decode cX9_pushed 45 = .ok (.iload_n 1, 1) := by decide +kernel
theorem dX9_pushed_46 : decode cX9_pushed 46 = .ok (.iload 4, 2) := by decide +kernel
theorem dX9_pushed_48 : decode cX9_pushed 48 = .ok (.invokevirtual 179, 3) := by decide +kernel
theorem dX9_pushed_51 : decode cX9_pushed 51 = .ok (.iastore, 1) := by decide +kernel
theorem dX9_pushed_52 : decode cX9_pushed 52 = .ok (.iload_n 3, 1) := by decide +kernel
theorem dX9_pushed_53 : decode cX9_pushed 53 = .ok (.aload_n 0, 1) := by decide +kernel
theorem dX9_pushed_54 : decode cX9_pushed 54 = .ok (.iload_n 1, 1) := by decide +kernel
theorem dX9_pushed_55 : decode cX9_pushed 55 = .ok (.iload 4, 2) := by decide +kernel
theorem dX9_pushed_57 : decode cX9_pushed 57 = .ok (.invokevirtual 182, 3) := by decide +kernel
theorem dX9_pushed_60 : decode cX9_pushed 60 = .ok (.ifCond .ne 39, 3) := by decide +kernel
theorem dX9_pushed_63 : decode cX9_pushed 63 = .ok (.aload_n 0, 1) := by decide +kernel
theorem dX9_pushed_64 : decode cX9_pushed 64 = .ok (.iload_n 1, 1) := by decide +kernel
theorem dX9_pushed_65 : decode cX9_pushed 65 = .ok (.iload 4, 2) := by decide +kernel
theorem dX9_pushed_67 : decode cX9_pushed 67 = .ok (.invokevirtual 163, 3) := by decide +kernel
theorem dX9_pushed_70 : decode cX9_pushed 70 = .ok (.aload_n 0, 1) := by decide +kernel
theorem dX9_pushed_71 : decode cX9_pushed 71 = .ok (.iconst 1, 1) := by decide +kernel
theorem dX9_pushed_72 : decode cX9_pushed 72 = .ok (.iload_n 1, 1) := by decide +kernel
theorem dX9_pushed_73 : decode cX9_pushed 73 = .ok (.isub, 1) := by decide +kernel
theorem dX9_pushed_74 : decode cX9_pushed 74 = .ok (.iload 4, 2) := by decide +kernel
theorem dX9_pushed_76 : decode cX9_pushed 76 = .ok (.invokevirtual 163, 3) := by decide +kernel
theorem dX9_pushed_79 : decode cX9_pushed 79 = .ok (.if_icmp .le 20, 3) := by decide +kernel
theorem dX9_pushed_82 : decode cX9_pushed 82 = .ok (.aload_n 0, 1) := by decide +kernel
theorem dX9_pushed_83 : decode cX9_pushed 83 = .ok (.iload_n 1, 1) := by decide +kernel
theorem dX9_pushed_84 : decode cX9_pushed 84 = .ok (.iload 4, 2) := by decide +kernel
theorem dX9_pushed_86 : decode cX9_pushed 86 = .ok (.invokevirtual 406, 3) := by decide +kernel
theorem dX9_pushed_89 : decode cX9_pushed 89 = .ok (.ifCond .eq 10, 3) := by decide +kernel
theorem dX9_pushed_92 : decode cX9_pushed 92 = .ok (.iconst 1, 1) := by decide +kernel
theorem dX9_pushed_93 : decode cX9_pushed 93 = .ok (.iload 4, 2) := by decide +kernel
theorem dX9_pushed_95 : decode cX9_pushed 95 = .ok (.ishl, 1) := by decide +kernel
theorem dX9_pushed_96 : decode cX9_pushed 96 = .ok (.goto 4, 3) := by decide +kernel
theorem dX9_pushed_99 : decode cX9_pushed 99 = .ok (.iconst 0, 1) := by decide +kernel
theorem dX9_pushed_100 : decode cX9_pushed 100 = .ok (.ior, 1) := by decide +kernel
theorem dX9_pushed_101 : decode cX9_pushed 101 = .ok (.istore_n 3, 1) := by decide +kernel
theorem dX9_pushed_102 : decode cX9_pushed 102 = .ok (.iinc 4 1, 3) := by decide +kernel
theorem dX9_pushed_105 : decode cX9_pushed 105 = .ok (.goto (-74), 3) := by decide +kernel
theorem dX9_pushed_108 : decode cX9_pushed 108 = .ok (.iconst 0, 1) := by decide +kernel
theorem dX9_pushed_109 : decode cX9_pushed 109 = .ok (.istore 4, 2) := by decide +kernel
theorem dX9_pushed_111 : decode cX9_pushed 111 = .ok (.iconst 1, 1) := by decide +kernel
theorem dX9_pushed_112 : decode cX9_pushed 112 = .ok (.istore 5, 2) := by decide +kernel
theorem dX9_pushed_114 : decode cX9_pushed 114 = .ok (.iload 5, 2) := by decide +kernel
theorem dX9_pushed_116 : decode cX9_pushed 116 = .ok (.sipush 256, 3) := by decide +kernel
theorem dX9_pushed_119 : decode cX9_pushed 119 = .ok (.if_icmp .ge 95, 3) := by decide +kernel
theorem dX9_pushed_122 : decode cX9_pushed 122 = .ok (.iload 5, 2) := by decide +kernel
theorem dX9_pushed_124 : decode cX9_pushed 124 = .ok (.iload_n 3, 1) := by decide +kernel
theorem dX9_pushed_125 : decode cX9_pushed 125 = .ok (.iconst (-1), 1) := by decide +kernel
theorem dX9_pushed_126 : decode cX9_pushed 126 = .ok (.ixor, 1) := by decide +kernel
theorem dX9_pushed_127 : decode cX9_pushed 127 = .ok (.iand, 1) := by decide +kernel
theorem dX9_pushed_128 : decode cX9_pushed 128 = .ok (.ifCond .ne 25, 3) := by decide +kernel
theorem dX9_pushed_131 : decode cX9_pushed 131 = .ok (.aload_n 0, 1) := by decide +kernel
theorem dX9_pushed_132 : decode cX9_pushed 132 = .ok (.iload 5, 2) := by decide +kernel
theorem dX9_pushed_134 : decode cX9_pushed 134 = .ok (.invokevirtual 468, 3) := by decide +kernel
theorem dX9_pushed_137 : decode cX9_pushed 137 = .ok (.aload_n 0, 1) := by decide +kernel
theorem dX9_pushed_138 : decode cX9_pushed 138 = .ok (.getfield 13, 3) := by decide +kernel
theorem dX9_pushed_141 : decode cX9_pushed 141 = .ok (.bipush 31, 2) := by decide +kernel
theorem dX9_pushed_143 : decode cX9_pushed 143 = .ok (.iload_n 1, 1) := by decide +kernel
theorem dX9_pushed_144 : decode cX9_pushed 144 = .ok (.iadd, 1) := by decide +kernel
theorem dX9_pushed_145 : decode cX9_pushed 145 = .ok (.iaload, 1) := by decide +kernel
theorem dX9_pushed_146 : decode cX9_pushed 146 = .ok (.if_icmp .gt 7, 3) := by decide +kernel
theorem dX9_pushed_149 : decode cX9_pushed 149 = .ok (.iconst 1, 1) := by decide +kernel
theorem dX9_pushed_150 : decode cX9_pushed 150 = .ok (.goto 4, 3) := by decide +kernel
theorem dX9_pushed_153 : decode cX9_pushed 153 = .ok (.iconst 0, 1) := by decide +kernel
theorem dX9_pushed_154 : decode cX9_pushed 154 = .ok (.istore 6, 2) := by decide +kernel
theorem dX9_pushed_156 : decode cX9_pushed 156 = .ok (.iload 5, 2) := by decide +kernel
theorem dX9_pushed_158 : decode cX9_pushed 158 = .ok (.invokestatic 446, 3) := by decide +kernel
theorem dX9_pushed_161 : decode cX9_pushed 161 = .ok (.iload 4, 2) := by decide +kernel
theorem dX9_pushed_163 : decode cX9_pushed 163 = .ok (.invokestatic 446, 3) := by decide +kernel
theorem dX9_pushed_166 : decode cX9_pushed 166 = .ok (.isub, 1) := by decide +kernel
theorem dX9_pushed_167 : decode cX9_pushed 167 = .ok (.istore 7, 2) := by decide +kernel
theorem dX9_pushed_169 : decode cX9_pushed 169 = .ok (.iload 6, 2) := by decide +kernel
theorem dX9_pushed_171 : decode cX9_pushed 171 = .ok (.ifCond .eq 33, 3) := by decide +kernel
theorem dX9_pushed_174 : decode cX9_pushed 174 = .ok (.iload 7, 2) := by decide +kernel
theorem dX9_pushed_176 : decode cX9_pushed 176 = .ok (.ifCond .gt 23, 3) := by decide +kernel
theorem dX9_pushed_179 : decode cX9_pushed 179 = .ok (.iload 7, 2) := by decide +kernel
theorem dX9_pushed_181 : decode cX9_pushed 181 = .ok (.ifCond .ne 23, 3) := by decide +kernel
theorem dX9_pushed_184 : decode cX9_pushed 184 = .ok (.aload_n 0, 1) := by decide +kernel
theorem dX9_pushed_185 : decode cX9_pushed 185 = .ok (.iload 5, 2) := by decide +kernel
theorem dX9_pushed_187 : decode cX9_pushed 187 = .ok (.invokevirtual 468, 3) := by decide +kernel
theorem dX9_pushed_190 : decode cX9_pushed 190 = .ok (.aload_n 0, 1) := by decide +kernel
theorem dX9_pushed_191 : decode cX9_pushed 191 = .ok (.iload 4, 2) := by decide +kernel
theorem dX9_pushed_193 : decode cX9_pushed 193 = .ok (.invokevirtual 468, 3) := by decide +kernel
theorem dX9_pushed_196 : decode cX9_pushed 196 = .ok (.if_icmp .ge 8, 3) := by decide +kernel
theorem dX9_pushed_199 : decode cX9_pushed 199 = .ok (.iload 5, 2) := by decide +kernel
theorem dX9_pushed_201 : decode cX9_pushed 201 = .ok (.goto 5, 3) := by decide +kernel
theorem dX9_pushed_204 : decode cX9_pushed 204 = .ok (.iload 4, 2) := by decide +kernel
theorem dX9_pushed_206 : decode cX9_pushed 206 = .ok (.istore 4, 2) := by decide +kernel
theorem dX9_pushed_208 : decode cX9_pushed 208 = .ok (.iinc 5 1, 3) := by decide +kernel
theorem dX9_pushed_211 : decode cX9_pushed 211 = .ok (.goto (-97), 3) := by decide +kernel
theorem dX9_pushed_214 : decode cX9_pushed 214 = .ok (.iload_n 2, 1) := by decide +kernel
theorem dX9_pushed_215 : decode cX9_pushed 215 = .ok (.ifCond .ne 11, 3) := by decide +kernel
theorem dX9_pushed_218 : decode cX9_pushed 218 = .ok (.iload 4, 2) := by decide +kernel
theorem dX9_pushed_220 : decode cX9_pushed 220 = .ok (.invokestatic 446, 3) := by decide +kernel
theorem dX9_pushed_223 : decode cX9_pushed 223 = .ok (.goto 19, 3) := by decide +kernel
theorem dX9_pushed_226 : decode cX9_pushed 226 = .ok (.iload_n 2, 1) := by decide +kernel
theorem dX9_pushed_227 : decode cX9_pushed 227 = .ok (.iconst 1, 1) := by decide +kernel
theorem dX9_pushed_228 : decode cX9_pushed 228 = .ok (.if_icmp .ne 12, 3) := by decide +kernel
theorem dX9_pushed_231 : decode cX9_pushed 231 = .ok (.aload_n 0, 1) := by decide +kernel
theorem dX9_pushed_232 : decode cX9_pushed 232 = .ok (.iload 4, 2) := by decide +kernel
theorem dX9_pushed_234 : decode cX9_pushed 234 = .ok (.invokevirtual 468, 3) := by decide +kernel
theorem dX9_pushed_237 : decode cX9_pushed 237 = .ok (.goto 5, 3) := by decide +kernel
theorem dX9_pushed_240 : decode cX9_pushed 240 = .ok (.iload 4, 2) := by decide +kernel
theorem dX9_pushed_242 : decode cX9_pushed 242 = .ok (.ireturn, 1) := by decide +kernel
theorem dX9_level_0 : decode cX9_level 0 = .ok (.aload_n 0, 1) := by decide +kernel
theorem dX9_level_1 : decode cX9_level 1 = .ok (.iconst 0, 1) := by decide +kernel
theorem dX9_level_2 : decode cX9_level 2 = .ok (.putfield 134, 3) := by decide +kernel
theorem dX9_level_5 : decode cX9_level 5 = .ok (.iload_n 1, 1) := by decide +kernel
theorem dX9_level_6 : decode cX9_level 6 = .ok (.invokestatic 167, 3) := by decide +kernel
theorem dX9_level_9 : decode cX9_level 9 = .ok (.ifCond .ne 5, 3) := by decide +kernel
theorem dX9_level_12 : decode cX9_level 12 = .ok (.iconst (-1), 1) := by decide +kernel
theorem dX9_level_13 : decode cX9_level 13 = .ok (.ireturn, 1) := by decide +kernel
theorem dX9_level_14 : decode cX9_level 14 = .ok (.aload_n 0, 1) := by decide +kernel
theorem dX9_level_15 : decode cX9_level 15 = .ok (.iload_n 1, 1) := by decide +kernel
theorem dX9_level_16 : decode cX9_level 16 = .ok (.invokevirtual 189, 3) := by decide +kernel
theorem dX9_level_19 : decode cX9_level 19 = .ok (.istore_n 2, 1) := by decide +kernel
theorem dX9_level_20 : decode cX9_level 20 = .ok (.iconst 0, 1) := by decide +kernel
theorem dX9_level_21 : decode cX9_level 21 = .ok (.istore_n 3, 1) := by decide +kernel
theorem dX9_level_22 : decode cX9_level 22 = .ok (.iconst 0, 1) := by decide +kernel
theorem dX9_level_23 : decode cX9_level 23 = .ok (.istore 4, 2) := by decide +kernel
theorem dX9_level_25 : decode cX9_level 25 = .ok (.iconst 0, 1) := by decide +kernel
theorem dX9_level_26 : decode cX9_level 26 = .ok (.istore 5, 2) := by decide +kernel
theorem dX9_level_28 : decode cX9_level 28 = .ok (.iload 5, 2) := by decide +kernel
theorem dX9_level_30 : decode cX9_level 30 = .ok (.bipush 8, 2) := by decide +kernel
theorem dX9_level_32 : decode cX9_level 32 = .ok (.if_icmp .ge 48, 3) := by decide +kernel
theorem dX9_level_35 : decode cX9_level 35 = .ok (.iload_n 3, 1) := by decide +kernel
theorem dX9_level_36 : decode cX9_level 36 = .ok (.aload_n 0, 1) := by decide +kernel
theorem dX9_level_37 : decode cX9_level 37 = .ok (.iload_n 1, 1) := by decide +kernel
theorem dX9_level_38 : decode cX9_level 38 = .ok (.iload 5, 2) := by decide +kernel
theorem dX9_level_40 : decode cX9_level 40 = .ok (.invokevirtual 163, 3) := by decide +kernel
theorem dX9_level_43 : decode cX9_level 43 = .ok (.iload_n 2, 1) := by decide +kernel
theorem dX9_level_44 : decode cX9_level 44 = .ok (.bipush 8, 2) := by decide +kernel
theorem dX9_level_46 : decode cX9_level 46 = .ok (.idiv, 1) := by decide +kernel
theorem dX9_level_47 : decode cX9_level 47 = .ok (.isub, 1) := by decide +kernel
theorem dX9_level_48 : decode cX9_level 48 = .ok (.iload 5, 2) := by decide +kernel
theorem dX9_level_50 : decode cX9_level 50 = .ok (.iload_n 2, 1) := by decide +kernel
theorem dX9_level_51 : decode cX9_level 51 = .ok (.bipush 8, 2) := by decide +kernel
theorem dX9_level_53 : decode cX9_level 53 = .ok (.irem, 1) := by decide +kernel
theorem dX9_level_54 : decode cX9_level 54 = .ok (.if_icmp .ge 7, 3) := by decide +kernel
theorem dX9_level_57 : decode cX9_level 57 = .ok (.iconst 1, 1) := by decide +kernel
theorem dX9_level_58 : decode cX9_level 58 = .ok (.goto 4, 3) := by decide +kernel
theorem dX9_level_61 : decode cX9_level 61 = .ok (.iconst 0, 1) := by decide +kernel
theorem dX9_level_62 : decode cX9_level 62 = .ok (.isub, 1) := by decide +kernel
theorem dX9_level_63 : decode cX9_level 63 = .ok (.iadd, 1) := by decide +kernel
theorem dX9_level_64 : decode cX9_level 64 = .ok (.istore_n 3, 1) := by decide +kernel
theorem dX9_level_65 : decode cX9_level 65 = .ok (.iload 4, 2) := by decide +kernel
theorem dX9_level_67 : decode cX9_level 67 = .ok (.iload_n 3, 1) := by decide +kernel
theorem dX9_level_68 : decode cX9_level 68 = .ok (.invokestatic 423, 3) := by decide +kernel
theorem dX9_level_71 : decode cX9_level 71 = .ok (.iadd, 1) := by decide +kernel
theorem dX9_level_72 : decode cX9_level 72 = .ok (.istore 4, 2) := by decide +kernel
theorem dX9_level_74 : decode cX9_level 74 = .ok (.iinc 5 1, 3) := by decide +kernel
theorem dX9_level_77 : decode cX9_level 77 = .ok (.goto (-49), 3) := by decide +kernel
theorem dX9_level_80 : decode cX9_level 80 = .ok (.iload 4, 2) := by decide +kernel
theorem dX9_level_82 : decode cX9_level 82 = .ok (.ireturn, 1) := by decide +kernel
theorem dX9_isSeen_0 : decode cX9_isSeen 0 = .ok (.iconst 0, 1) := by decide +kernel
theorem dX9_isSeen_1 : decode cX9_isSeen 1 = .ok (.istore 4, 2) := by decide +kernel
theorem dX9_isSeen_3 : decode cX9_isSeen 3 = .ok (.iconst 0, 1) := by decide +kernel
theorem dX9_isSeen_4 : decode cX9_isSeen 4 = .ok (.istore 5, 2) := by decide +kernel
theorem dX9_isSeen_6 : decode cX9_isSeen 6 = .ok (.iload 5, 2) := by decide +kernel
theorem dX9_isSeen_8 : decode cX9_isSeen 8 = .ok (.bipush 8, 2) := by decide +kernel
theorem dX9_isSeen_10 : decode cX9_isSeen 10 = .ok (.if_icmp .ge 41, 3) := by decide +kernel
theorem dX9_isSeen_13 : decode cX9_isSeen 13 = .ok (.iload 4, 2) := by decide +kernel
theorem dX9_isSeen_15 : decode cX9_isSeen 15 = .ok (.ifCond .ne 23, 3) := by decide +kernel
theorem dX9_isSeen_18 : decode cX9_isSeen 18 = .ok (.iload_n 1, 1) := by decide +kernel
theorem dX9_isSeen_19 : decode cX9_isSeen 19 = .ok (.iload 5, 2) := by decide +kernel
theorem dX9_isSeen_21 : decode cX9_isSeen 21 = .ok (.invokestatic 442, 3) := by decide +kernel
theorem dX9_isSeen_24 : decode cX9_isSeen 24 = .ok (.ifCond .eq 18, 3) := by decide +kernel
theorem dX9_isSeen_27 : decode cX9_isSeen 27 = .ok (.iload 5, 2) := by decide +kernel
theorem dX9_isSeen_29 : decode cX9_isSeen 29 = .ok (.iload_n 2, 1) := by decide +kernel
theorem dX9_isSeen_30 : decode cX9_isSeen 30 = .ok (.isub, 1) := by decide +kernel
theorem dX9_isSeen_31 : decode cX9_isSeen 31 = .ok (.invokestatic 423, 3) := by decide +kernel
theorem dX9_isSeen_34 : decode cX9_isSeen 34 = .ok (.iload_n 3, 1) := by decide +kernel
theorem dX9_isSeen_35 : decode cX9_isSeen 35 = .ok (.if_icmp .gt 7, 3) := by decide +kernel
theorem dX9_isSeen_38 : decode cX9_isSeen 38 = .ok (.iconst 1, 1) := by decide +kernel
theorem dX9_isSeen_39 : decode cX9_isSeen 39 = .ok (.goto 4, 3) := by decide +kernel
theorem dX9_isSeen_42 : decode cX9_isSeen 42 = .ok (.iconst 0, 1) := by decide +kernel
theorem dX9_isSeen_43 : decode cX9_isSeen 43 = .ok (.istore 4, 2) := by decide +kernel
theorem dX9_isSeen_45 : decode cX9_isSeen 45 = .ok (.iinc 5 1, 3) := by decide +kernel
theorem dX9_isSeen_48 : decode cX9_isSeen 48 = .ok (.goto (-42), 3) := by decide +kernel
theorem dX9_isSeen_51 : decode cX9_isSeen 51 = .ok (.iload 4, 2) := by decide +kernel
theorem dX9_isSeen_53 : decode cX9_isSeen 53 = .ok (.ireturn, 1) := by decide +kernel
theorem dX9_posts_0 : decode cX9_posts 0 = .ok (.aload_n 0, 1) := by decide +kernel
theorem dX9_posts_1 : decode cX9_posts 1 = .ok (.iconst 0, 1) := by decide +kernel
theorem dX9_posts_2 : decode cX9_posts 2 = .ok (.putfield 134, 3) := by decide +kernel
theorem dX9_posts_5 : decode cX9_posts 5 = .ok (.iload_n 1, 1) := by decide +kernel
theorem dX9_posts_6 : decode cX9_posts 6 = .ok (.i2l, 1) := by decide +kernel
theorem dX9_posts_7 : decode cX9_posts 7 = .ok (.lconst 0, 1) := by decide +kernel
theorem dX9_posts_8 : decode cX9_posts 8 = .ok (.ldc2_w 161, 3) := by decide +kernel
theorem dX9_posts_11 : decode cX9_posts 11 = .ok (.invokestatic 154, 3) := by decide +kernel
theorem dX9_posts_14 : decode cX9_posts 14 = .ok (.ifCond .eq 13, 3) := by decide +kernel
theorem dX9_posts_17 : decode cX9_posts 17 = .ok (.iload_n 2, 1) := by decide +kernel
theorem dX9_posts_18 : decode cX9_posts 18 = .ok (.i2l, 1) := by decide +kernel
theorem dX9_posts_19 : decode cX9_posts 19 = .ok (.lconst 0, 1) := by decide +kernel
theorem dX9_posts_20 : decode cX9_posts 20 = .ok (.lconst 1, 1) := by decide +kernel
theorem dX9_posts_21 : decode cX9_posts 21 = .ok (.invokestatic 154, 3) := by decide +kernel
theorem dX9_posts_24 : decode cX9_posts 24 = .ok (.ifCond .ne 5, 3) := by decide +kernel
theorem dX9_posts_27 : decode cX9_posts 27 = .ok (.iconst (-1), 1) := by decide +kernel
theorem dX9_posts_28 : decode cX9_posts 28 = .ok (.ireturn, 1) := by decide +kernel
theorem dX9_posts_29 : decode cX9_posts 29 = .ok (.ldc_w 445, 3) := by decide +kernel
theorem dX9_posts_32 : decode cX9_posts 32 = .ok (.istore_n 3, 1) := by decide +kernel
theorem dX9_posts_33 : decode cX9_posts 33 = .ok (.iconst (-1), 1) := by decide +kernel
theorem dX9_posts_34 : decode cX9_posts 34 = .ok (.istore 4, 2) := by decide +kernel
theorem dX9_posts_36 : decode cX9_posts 36 = .ok (.iconst 0, 1) := by decide +kernel
theorem dX9_posts_37 : decode cX9_posts 37 = .ok (.istore 5, 2) := by decide +kernel
theorem dX9_posts_39 : decode cX9_posts 39 = .ok (.iload 5, 2) := by decide +kernel
theorem dX9_posts_41 : decode cX9_posts 41 = .ok (.sipush 256, 3) := by decide +kernel
theorem dX9_posts_44 : decode cX9_posts 44 = .ok (.if_icmp .ge 86, 3) := by decide +kernel
theorem dX9_posts_47 : decode cX9_posts 47 = .ok (.iload 5, 2) := by decide +kernel
theorem dX9_posts_49 : decode cX9_posts 49 = .ok (.invokestatic 446, 3) := by decide +kernel
theorem dX9_posts_52 : decode cX9_posts 52 = .ok (.iload_n 3, 1) := by decide +kernel
theorem dX9_posts_53 : decode cX9_posts 53 = .ok (.if_icmp .ge 7, 3) := by decide +kernel
theorem dX9_posts_56 : decode cX9_posts 56 = .ok (.iconst 1, 1) := by decide +kernel
theorem dX9_posts_57 : decode cX9_posts 57 = .ok (.goto 4, 3) := by decide +kernel
theorem dX9_posts_60 : decode cX9_posts 60 = .ok (.iconst 0, 1) := by decide +kernel
theorem dX9_posts_61 : decode cX9_posts 61 = .ok (.istore 6, 2) := by decide +kernel
theorem dX9_posts_63 : decode cX9_posts 63 = .ok (.iconst 0, 1) := by decide +kernel
theorem dX9_posts_64 : decode cX9_posts 64 = .ok (.istore 7, 2) := by decide +kernel
theorem dX9_posts_66 : decode cX9_posts 66 = .ok (.iload 7, 2) := by decide +kernel
theorem dX9_posts_68 : decode cX9_posts 68 = .ok (.bipush 8, 2) := by decide +kernel
theorem dX9_posts_70 : decode cX9_posts 70 = .ok (.if_icmp .ge 25, 3) := by decide +kernel
theorem dX9_posts_73 : decode cX9_posts 73 = .ok (.iload 6, 2) := by decide +kernel
theorem dX9_posts_75 : decode cX9_posts 75 = .ok (.ifCond .eq 20, 3) := by decide +kernel
theorem dX9_posts_78 : decode cX9_posts 78 = .ok (.aload_n 0, 1) := by decide +kernel
theorem dX9_posts_79 : decode cX9_posts 79 = .ok (.iload 5, 2) := by decide +kernel
theorem dX9_posts_81 : decode cX9_posts 81 = .ok (.iload 7, 2) := by decide +kernel
theorem dX9_posts_83 : decode cX9_posts 83 = .ok (.iload_n 1, 1) := by decide +kernel
theorem dX9_posts_84 : decode cX9_posts 84 = .ok (.invokevirtual 471, 3) := by decide +kernel
theorem dX9_posts_87 : decode cX9_posts 87 = .ok (.istore 6, 2) := by decide +kernel
theorem dX9_posts_89 : decode cX9_posts 89 = .ok (.iinc 7 1, 3) := by decide +kernel
theorem dX9_posts_92 : decode cX9_posts 92 = .ok (.goto (-26), 3) := by decide +kernel
theorem dX9_posts_95 : decode cX9_posts 95 = .ok (.iload 6, 2) := by decide +kernel
theorem dX9_posts_97 : decode cX9_posts 97 = .ok (.ifCond .eq 8, 3) := by decide +kernel
theorem dX9_posts_100 : decode cX9_posts 100 = .ok (.iload 5, 2) := by decide +kernel
theorem dX9_posts_102 : decode cX9_posts 102 = .ok (.goto 5, 3) := by decide +kernel
theorem dX9_posts_105 : decode cX9_posts 105 = .ok (.iload 4, 2) := by decide +kernel
theorem dX9_posts_107 : decode cX9_posts 107 = .ok (.istore 4, 2) := by decide +kernel
theorem dX9_posts_109 : decode cX9_posts 109 = .ok (.iload 6, 2) := by decide +kernel
theorem dX9_posts_111 : decode cX9_posts 111 = .ok (.ifCond .eq 11, 3) := by decide +kernel
theorem dX9_posts_114 : decode cX9_posts 114 = .ok (.iload 5, 2) := by decide +kernel
theorem dX9_posts_116 : decode cX9_posts 116 = .ok (.invokestatic 446, 3) := by decide +kernel
theorem dX9_posts_119 : decode cX9_posts 119 = .ok (.goto 4, 3) := by decide +kernel
theorem dX9_posts_122 : decode cX9_posts 122 = .ok (.iload_n 3, 1) := by decide +kernel
theorem dX9_posts_123 : decode cX9_posts 123 = .ok (.istore_n 3, 1) := by decide +kernel
theorem dX9_posts_124 : decode cX9_posts 124 = .ok (.iinc 5 1, 3) := by decide +kernel
theorem dX9_posts_127 : decode cX9_posts 127 = .ok (.goto (-88), 3) := by decide +kernel
theorem dX9_posts_130 : decode cX9_posts 130 = .ok (.iload_n 2, 1) := by decide +kernel
theorem dX9_posts_131 : decode cX9_posts 131 = .ok (.ifCond .ne 7, 3) := by decide +kernel
theorem dX9_posts_134 : decode cX9_posts 134 = .ok (.iload_n 3, 1) := by decide +kernel
theorem dX9_posts_135 : decode cX9_posts 135 = .ok (.goto 5, 3) := by decide +kernel
theorem dX9_posts_138 : decode cX9_posts 138 = .ok (.iload 4, 2) := by decide +kernel
theorem dX9_posts_140 : decode cX9_posts 140 = .ok (.ireturn, 1) := by decide +kernel
theorem dX9_foesBy_0 : decode cX9_foesBy 0 = .ok (.aload_n 0, 1) := by decide +kernel
theorem dX9_foesBy_1 : decode cX9_foesBy 1 = .ok (.iconst 0, 1) := by decide +kernel
theorem dX9_foesBy_2 : decode cX9_foesBy 2 = .ok (.putfield 475, 3) := by decide +kernel
theorem dX9_foesBy_5 : decode cX9_foesBy 5 = .ok (.aload_n 0, 1) := by decide +kernel
theorem dX9_foesBy_6 : decode cX9_foesBy 6 = .ok (.iconst 0, 1) := by decide +kernel
theorem dX9_foesBy_7 : decode cX9_foesBy 7 = .ok (.putfield 478, 3) := by decide +kernel
theorem dX9_foesBy_10 : decode cX9_foesBy 10 = .ok (.iload_n 2, 1) := by decide +kernel
theorem dX9_foesBy_11 : decode cX9_foesBy 11 = .ok (.istore 5, 2) := by decide +kernel
theorem dX9_foesBy_13 : decode cX9_foesBy 13 = .ok (.iload 5, 2) := by decide +kernel
theorem dX9_foesBy_15 : decode cX9_foesBy 15 = .ok (.iload_n 3, 1) := by decide +kernel
theorem dX9_foesBy_16 : decode cX9_foesBy 16 = .ok (.if_icmp .eq 47, 3) := by decide +kernel
theorem dX9_foesBy_19 : decode cX9_foesBy 19 = .ok (.iload 5, 2) := by decide +kernel
theorem dX9_foesBy_21 : decode cX9_foesBy 21 = .ok (.iload 4, 2) := by decide +kernel
theorem dX9_foesBy_23 : decode cX9_foesBy 23 = .ok (.iadd, 1) := by decide +kernel
theorem dX9_foesBy_24 : decode cX9_foesBy 24 = .ok (.bipush 8, 2) := by decide +kernel
theorem dX9_foesBy_26 : decode cX9_foesBy 26 = .ok (.iadd, 1) := by decide +kernel
theorem dX9_foesBy_27 : decode cX9_foesBy 27 = .ok (.bipush 8, 2) := by decide +kernel
theorem dX9_foesBy_29 : decode cX9_foesBy 29 = .ok (.irem, 1) := by decide +kernel
theorem dX9_foesBy_30 : decode cX9_foesBy 30 = .ok (.istore 5, 2) := by decide +kernel
theorem dX9_foesBy_32 : decode cX9_foesBy 32 = .ok (.aload_n 0, 1) := by decide +kernel
theorem dX9_foesBy_33 : decode cX9_foesBy 33 = .ok (.dup, 1) := by decide +kernel
theorem dX9_foesBy_34 : decode cX9_foesBy 34 = .ok (.getfield 475, 3) := by decide +kernel
theorem dX9_foesBy_37 : decode cX9_foesBy 37 = .ok (.aload_n 0, 1) := by decide +kernel
theorem dX9_foesBy_38 : decode cX9_foesBy 38 = .ok (.iconst 1, 1) := by decide +kernel
theorem dX9_foesBy_39 : decode cX9_foesBy 39 = .ok (.iload_n 1, 1) := by decide +kernel
theorem dX9_foesBy_40 : decode cX9_foesBy 40 = .ok (.isub, 1) := by decide +kernel
theorem dX9_foesBy_41 : decode cX9_foesBy 41 = .ok (.iload 5, 2) := by decide +kernel
theorem dX9_foesBy_43 : decode cX9_foesBy 43 = .ok (.invokevirtual 163, 3) := by decide +kernel
theorem dX9_foesBy_46 : decode cX9_foesBy 46 = .ok (.iadd, 1) := by decide +kernel
theorem dX9_foesBy_47 : decode cX9_foesBy 47 = .ok (.putfield 475, 3) := by decide +kernel
theorem dX9_foesBy_50 : decode cX9_foesBy 50 = .ok (.aload_n 0, 1) := by decide +kernel
theorem dX9_foesBy_51 : decode cX9_foesBy 51 = .ok (.dup, 1) := by decide +kernel
theorem dX9_foesBy_52 : decode cX9_foesBy 52 = .ok (.getfield 478, 3) := by decide +kernel
theorem dX9_foesBy_55 : decode cX9_foesBy 55 = .ok (.iconst 1, 1) := by decide +kernel
theorem dX9_foesBy_56 : decode cX9_foesBy 56 = .ok (.iadd, 1) := by decide +kernel
theorem dX9_foesBy_57 : decode cX9_foesBy 57 = .ok (.putfield 478, 3) := by decide +kernel
theorem dX9_foesBy_60 : decode cX9_foesBy 60 = .ok (.goto (-47), 3) := by decide +kernel
theorem dX9_foesBy_63 : decode cX9_foesBy 63 = .ok (.aload_n 0, 1) := by decide +kernel
theorem dX9_foesBy_64 : decode cX9_foesBy 64 = .ok (.getfield 475, 3) := by decide +kernel
theorem dX9_foesBy_67 : decode cX9_foesBy 67 = .ok (.ireturn, 1) := by decide +kernel
theorem dX9_way_0 : decode cX9_way 0 = .ok (.aload_n 0, 1) := by decide +kernel
theorem dX9_way_1 : decode cX9_way 1 = .ok (.iconst 0, 1) := by decide +kernel
theorem dX9_way_2 : decode cX9_way 2 = .ok (.putfield 134, 3) := by decide +kernel
theorem dX9_way_5 : decode cX9_way 5 = .ok (.iload_n 1, 1) := by decide +kernel
theorem dX9_way_6 : decode cX9_way 6 = .ok (.invokestatic 167, 3) := by decide +kernel
theorem dX9_way_9 : decode cX9_way 9 = .ok (.ifCond .eq 35, 3) := by decide +kernel
theorem dX9_way_12 : decode cX9_way 12 = .ok (.iload_n 2, 1) := by decide +kernel
theorem dX9_way_13 : decode cX9_way 13 = .ok (.invokestatic 171, 3) := by decide +kernel
theorem dX9_way_16 : decode cX9_way 16 = .ok (.ifCond .eq 28, 3) := by decide +kernel
theorem dX9_way_19 : decode cX9_way 19 = .ok (.iload_n 3, 1) := by decide +kernel
theorem dX9_way_20 : decode cX9_way 20 = .ok (.invokestatic 171, 3) := by decide +kernel
theorem dX9_way_23 : decode cX9_way 23 = .ok (.ifCond .eq 21, 3) := by decide +kernel
theorem dX9_way_26 : decode cX9_way 26 = .ok (.iload_n 2, 1) := by decide +kernel
theorem dX9_way_27 : decode cX9_way 27 = .ok (.iload_n 3, 1) := by decide +kernel
theorem dX9_way_28 : decode cX9_way 28 = .ok (.if_icmp .eq 16, 3) := by decide +kernel
theorem dX9_way_31 : decode cX9_way 31 = .ok (.iload 4, 2) := by decide +kernel
theorem dX9_way_33 : decode cX9_way 33 = .ok (.i2l, 1) := by decide +kernel
theorem dX9_way_34 : decode cX9_way 34 = .ok (.lconst 0, 1) := by decide +kernel
theorem dX9_way_35 : decode cX9_way 35 = .ok (.ldc2_w 466, 3) := by decide +kernel
theorem dX9_way_38 : decode cX9_way 38 = .ok (.invokestatic 154, 3) := by decide +kernel
theorem dX9_way_41 : decode cX9_way 41 = .ok (.ifCond .ne 5, 3) := by decide +kernel
theorem dX9_way_44 : decode cX9_way 44 = .ok (.iconst (-1), 1) := by decide +kernel
theorem dX9_way_45 : decode cX9_way 45 = .ok (.ireturn, 1) := by decide +kernel
theorem dX9_way_46 : decode cX9_way 46 = .ok (.aload_n 0, 1) := by decide +kernel
theorem dX9_way_47 : decode cX9_way 47 = .ok (.iload_n 1, 1) := by decide +kernel
theorem dX9_way_48 : decode cX9_way 48 = .ok (.iload_n 2, 1) := by decide +kernel
theorem dX9_way_49 : decode cX9_way 49 = .ok (.iload_n 3, 1) := by decide +kernel
theorem dX9_way_50 : decode cX9_way 50 = .ok (.iconst 1, 1) := by decide +kernel
theorem dX9_way_51 : decode cX9_way 51 = .ok (.invokevirtual 481, 3) := by decide +kernel
theorem dX9_way_54 : decode cX9_way 54 = .ok (.aload_n 0, 1) := by decide +kernel
theorem dX9_way_55 : decode cX9_way 55 = .ok (.iload_n 1, 1) := by decide +kernel
theorem dX9_way_56 : decode cX9_way 56 = .ok (.iload_n 2, 1) := by decide +kernel
theorem dX9_way_57 : decode cX9_way 57 = .ok (.iload_n 3, 1) := by decide +kernel
theorem dX9_way_58 : decode cX9_way 58 = .ok (.iconst (-1), 1) := by decide +kernel
theorem dX9_way_59 : decode cX9_way 59 = .ok (.invokevirtual 481, 3) := by decide +kernel
theorem dX9_way_62 : decode cX9_way 62 = .ok (.if_icmp .gt 7, 3) := by decide +kernel
theorem dX9_way_65 : decode cX9_way 65 = .ok (.iconst 1, 1) := by decide +kernel
theorem dX9_way_66 : decode cX9_way 66 = .ok (.goto 4, 3) := by decide +kernel
theorem dX9_way_69 : decode cX9_way 69 = .ok (.iconst 0, 1) := by decide +kernel
theorem dX9_way_70 : decode cX9_way 70 = .ok (.istore 5, 2) := by decide +kernel
theorem dX9_way_72 : decode cX9_way 72 = .ok (.aload_n 0, 1) := by decide +kernel
theorem dX9_way_73 : decode cX9_way 73 = .ok (.iload_n 1, 1) := by decide +kernel
theorem dX9_way_74 : decode cX9_way 74 = .ok (.iload_n 2, 1) := by decide +kernel
theorem dX9_way_75 : decode cX9_way 75 = .ok (.iload_n 3, 1) := by decide +kernel
theorem dX9_way_76 : decode cX9_way 76 = .ok (.iload 5, 2) := by decide +kernel
theorem dX9_way_78 : decode cX9_way 78 = .ok (.ifCond .eq 7, 3) := by decide +kernel
theorem dX9_way_81 : decode cX9_way 81 = .ok (.iconst 1, 1) := by decide +kernel
theorem dX9_way_82 : decode cX9_way 82 = .ok (.goto 4, 3) := by decide +kernel
theorem dX9_way_85 : decode cX9_way 85 = .ok (.iconst (-1), 1) := by decide +kernel
theorem dX9_way_86 : decode cX9_way 86 = .ok (.invokevirtual 481, 3) := by decide +kernel
theorem dX9_way_89 : decode cX9_way 89 = .ok (.pop, 1) := by decide +kernel
theorem dX9_way_90 : decode cX9_way 90 = .ok (.iload 4, 2) := by decide +kernel
theorem dX9_way_92 : decode cX9_way 92 = .ok (.ifCond .ne 10, 3) := by decide +kernel
theorem dX9_way_95 : decode cX9_way 95 = .ok (.aload_n 0, 1) := by decide +kernel
theorem dX9_way_96 : decode cX9_way 96 = .ok (.getfield 475, 3) := by decide +kernel
theorem dX9_way_99 : decode cX9_way 99 = .ok (.goto 26, 3) := by decide +kernel
theorem dX9_way_102 : decode cX9_way 102 = .ok (.iload 4, 2) := by decide +kernel
theorem dX9_way_104 : decode cX9_way 104 = .ok (.iconst 1, 1) := by decide +kernel
theorem dX9_way_105 : decode cX9_way 105 = .ok (.if_icmp .ne 16, 3) := by decide +kernel
theorem dX9_way_108 : decode cX9_way 108 = .ok (.iload 5, 2) := by decide +kernel
theorem dX9_way_110 : decode cX9_way 110 = .ok (.ifCond .eq 7, 3) := by decide +kernel
theorem dX9_way_113 : decode cX9_way 113 = .ok (.iconst 1, 1) := by decide +kernel
theorem dX9_way_114 : decode cX9_way 114 = .ok (.goto 11, 3) := by decide +kernel
theorem dX9_way_117 : decode cX9_way 117 = .ok (.iconst 0, 1) := by decide +kernel
theorem dX9_way_118 : decode cX9_way 118 = .ok (.goto 7, 3) := by decide +kernel
theorem dX9_way_121 : decode cX9_way 121 = .ok (.aload_n 0, 1) := by decide +kernel
theorem dX9_way_122 : decode cX9_way 122 = .ok (.getfield 478, 3) := by decide +kernel
theorem dX9_way_125 : decode cX9_way 125 = .ok (.ireturn, 1) := by decide +kernel
theorem dX9_holds_0 : decode cX9_holds 0 = .ok (.aload_n 0, 1) := by decide +kernel
theorem dX9_holds_1 : decode cX9_holds 1 = .ok (.iconst 0, 1) := by decide +kernel
theorem dX9_holds_2 : decode cX9_holds 2 = .ok (.putfield 134, 3) := by decide +kernel
theorem dX9_holds_5 : decode cX9_holds 5 = .ok (.iload_n 1, 1) := by decide +kernel
theorem dX9_holds_6 : decode cX9_holds 6 = .ok (.i2l, 1) := by decide +kernel
theorem dX9_holds_7 : decode cX9_holds 7 = .ok (.lconst 0, 1) := by decide +kernel
theorem dX9_holds_8 : decode cX9_holds 8 = .ok (.ldc2_w 485, 3) := by decide +kernel
theorem dX9_holds_11 : decode cX9_holds 11 = .ok (.invokestatic 154, 3) := by decide +kernel
theorem dX9_holds_14 : decode cX9_holds 14 = .ok (.ifCond .ne 7, 3) := by decide +kernel
theorem dX9_holds_17 : decode cX9_holds 17 = .ok (.ldc2_w 196, 3) := by decide +kernel
theorem dX9_holds_20 : decode cX9_holds 20 = .ok (.lreturn, 1) := by decide +kernel
theorem dX9_holds_21 : decode cX9_holds 21 = .ok (.ldc2_w 487, 3) := by decide +kernel
theorem dX9_holds_24 : decode cX9_holds 24 = .ok (.lstore_n 2, 1) := by decide +kernel
theorem dX9_holds_25 : decode cX9_holds 25 = .ok (.iconst 0, 1) := by decide +kernel
theorem dX9_holds_26 : decode cX9_holds 26 = .ok (.istore 4, 2) := by decide +kernel
theorem dX9_holds_28 : decode cX9_holds 28 = .ok (.iload 4, 2) := by decide +kernel
theorem dX9_holds_30 : decode cX9_holds 30 = .ok (.iload_n 1, 1) := by decide +kernel
theorem dX9_holds_31 : decode cX9_holds 31 = .ok (.if_icmp .ge 45, 3) := by decide +kernel
theorem dX9_holds_34 : decode cX9_holds 34 = .ok (.lload_n 2, 1) := by decide +kernel
theorem dX9_holds_35 : decode cX9_holds 35 = .ok (.bipush 100, 2) := by decide +kernel
theorem dX9_holds_37 : decode cX9_holds 37 = .ok (.aload_n 0, 1) := by decide +kernel
theorem dX9_holds_38 : decode cX9_holds 38 = .ok (.getfield 13, 3) := by decide +kernel
theorem dX9_holds_41 : decode cX9_holds 41 = .ok (.bipush 33, 2) := by decide +kernel
theorem dX9_holds_43 : decode cX9_holds 43 = .ok (.iaload, 1) := by decide +kernel
theorem dX9_holds_44 : decode cX9_holds 44 = .ok (.isub, 1) := by decide +kernel
theorem dX9_holds_45 : decode cX9_holds 45 = .ok (.i2l, 1) := by decide +kernel
theorem dX9_holds_46 : decode cX9_holds 46 = .ok (.lmul, 1) := by decide +kernel
theorem dX9_holds_47 : decode cX9_holds 47 = .ok (.ldc2_w 489, 3) := by decide +kernel
theorem dX9_holds_50 : decode cX9_holds 50 = .ok (.ldiv, 1) := by decide +kernel
theorem dX9_holds_51 : decode cX9_holds 51 = .ok (.lstore_n 2, 1) := by decide +kernel
theorem dX9_holds_52 : decode cX9_holds 52 = .ok (.lload_n 2, 1) := by decide +kernel
theorem dX9_holds_53 : decode cX9_holds 53 = .ok (.bipush 100, 2) := by decide +kernel
theorem dX9_holds_55 : decode cX9_holds 55 = .ok (.aload_n 0, 1) := by decide +kernel
theorem dX9_holds_56 : decode cX9_holds 56 = .ok (.getfield 13, 3) := by decide +kernel
theorem dX9_holds_59 : decode cX9_holds 59 = .ok (.bipush 34, 2) := by decide +kernel
theorem dX9_holds_61 : decode cX9_holds 61 = .ok (.iaload, 1) := by decide +kernel
theorem dX9_holds_62 : decode cX9_holds 62 = .ok (.isub, 1) := by decide +kernel
theorem dX9_holds_63 : decode cX9_holds 63 = .ok (.i2l, 1) := by decide +kernel
theorem dX9_holds_64 : decode cX9_holds 64 = .ok (.lmul, 1) := by decide +kernel
theorem dX9_holds_65 : decode cX9_holds 65 = .ok (.ldc2_w 489, 3) := by decide +kernel
theorem dX9_holds_68 : decode cX9_holds 68 = .ok (.ldiv, 1) := by decide +kernel
theorem dX9_holds_69 : decode cX9_holds 69 = .ok (.lstore_n 2, 1) := by decide +kernel
theorem dX9_holds_70 : decode cX9_holds 70 = .ok (.iinc 4 1, 3) := by decide +kernel
theorem dX9_holds_73 : decode cX9_holds 73 = .ok (.goto (-45), 3) := by decide +kernel
theorem dX9_holds_76 : decode cX9_holds 76 = .ok (.lload_n 2, 1) := by decide +kernel
theorem dX9_holds_77 : decode cX9_holds 77 = .ok (.lreturn, 1) := by decide +kernel
theorem dX9_which_0 : decode cX9_which 0 = .ok (.aload_n 0, 1) := by decide +kernel
theorem dX9_which_1 : decode cX9_which 1 = .ok (.iconst 0, 1) := by decide +kernel
theorem dX9_which_2 : decode cX9_which 2 = .ok (.putfield 134, 3) := by decide +kernel
theorem dX9_which_5 : decode cX9_which 5 = .ok (.iconst 0, 1) := by decide +kernel
theorem dX9_which_6 : decode cX9_which 6 = .ok (.istore_n 1, 1) := by decide +kernel
theorem dX9_which_7 : decode cX9_which 7 = .ok (.iconst 0, 1) := by decide +kernel
theorem dX9_which_8 : decode cX9_which 8 = .ok (.istore_n 2, 1) := by decide +kernel
theorem dX9_which_9 : decode cX9_which 9 = .ok (.iload_n 2, 1) := by decide +kernel
theorem dX9_which_10 : decode cX9_which 10 = .ok (.bipush 8, 2) := by decide +kernel
theorem dX9_which_12 : decode cX9_which 12 = .ok (.if_icmp .ge 89, 3) := by decide +kernel
theorem dX9_which_15 : decode cX9_which 15 = .ok (.iconst 1, 1) := by decide +kernel
theorem dX9_which_16 : decode cX9_which 16 = .ok (.istore_n 3, 1) := by decide +kernel
theorem dX9_which_17 : decode cX9_which 17 = .ok (.iconst 0, 1) := by decide +kernel
theorem dX9_which_18 : decode cX9_which 18 = .ok (.istore 4, 2) := by decide +kernel
theorem dX9_which_20 : decode cX9_which 20 = .ok (.iload 4, 2) := by decide +kernel
theorem dX9_which_22 : decode cX9_which 22 = .ok (.aload_n 0, 1) := by decide +kernel
theorem dX9_which_23 : decode cX9_which 23 = .ok (.getfield 13, 3) := by decide +kernel
theorem dX9_which_26 : decode cX9_which 26 = .ok (.iconst 1, 1) := by decide +kernel
theorem dX9_which_27 : decode cX9_which 27 = .ok (.iaload, 1) := by decide +kernel
theorem dX9_which_28 : decode cX9_which 28 = .ok (.if_icmp .ge 53, 3) := by decide +kernel
theorem dX9_which_31 : decode cX9_which 31 = .ok (.iload_n 3, 1) := by decide +kernel
theorem dX9_which_32 : decode cX9_which 32 = .ok (.ifCond .eq 49, 3) := by decide +kernel
theorem dX9_which_35 : decode cX9_which 35 = .ok (.aload_n 0, 1) := by decide +kernel
theorem dX9_which_36 : decode cX9_which 36 = .ok (.iload_n 2, 1) := by decide +kernel
theorem dX9_which_37 : decode cX9_which 37 = .ok (.aload_n 0, 1) := by decide +kernel
theorem dX9_which_38 : decode cX9_which 38 = .ok (.getfield 13, 3) := by decide +kernel
theorem dX9_which_41 : decode cX9_which 41 = .ok (.bipush 115, 2) := by decide +kernel
theorem dX9_which_43 : decode cX9_which 43 = .ok (.iconst 2, 1) := by decide +kernel
theorem dX9_which_44 : decode cX9_which 44 = .ok (.iload 4, 2) := by decide +kernel
theorem dX9_which_46 : decode cX9_which 46 = .ok (.imul, 1) := by decide +kernel
theorem dX9_which_47 : decode cX9_which 47 = .ok (.iadd, 1) := by decide +kernel
theorem dX9_which_48 : decode cX9_which 48 = .ok (.iaload, 1) := by decide +kernel
theorem dX9_which_49 : decode cX9_which 49 = .ok (.invokevirtual 198, 3) := by decide +kernel
theorem dX9_which_52 : decode cX9_which 52 = .ok (.aload_n 0, 1) := by decide +kernel
theorem dX9_which_53 : decode cX9_which 53 = .ok (.getfield 13, 3) := by decide +kernel
theorem dX9_which_56 : decode cX9_which 56 = .ok (.bipush 115, 2) := by decide +kernel
theorem dX9_which_58 : decode cX9_which 58 = .ok (.iconst 2, 1) := by decide +kernel
theorem dX9_which_59 : decode cX9_which 59 = .ok (.iload 4, 2) := by decide +kernel
theorem dX9_which_61 : decode cX9_which 61 = .ok (.imul, 1) := by decide +kernel
theorem dX9_which_62 : decode cX9_which 62 = .ok (.iadd, 1) := by decide +kernel
theorem dX9_which_63 : decode cX9_which 63 = .ok (.iconst 1, 1) := by decide +kernel
theorem dX9_which_64 : decode cX9_which 64 = .ok (.iadd, 1) := by decide +kernel
theorem dX9_which_65 : decode cX9_which 65 = .ok (.iaload, 1) := by decide +kernel
theorem dX9_which_66 : decode cX9_which 66 = .ok (.if_icmp .ne 7, 3) := by decide +kernel
theorem dX9_which_69 : decode cX9_which 69 = .ok (.iconst 1, 1) := by decide +kernel
theorem dX9_which_70 : decode cX9_which 70 = .ok (.goto 4, 3) := by decide +kernel
theorem dX9_which_73 : decode cX9_which 73 = .ok (.iconst 0, 1) := by decide +kernel
theorem dX9_which_74 : decode cX9_which 74 = .ok (.istore_n 3, 1) := by decide +kernel
theorem dX9_which_75 : decode cX9_which 75 = .ok (.iinc 4 1, 3) := by decide +kernel
theorem dX9_which_78 : decode cX9_which 78 = .ok (.goto (-58), 3) := by decide +kernel
theorem dX9_which_81 : decode cX9_which 81 = .ok (.iload_n 1, 1) := by decide +kernel
theorem dX9_which_82 : decode cX9_which 82 = .ok (.iload_n 3, 1) := by decide +kernel
theorem dX9_which_83 : decode cX9_which 83 = .ok (.ifCond .eq 9, 3) := by decide +kernel
theorem dX9_which_86 : decode cX9_which 86 = .ok (.iconst 1, 1) := by decide +kernel
theorem dX9_which_87 : decode cX9_which 87 = .ok (.iload_n 2, 1) := by decide +kernel
theorem dX9_which_88 : decode cX9_which 88 = .ok (.ishl, 1) := by decide +kernel
theorem dX9_which_89 : decode cX9_which 89 = .ok (.goto 4, 3) := by decide +kernel
theorem dX9_which_92 : decode cX9_which 92 = .ok (.iconst 0, 1) := by decide +kernel
theorem dX9_which_93 : decode cX9_which 93 = .ok (.ior, 1) := by decide +kernel
theorem dX9_which_94 : decode cX9_which 94 = .ok (.istore_n 1, 1) := by decide +kernel
theorem dX9_which_95 : decode cX9_which 95 = .ok (.iinc 2 1, 3) := by decide +kernel
theorem dX9_which_98 : decode cX9_which 98 = .ok (.goto (-89), 3) := by decide +kernel
theorem dX9_which_101 : decode cX9_which 101 = .ok (.iload_n 1, 1) := by decide +kernel
theorem dX9_which_102 : decode cX9_which 102 = .ok (.ireturn, 1) := by decide +kernel
theorem dX9_compare_0 : decode cX9_compare 0 = .ok (.aload_n 0, 1) := by decide +kernel
theorem dX9_compare_1 : decode cX9_compare 1 = .ok (.iconst 0, 1) := by decide +kernel
theorem dX9_compare_2 : decode cX9_compare 2 = .ok (.putfield 134, 3) := by decide +kernel
theorem dX9_compare_5 : decode cX9_compare 5 = .ok (.aload_n 0, 1) := by decide +kernel
theorem dX9_compare_6 : decode cX9_compare 6 = .ok (.iload_n 1, 1) := by decide +kernel
theorem dX9_compare_7 : decode cX9_compare 7 = .ok (.invokevirtual 365, 3) := by decide +kernel
theorem dX9_compare_10 : decode cX9_compare 10 = .ok (.ifCond .ne 5, 3) := by decide +kernel
theorem dX9_compare_13 : decode cX9_compare 13 = .ok (.iconst (-1), 1) := by decide +kernel
theorem dX9_compare_14 : decode cX9_compare 14 = .ok (.ireturn, 1) := by decide +kernel
theorem dX9_compare_15 : decode cX9_compare 15 = .ok (.aload_n 0, 1) := by decide +kernel
theorem dX9_compare_16 : decode cX9_compare 16 = .ok (.getfield 13, 3) := by decide +kernel
theorem dX9_compare_19 : decode cX9_compare 19 = .ok (.iconst 3, 1) := by decide +kernel
theorem dX9_compare_20 : decode cX9_compare 20 = .ok (.iaload, 1) := by decide +kernel
theorem dX9_compare_21 : decode cX9_compare 21 = .ok (.istore_n 2, 1) := by decide +kernel
theorem dX9_compare_22 : decode cX9_compare 22 = .ok (.aload_n 0, 1) := by decide +kernel
theorem dX9_compare_23 : decode cX9_compare 23 = .ok (.getfield 13, 3) := by decide +kernel
theorem dX9_compare_26 : decode cX9_compare 26 = .ok (.iconst 3, 1) := by decide +kernel
theorem dX9_compare_27 : decode cX9_compare 27 = .ok (.iload_n 1, 1) := by decide +kernel
theorem dX9_compare_28 : decode cX9_compare 28 = .ok (.iastore, 1) := by decide +kernel
theorem dX9_compare_29 : decode cX9_compare 29 = .ok (.iconst 0, 1) := by decide +kernel
theorem dX9_compare_30 : decode cX9_compare 30 = .ok (.istore_n 3, 1) := by decide +kernel
theorem dX9_compare_31 : decode cX9_compare 31 = .ok (.iconst 0, 1) := by decide +kernel
theorem dX9_compare_32 : decode cX9_compare 32 = .ok (.istore 4, 2) := by decide +kernel
theorem dX9_compare_34 : decode cX9_compare 34 = .ok (.iload 4, 2) := by decide +kernel
theorem dX9_compare_36 : decode cX9_compare 36 = .ok (.bipush 8, 2) := by decide +kernel
theorem dX9_compare_38 : decode cX9_compare 38 = .ok (.if_icmp .ge 27, 3) := by decide +kernel
theorem dX9_compare_41 : decode cX9_compare 41 = .ok (.iload_n 3, 1) := by decide +kernel
theorem dX9_compare_42 : decode cX9_compare 42 = .ok (.aload_n 0, 1) := by decide +kernel
theorem dX9_compare_43 : decode cX9_compare 43 = .ok (.iconst 0, 1) := by decide +kernel
theorem dX9_compare_44 : decode cX9_compare 44 = .ok (.iload 4, 2) := by decide +kernel
theorem dX9_compare_46 : decode cX9_compare 46 = .ok (.invokevirtual 179, 3) := by decide +kernel
theorem dX9_compare_49 : decode cX9_compare 49 = .ok (.aload_n 0, 1) := by decide +kernel
theorem dX9_compare_50 : decode cX9_compare 50 = .ok (.iconst 1, 1) := by decide +kernel
theorem dX9_compare_51 : decode cX9_compare 51 = .ok (.iload 4, 2) := by decide +kernel
theorem dX9_compare_53 : decode cX9_compare 53 = .ok (.invokevirtual 179, 3) := by decide +kernel
theorem dX9_compare_56 : decode cX9_compare 56 = .ok (.iadd, 1) := by decide +kernel
theorem dX9_compare_57 : decode cX9_compare 57 = .ok (.iadd, 1) := by decide +kernel
theorem dX9_compare_58 : decode cX9_compare 58 = .ok (.istore_n 3, 1) := by decide +kernel
theorem dX9_compare_59 : decode cX9_compare 59 = .ok (.iinc 4 1, 3) := by decide +kernel
theorem dX9_compare_62 : decode cX9_compare 62 = .ok (.goto (-28), 3) := by decide +kernel
theorem dX9_compare_65 : decode cX9_compare 65 = .ok (.aload_n 0, 1) := by decide +kernel
theorem dX9_compare_66 : decode cX9_compare 66 = .ok (.getfield 13, 3) := by decide +kernel
theorem dX9_compare_69 : decode cX9_compare 69 = .ok (.iconst 3, 1) := by decide +kernel
theorem dX9_compare_70 : decode cX9_compare 70 = .ok (.iload_n 2, 1) := by decide +kernel
theorem dX9_compare_71 : decode cX9_compare 71 = .ok (.iastore, 1) := by decide +kernel
theorem dX9_compare_72 : decode cX9_compare 72 = .ok (.iload_n 3, 1) := by decide +kernel
theorem dX9_compare_73 : decode cX9_compare 73 = .ok (.ireturn, 1) := by decide +kernel
theorem dX9_readSum_0 : decode cX9_readSum 0 = .ok (.aload_n 0, 1) := by decide +kernel
theorem dX9_readSum_1 : decode cX9_readSum 1 = .ok (.getfield 125, 3) := by decide +kernel
theorem dX9_readSum_4 : decode cX9_readSum 4 = .ok (.iload_n 1, 1) := by decide +kernel
