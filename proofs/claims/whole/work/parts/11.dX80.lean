/-! ===== what each instruction is (printed rows) ===== -/
theorem dX8_init_0 : decode cX8_init 0 = .ok (.aload_n 0, 1) := by decide +kernel
theorem dX8_init_1 : decode cX8_init 1 = .ok (.invokespecial 1, 3) := by decide +kernel
theorem dX8_init_4 : decode cX8_init 4 = .ok (.aload_n 0, 1) := by decide +kernel
theorem dX8_init_5 : decode cX8_init 5 = .ok (.new 7, 3) := by decide +kernel
theorem dX8_init_8 : decode cX8_init 8 = .ok (.dup, 1) := by decide +kernel
theorem dX8_init_9 : decode cX8_init 9 = .ok (.invokespecial 9, 3) := by decide +kernel
theorem dX8_init_12 : decode cX8_init 12 = .ok (.putfield 10, 3) := by decide +kernel
theorem dX8_init_15 : decode cX8_init 15 = .ok (.aload_n 0, 1) := by decide +kernel
theorem dX8_init_16 : decode cX8_init 16 = .ok (.new 16, 3) := by decide +kernel
theorem dX8_init_19 : decode cX8_init 19 = .ok (.dup, 1) := by decide +kernel
theorem dX8_init_20 : decode cX8_init 20 = .ok (.aload_n 0, 1) := by decide +kernel
theorem dX8_init_21 : decode cX8_init 21 = .ok (.getfield 10, 3) := by decide +kernel
theorem dX8_init_24 : decode cX8_init 24 = .ok (.invokespecial 18, 3) := by decide +kernel
theorem dX8_init_27 : decode cX8_init 27 = .ok (.putfield 21, 3) := by decide +kernel
theorem dX8_init_30 : decode cX8_init 30 = .ok (.aload_n 0, 1) := by decide +kernel
theorem dX8_init_31 : decode cX8_init 31 = .ok (.new 25, 3) := by decide +kernel
theorem dX8_init_34 : decode cX8_init 34 = .ok (.dup, 1) := by decide +kernel
theorem dX8_init_35 : decode cX8_init 35 = .ok (.aload_n 0, 1) := by decide +kernel
theorem dX8_init_36 : decode cX8_init 36 = .ok (.getfield 10, 3) := by decide +kernel
theorem dX8_init_39 : decode cX8_init 39 = .ok (.aload_n 0, 1) := by decide +kernel
theorem dX8_init_40 : decode cX8_init 40 = .ok (.getfield 21, 3) := by decide +kernel
theorem dX8_init_43 : decode cX8_init 43 = .ok (.invokespecial 27, 3) := by decide +kernel
theorem dX8_init_46 : decode cX8_init 46 = .ok (.putfield 30, 3) := by decide +kernel
theorem dX8_init_49 : decode cX8_init 49 = .ok (.aload_n 0, 1) := by decide +kernel
theorem dX8_init_50 : decode cX8_init 50 = .ok (.new 34, 3) := by decide +kernel
theorem dX8_init_53 : decode cX8_init 53 = .ok (.dup, 1) := by decide +kernel
theorem dX8_init_54 : decode cX8_init 54 = .ok (.invokespecial 36, 3) := by decide +kernel
theorem dX8_init_57 : decode cX8_init 57 = .ok (.putfield 37, 3) := by decide +kernel
theorem dX8_init_60 : decode cX8_init 60 = .ok (.aload_n 0, 1) := by decide +kernel
theorem dX8_init_61 : decode cX8_init 61 = .ok (.iconst 2, 1) := by decide +kernel
theorem dX8_init_62 : decode cX8_init 62 = .ok (.anewarray 7, 3) := by decide +kernel
theorem dX8_init_65 : decode cX8_init 65 = .ok (.putfield 41, 3) := by decide +kernel
theorem dX8_init_68 : decode cX8_init 68 = .ok (.aload_n 0, 1) := by decide +kernel
theorem dX8_init_69 : decode cX8_init 69 = .ok (.new 45, 3) := by decide +kernel
theorem dX8_init_72 : decode cX8_init 72 = .ok (.dup, 1) := by decide +kernel
theorem dX8_init_73 : decode cX8_init 73 = .ok (.invokespecial 47, 3) := by decide +kernel
theorem dX8_init_76 : decode cX8_init 76 = .ok (.putfield 48, 3) := by decide +kernel
theorem dX8_init_79 : decode cX8_init 79 = .ok (.aload_n 0, 1) := by decide +kernel
theorem dX8_init_80 : decode cX8_init 80 = .ok (.new 45, 3) := by decide +kernel
theorem dX8_init_83 : decode cX8_init 83 = .ok (.dup, 1) := by decide +kernel
theorem dX8_init_84 : decode cX8_init 84 = .ok (.invokespecial 47, 3) := by decide +kernel
theorem dX8_init_87 : decode cX8_init 87 = .ok (.putfield 52, 3) := by decide +kernel
theorem dX8_init_90 : decode cX8_init 90 = .ok (.aload_n 0, 1) := by decide +kernel
theorem dX8_init_91 : decode cX8_init 91 = .ok (.new 55, 3) := by decide +kernel
theorem dX8_init_94 : decode cX8_init 94 = .ok (.dup, 1) := by decide +kernel
theorem dX8_init_95 : decode cX8_init 95 = .ok (.invokespecial 57, 3) := by decide +kernel
theorem dX8_init_98 : decode cX8_init 98 = .ok (.putfield 58, 3) := by decide +kernel
theorem dX8_init_101 : decode cX8_init 101 = .ok (.aload_n 0, 1) := by decide +kernel
theorem dX8_init_102 : decode cX8_init 102 = .ok (.new 55, 3) := by decide +kernel
theorem dX8_init_105 : decode cX8_init 105 = .ok (.dup, 1) := by decide +kernel
theorem dX8_init_106 : decode cX8_init 106 = .ok (.invokespecial 57, 3) := by decide +kernel
theorem dX8_init_109 : decode cX8_init 109 = .ok (.putfield 62, 3) := by decide +kernel
theorem dX8_init_112 : decode cX8_init 112 = .ok (.aload_n 0, 1) := by decide +kernel
theorem dX8_init_113 : decode cX8_init 113 = .ok (.new 55, 3) := by decide +kernel
theorem dX8_init_116 : decode cX8_init 116 = .ok (.dup, 1) := by decide +kernel
theorem dX8_init_117 : decode cX8_init 117 = .ok (.invokespecial 57, 3) := by decide +kernel
theorem dX8_init_120 : decode cX8_init 120 = .ok (.putfield 65, 3) := by decide +kernel
theorem dX8_init_123 : decode cX8_init 123 = .ok (.aload_n 0, 1) := by decide +kernel
theorem dX8_init_124 : decode cX8_init 124 = .ok (.sipush 400, 3) := by decide +kernel
theorem dX8_init_127 : decode cX8_init 127 = .ok (.newarray .int, 2) := by decide +kernel
theorem dX8_init_129 : decode cX8_init 129 = .ok (.putfield 68, 3) := by decide +kernel
theorem dX8_init_132 : decode cX8_init 132 = .ok (.aload_n 0, 1) := by decide +kernel
theorem dX8_init_133 : decode cX8_init 133 = .ok (.iconst (-1), 1) := by decide +kernel
theorem dX8_init_134 : decode cX8_init 134 = .ok (.putfield 72, 3) := by decide +kernel
theorem dX8_init_137 : decode cX8_init 137 = .ok (.aload_n 0, 1) := by decide +kernel
theorem dX8_init_138 : decode cX8_init 138 = .ok (.iconst (-1), 1) := by decide +kernel
theorem dX8_init_139 : decode cX8_init 139 = .ok (.putfield 76, 3) := by decide +kernel
theorem dX8_init_142 : decode cX8_init 142 = .ok (.aload_n 0, 1) := by decide +kernel
theorem dX8_init_143 : decode cX8_init 143 = .ok (.iconst 3, 1) := by decide +kernel
theorem dX8_init_144 : decode cX8_init 144 = .ok (.newarray .int, 2) := by decide +kernel
theorem dX8_init_146 : decode cX8_init 146 = .ok (.putfield 79, 3) := by decide +kernel
theorem dX8_init_149 : decode cX8_init 149 = .ok (.aload_n 0, 1) := by decide +kernel
theorem dX8_init_150 : decode cX8_init 150 = .ok (.bipush 6, 2) := by decide +kernel
theorem dX8_init_152 : decode cX8_init 152 = .ok (.newarray .int, 2) := by decide +kernel
theorem dX8_init_154 : decode cX8_init 154 = .ok (.putfield 82, 3) := by decide +kernel
theorem dX8_init_157 : decode cX8_init 157 = .ok (.return_, 1) := by decide +kernel
theorem dX8_men_0 : decode cX8_men 0 = .ok (.iload_n 1, 1) := by decide +kernel
theorem dX8_men_1 : decode cX8_men 1 = .ok (.invokestatic 85, 3) := by decide +kernel
theorem dX8_men_4 : decode cX8_men 4 = .ok (.ifCond .eq 20, 3) := by decide +kernel
theorem dX8_men_7 : decode cX8_men 7 = .ok (.iload_n 2, 1) := by decide +kernel
theorem dX8_men_8 : decode cX8_men 8 = .ok (.invokestatic 89, 3) := by decide +kernel
theorem dX8_men_11 : decode cX8_men 11 = .ok (.ifCond .eq 13, 3) := by decide +kernel
theorem dX8_men_14 : decode cX8_men 14 = .ok (.iload_n 3, 1) := by decide +kernel
theorem dX8_men_15 : decode cX8_men 15 = .ok (.iconst 0, 1) := by decide +kernel
theorem dX8_men_16 : decode cX8_men 16 = .ok (.bipush 99, 2) := by decide +kernel
theorem dX8_men_18 : decode cX8_men 18 = .ok (.invokestatic 92, 3) := by decide +kernel
theorem dX8_men_21 : decode cX8_men 21 = .ok (.ifCond .ne 9, 3) := by decide +kernel
theorem dX8_men_24 : decode cX8_men 24 = .ok (.aload_n 0, 1) := by decide +kernel
theorem dX8_men_25 : decode cX8_men 25 = .ok (.iconst (-1), 1) := by decide +kernel
theorem dX8_men_26 : decode cX8_men 26 = .ok (.invokevirtual 96, 3) := by decide +kernel
theorem dX8_men_29 : decode cX8_men 29 = .ok (.ireturn, 1) := by decide +kernel
theorem dX8_men_30 : decode cX8_men 30 = .ok (.aload_n 0, 1) := by decide +kernel
theorem dX8_men_31 : decode cX8_men 31 = .ok (.getfield 10, 3) := by decide +kernel
theorem dX8_men_34 : decode cX8_men 34 = .ok (.getfield 100, 3) := by decide +kernel
theorem dX8_men_37 : decode cX8_men 37 = .ok (.iload_n 1, 1) := by decide +kernel
theorem dX8_men_38 : decode cX8_men 38 = .ok (.iload_n 2, 1) := by decide +kernel
theorem dX8_men_39 : decode cX8_men 39 = .ok (.invokevirtual 103, 3) := by decide +kernel
theorem dX8_men_42 : decode cX8_men 42 = .ok (.istore 4, 2) := by decide +kernel
theorem dX8_men_44 : decode cX8_men 44 = .ok (.aload_n 0, 1) := by decide +kernel
theorem dX8_men_45 : decode cX8_men 45 = .ok (.getfield 10, 3) := by decide +kernel
theorem dX8_men_48 : decode cX8_men 48 = .ok (.getfield 100, 3) := by decide +kernel
theorem dX8_men_51 : decode cX8_men 51 = .ok (.iload_n 1, 1) := by decide +kernel
theorem dX8_men_52 : decode cX8_men 52 = .ok (.iload_n 2, 1) := by decide +kernel
theorem dX8_men_53 : decode cX8_men 53 = .ok (.iload_n 3, 1) := by decide +kernel
theorem dX8_men_54 : decode cX8_men 54 = .ok (.invokevirtual 107, 3) := by decide +kernel
theorem dX8_men_57 : decode cX8_men 57 = .ok (.aload_n 0, 1) := by decide +kernel
theorem dX8_men_58 : decode cX8_men 58 = .ok (.getfield 48, 3) := by decide +kernel
theorem dX8_men_61 : decode cX8_men 61 = .ok (.invokevirtual 111, 3) := by decide +kernel
theorem dX8_men_64 : decode cX8_men 64 = .ok (.aload_n 0, 1) := by decide +kernel
theorem dX8_men_65 : decode cX8_men 65 = .ok (.iload 4, 2) := by decide +kernel
theorem dX8_men_67 : decode cX8_men 67 = .ok (.invokevirtual 114, 3) := by decide +kernel
theorem dX8_men_70 : decode cX8_men 70 = .ok (.ireturn, 1) := by decide +kernel
theorem dX8_at_0 : decode cX8_at 0 = .ok (.iload_n 1, 1) := by decide +kernel
theorem dX8_at_1 : decode cX8_at 1 = .ok (.invokestatic 89, 3) := by decide +kernel
theorem dX8_at_4 : decode cX8_at 4 = .ok (.ifCond .ne 7, 3) := by decide +kernel
theorem dX8_at_7 : decode cX8_at 7 = .ok (.sipush (-1000), 3) := by decide +kernel
theorem dX8_at_10 : decode cX8_at 10 = .ok (.ireturn, 1) := by decide +kernel
theorem dX8_at_11 : decode cX8_at 11 = .ok (.aload_n 0, 1) := by decide +kernel
theorem dX8_at_12 : decode cX8_at 12 = .ok (.getfield 10, 3) := by decide +kernel
theorem dX8_at_15 : decode cX8_at 15 = .ok (.getfield 100, 3) := by decide +kernel
theorem dX8_at_18 : decode cX8_at 18 = .ok (.astore_n 3, 1) := by decide +kernel
theorem dX8_at_19 : decode cX8_at 19 = .ok (.iload_n 2, 1) := by decide +kernel
theorem dX8_at_20 : decode cX8_at 20 = .ok (.tableswitch 100 0 6 #[44, 50, 50, 59, 59, 79, 79], 44) := by decide +kernel
theorem dX8_at_64 : decode cX8_at 64 = .ok (.aload_n 3, 1) := by decide +kernel
theorem dX8_at_65 : decode cX8_at 65 = .ok (.iload_n 1, 1) := by decide +kernel
theorem dX8_at_66 : decode cX8_at 66 = .ok (.invokevirtual 117, 3) := by decide +kernel
theorem dX8_at_69 : decode cX8_at 69 = .ok (.ireturn, 1) := by decide +kernel
theorem dX8_at_70 : decode cX8_at 70 = .ok (.aload_n 3, 1) := by decide +kernel
theorem dX8_at_71 : decode cX8_at 71 = .ok (.iload_n 2, 1) := by decide +kernel
theorem dX8_at_72 : decode cX8_at 72 = .ok (.iconst 1, 1) := by decide +kernel
theorem dX8_at_73 : decode cX8_at 73 = .ok (.isub, 1) := by decide +kernel
theorem dX8_at_74 : decode cX8_at 74 = .ok (.iload_n 1, 1) := by decide +kernel
theorem dX8_at_75 : decode cX8_at 75 = .ok (.invokevirtual 103, 3) := by decide +kernel
theorem dX8_at_78 : decode cX8_at 78 = .ok (.ireturn, 1) := by decide +kernel
theorem dX8_at_79 : decode cX8_at 79 = .ok (.aload_n 0, 1) := by decide +kernel
theorem dX8_at_80 : decode cX8_at 80 = .ok (.getfield 21, 3) := by decide +kernel
theorem dX8_at_83 : decode cX8_at 83 = .ok (.aload_n 0, 1) := by decide +kernel
theorem dX8_at_84 : decode cX8_at 84 = .ok (.getfield 10, 3) := by decide +kernel
theorem dX8_at_87 : decode cX8_at 87 = .ok (.invokevirtual 120, 3) := by decide +kernel
theorem dX8_at_90 : decode cX8_at 90 = .ok (.aload_n 3, 1) := by decide +kernel
theorem dX8_at_91 : decode cX8_at 91 = .ok (.iload_n 2, 1) := by decide +kernel
theorem dX8_at_92 : decode cX8_at 92 = .ok (.iconst 3, 1) := by decide +kernel
theorem dX8_at_93 : decode cX8_at 93 = .ok (.isub, 1) := by decide +kernel
theorem dX8_at_94 : decode cX8_at 94 = .ok (.iload_n 1, 1) := by decide +kernel
theorem dX8_at_95 : decode cX8_at 95 = .ok (.invokevirtual 124, 3) := by decide +kernel
theorem dX8_at_98 : decode cX8_at 98 = .ok (.ireturn, 1) := by decide +kernel
theorem dX8_at_99 : decode cX8_at 99 = .ok (.aload_n 0, 1) := by decide +kernel
theorem dX8_at_100 : decode cX8_at 100 = .ok (.getfield 21, 3) := by decide +kernel
theorem dX8_at_103 : decode cX8_at 103 = .ok (.aload_n 3, 1) := by decide +kernel
theorem dX8_at_104 : decode cX8_at 104 = .ok (.iload_n 2, 1) := by decide +kernel
theorem dX8_at_105 : decode cX8_at 105 = .ok (.iconst 5, 1) := by decide +kernel
theorem dX8_at_106 : decode cX8_at 106 = .ok (.isub, 1) := by decide +kernel
theorem dX8_at_107 : decode cX8_at 107 = .ok (.iload_n 1, 1) := by decide +kernel
theorem dX8_at_108 : decode cX8_at 108 = .ok (.invokevirtual 128, 3) := by decide +kernel
theorem dX8_at_111 : decode cX8_at 111 = .ok (.ifCond .eq 7, 3) := by decide +kernel
theorem dX8_at_114 : decode cX8_at 114 = .ok (.iconst 1, 1) := by decide +kernel
theorem dX8_at_115 : decode cX8_at 115 = .ok (.goto 4, 3) := by decide +kernel
theorem dX8_at_118 : decode cX8_at 118 = .ok (.iconst 0, 1) := by decide +kernel
theorem dX8_at_119 : decode cX8_at 119 = .ok (.ireturn, 1) := by decide +kernel
theorem dX8_at_120 : decode cX8_at 120 = .ok (.sipush (-1000), 3) := by decide +kernel
theorem dX8_at_123 : decode cX8_at 123 = .ok (.ireturn, 1) := by decide +kernel
theorem dX8_of_0 : decode cX8_of 0 = .ok (.iload_n 1, 1) := by decide +kernel
theorem dX8_of_1 : decode cX8_of 1 = .ok (.invokestatic 85, 3) := by decide +kernel
theorem dX8_of_4 : decode cX8_of 4 = .ok (.ifCond .ne 5, 3) := by decide +kernel
theorem dX8_of_7 : decode cX8_of 7 = .ok (.iconst (-1), 1) := by decide +kernel
theorem dX8_of_8 : decode cX8_of 8 = .ok (.ireturn, 1) := by decide +kernel
theorem dX8_of_9 : decode cX8_of 9 = .ok (.aload_n 0, 1) := by decide +kernel
theorem dX8_of_10 : decode cX8_of 10 = .ok (.getfield 10, 3) := by decide +kernel
theorem dX8_of_13 : decode cX8_of 13 = .ok (.getfield 100, 3) := by decide +kernel
theorem dX8_of_16 : decode cX8_of 16 = .ok (.astore_n 3, 1) := by decide +kernel
theorem dX8_of_17 : decode cX8_of 17 = .ok (.iload_n 2, 1) := by decide +kernel
theorem dX8_of_18 : decode cX8_of 18 = .ok (.tableswitch 58 0 3 #[30, 36, 42, 52], 30) := by decide +kernel
theorem dX8_of_48 : decode cX8_of 48 = .ok (.aload_n 3, 1) := by decide +kernel
theorem dX8_of_49 : decode cX8_of 49 = .ok (.iload_n 1, 1) := by decide +kernel
theorem dX8_of_50 : decode cX8_of 50 = .ok (.invokevirtual 132, 3) := by decide +kernel
theorem dX8_of_53 : decode cX8_of 53 = .ok (.ireturn, 1) := by decide +kernel
theorem dX8_of_54 : decode cX8_of 54 = .ok (.aload_n 3, 1) := by decide +kernel
theorem dX8_of_55 : decode cX8_of 55 = .ok (.iload_n 1, 1) := by decide +kernel
theorem dX8_of_56 : decode cX8_of 56 = .ok (.invokevirtual 135, 3) := by decide +kernel
theorem dX8_of_59 : decode cX8_of 59 = .ok (.ireturn, 1) := by decide +kernel
theorem dX8_of_60 : decode cX8_of 60 = .ok (.aload_n 0, 1) := by decide +kernel
theorem dX8_of_61 : decode cX8_of 61 = .ok (.getfield 21, 3) := by decide +kernel
theorem dX8_of_64 : decode cX8_of 64 = .ok (.aload_n 3, 1) := by decide +kernel
theorem dX8_of_65 : decode cX8_of 65 = .ok (.iload_n 1, 1) := by decide +kernel
theorem dX8_of_66 : decode cX8_of 66 = .ok (.invokevirtual 138, 3) := by decide +kernel
theorem dX8_of_69 : decode cX8_of 69 = .ok (.ireturn, 1) := by decide +kernel
theorem dX8_of_70 : decode cX8_of 70 = .ok (.aload_n 3, 1) := by decide +kernel
theorem dX8_of_71 : decode cX8_of 71 = .ok (.iload_n 1, 1) := by decide +kernel
theorem dX8_of_72 : decode cX8_of 72 = .ok (.invokevirtual 142, 3) := by decide +kernel
theorem dX8_of_75 : decode cX8_of 75 = .ok (.ireturn, 1) := by decide +kernel
theorem dX8_of_76 : decode cX8_of 76 = .ok (.iconst (-1), 1) := by decide +kernel
theorem dX8_of_77 : decode cX8_of 77 = .ok (.ireturn, 1) := by decide +kernel
theorem dX8_sign_0 : decode cX8_sign 0 = .ok (.iload_n 3, 1) := by decide +kernel
theorem dX8_sign_1 : decode cX8_sign 1 = .ok (.iconst 1, 1) := by decide +kernel
theorem dX8_sign_2 : decode cX8_sign 2 = .ok (.if_icmp .ne 7, 3) := by decide +kernel
theorem dX8_sign_5 : decode cX8_sign 5 = .ok (.iconst 1, 1) := by decide +kernel
theorem dX8_sign_6 : decode cX8_sign 6 = .ok (.goto 4, 3) := by decide +kernel
theorem dX8_sign_9 : decode cX8_sign 9 = .ok (.iconst 0, 1) := by decide +kernel
theorem dX8_sign_10 : decode cX8_sign 10 = .ok (.istore 5, 2) := by decide +kernel
theorem dX8_sign_12 : decode cX8_sign 12 = .ok (.iload 5, 2) := by decide +kernel
theorem dX8_sign_14 : decode cX8_sign 14 = .ok (.ifCond .eq 14, 3) := by decide +kernel
theorem dX8_sign_17 : decode cX8_sign 17 = .ok (.iload 4, 2) := by decide +kernel
theorem dX8_sign_19 : decode cX8_sign 19 = .ok (.iconst (-1), 1) := by decide +kernel
theorem dX8_sign_20 : decode cX8_sign 20 = .ok (.bipush 7, 2) := by decide +kernel
theorem dX8_sign_22 : decode cX8_sign 22 = .ok (.invokestatic 92, 3) := by decide +kernel
theorem dX8_sign_25 : decode cX8_sign 25 = .ok (.goto 12, 3) := by decide +kernel
theorem dX8_sign_28 : decode cX8_sign 28 = .ok (.iload 4, 2) := by decide +kernel
theorem dX8_sign_30 : decode cX8_sign 30 = .ok (.bipush (-20), 2) := by decide +kernel
theorem dX8_sign_32 : decode cX8_sign 32 = .ok (.bipush 20, 2) := by decide +kernel
theorem dX8_sign_34 : decode cX8_sign 34 = .ok (.invokestatic 92, 3) := by decide +kernel
theorem dX8_sign_37 : decode cX8_sign 37 = .ok (.istore 6, 2) := by decide +kernel
theorem dX8_sign_39 : decode cX8_sign 39 = .ok (.iload_n 1, 1) := by decide +kernel
theorem dX8_sign_40 : decode cX8_sign 40 = .ok (.invokestatic 145, 3) := by decide +kernel
theorem dX8_sign_43 : decode cX8_sign 43 = .ok (.ifCond .eq 24, 3) := by decide +kernel
theorem dX8_sign_46 : decode cX8_sign 46 = .ok (.iload_n 2, 1) := by decide +kernel
theorem dX8_sign_47 : decode cX8_sign 47 = .ok (.invokestatic 85, 3) := by decide +kernel
theorem dX8_sign_50 : decode cX8_sign 50 = .ok (.ifCond .eq 17, 3) := by decide +kernel
theorem dX8_sign_53 : decode cX8_sign 53 = .ok (.iload_n 3, 1) := by decide +kernel
theorem dX8_sign_54 : decode cX8_sign 54 = .ok (.iconst 0, 1) := by decide +kernel
theorem dX8_sign_55 : decode cX8_sign 55 = .ok (.iconst 1, 1) := by decide +kernel
theorem dX8_sign_56 : decode cX8_sign 56 = .ok (.invokestatic 92, 3) := by decide +kernel
theorem dX8_sign_59 : decode cX8_sign 59 = .ok (.ifCond .eq 8, 3) := by decide +kernel
theorem dX8_sign_62 : decode cX8_sign 62 = .ok (.iload 6, 2) := by decide +kernel
theorem dX8_sign_64 : decode cX8_sign 64 = .ok (.ifCond .ne 9, 3) := by decide +kernel
theorem dX8_sign_67 : decode cX8_sign 67 = .ok (.aload_n 0, 1) := by decide +kernel
theorem dX8_sign_68 : decode cX8_sign 68 = .ok (.iconst (-1), 1) := by decide +kernel
theorem dX8_sign_69 : decode cX8_sign 69 = .ok (.invokevirtual 96, 3) := by decide +kernel
theorem dX8_sign_72 : decode cX8_sign 72 = .ok (.ireturn, 1) := by decide +kernel
theorem dX8_sign_73 : decode cX8_sign 73 = .ok (.iload 5, 2) := by decide +kernel
theorem dX8_sign_75 : decode cX8_sign 75 = .ok (.ifCond .eq 13, 3) := by decide +kernel
theorem dX8_sign_78 : decode cX8_sign 78 = .ok (.aload_n 0, 1) := by decide +kernel
theorem dX8_sign_79 : decode cX8_sign 79 = .ok (.getfield 10, 3) := by decide +kernel
theorem dX8_sign_82 : decode cX8_sign 82 = .ok (.getfield 148, 3) := by decide +kernel
theorem dX8_sign_85 : decode cX8_sign 85 = .ok (.goto 10, 3) := by decide +kernel
theorem dX8_sign_88 : decode cX8_sign 88 = .ok (.aload_n 0, 1) := by decide +kernel
theorem dX8_sign_89 : decode cX8_sign 89 = .ok (.getfield 10, 3) := by decide +kernel
theorem dX8_sign_92 : decode cX8_sign 92 = .ok (.getfield 151, 3) := by decide +kernel
theorem dX8_sign_95 : decode cX8_sign 95 = .ok (.astore 7, 2) := by decide +kernel
theorem dX8_sign_97 : decode cX8_sign 97 = .ok (.aload 7, 2) := by decide +kernel
theorem dX8_sign_99 : decode cX8_sign 99 = .ok (.iload_n 1, 1) := by decide +kernel
theorem dX8_sign_100 : decode cX8_sign 100 = .ok (.iload_n 2, 1) := by decide +kernel
theorem dX8_sign_101 : decode cX8_sign 101 = .ok (.invokestatic 154, 3) := by decide +kernel
theorem dX8_sign_104 : decode cX8_sign 104 = .ok (.iload 4, 2) := by decide +kernel
theorem dX8_sign_106 : decode cX8_sign 106 = .ok (.iastore, 1) := by decide +kernel
theorem dX8_sign_107 : decode cX8_sign 107 = .ok (.aload_n 0, 1) := by decide +kernel
theorem dX8_sign_108 : decode cX8_sign 108 = .ok (.getfield 48, 3) := by decide +kernel
theorem dX8_sign_111 : decode cX8_sign 111 = .ok (.invokevirtual 111, 3) := by decide +kernel
theorem dX8_sign_114 : decode cX8_sign 114 = .ok (.aload_n 0, 1) := by decide +kernel
theorem dX8_sign_115 : decode cX8_sign 115 = .ok (.iconst 0, 1) := by decide +kernel
theorem dX8_sign_116 : decode cX8_sign 116 = .ok (.invokevirtual 114, 3) := by decide +kernel
theorem dX8_sign_119 : decode cX8_sign 119 = .ok (.ireturn, 1) := by decide +kernel
theorem dX8_reads_0 : decode cX8_reads 0 = .ok (.iload_n 1, 1) := by decide +kernel
theorem dX8_reads_1 : decode cX8_reads 1 = .ok (.invokestatic 145, 3) := by decide +kernel
theorem dX8_reads_4 : decode cX8_reads 4 = .ok (.ifCond .eq 19, 3) := by decide +kernel
theorem dX8_reads_7 : decode cX8_reads 7 = .ok (.iload_n 2, 1) := by decide +kernel
theorem dX8_reads_8 : decode cX8_reads 8 = .ok (.invokestatic 85, 3) := by decide +kernel
theorem dX8_reads_11 : decode cX8_reads 11 = .ok (.ifCond .eq 12, 3) := by decide +kernel
theorem dX8_reads_14 : decode cX8_reads 14 = .ok (.iload_n 3, 1) := by decide +kernel
theorem dX8_reads_15 : decode cX8_reads 15 = .ok (.iconst 0, 1) := by decide +kernel
theorem dX8_reads_16 : decode cX8_reads 16 = .ok (.iconst 1, 1) := by decide +kernel
theorem dX8_reads_17 : decode cX8_reads 17 = .ok (.invokestatic 92, 3) := by decide +kernel
theorem dX8_reads_20 : decode cX8_reads 20 = .ok (.ifCond .ne 7, 3) := by decide +kernel
theorem dX8_reads_23 : decode cX8_reads 23 = .ok (.sipush (-1000), 3) := by decide +kernel
theorem dX8_reads_26 : decode cX8_reads 26 = .ok (.ireturn, 1) := by decide +kernel
theorem dX8_reads_27 : decode cX8_reads 27 = .ok (.iload_n 3, 1) := by decide +kernel
theorem dX8_reads_28 : decode cX8_reads 28 = .ok (.ifCond .ne 22, 3) := by decide +kernel
theorem dX8_reads_31 : decode cX8_reads 31 = .ok (.aload_n 0, 1) := by decide +kernel
theorem dX8_reads_32 : decode cX8_reads 32 = .ok (.getfield 21, 3) := by decide +kernel
theorem dX8_reads_35 : decode cX8_reads 35 = .ok (.aload_n 0, 1) := by decide +kernel
theorem dX8_reads_36 : decode cX8_reads 36 = .ok (.getfield 10, 3) := by decide +kernel
theorem dX8_reads_39 : decode cX8_reads 39 = .ok (.getfield 100, 3) := by decide +kernel
theorem dX8_reads_42 : decode cX8_reads 42 = .ok (.iload_n 1, 1) := by decide +kernel
theorem dX8_reads_43 : decode cX8_reads 43 = .ok (.iload_n 2, 1) := by decide +kernel
theorem dX8_reads_44 : decode cX8_reads 44 = .ok (.invokevirtual 157, 3) := by decide +kernel
theorem dX8_reads_47 : decode cX8_reads 47 = .ok (.goto 16, 3) := by decide +kernel
theorem dX8_reads_50 : decode cX8_reads 50 = .ok (.aload_n 0, 1) := by decide +kernel
theorem dX8_reads_51 : decode cX8_reads 51 = .ok (.getfield 10, 3) := by decide +kernel
theorem dX8_reads_54 : decode cX8_reads 54 = .ok (.getfield 148, 3) := by decide +kernel
theorem dX8_reads_57 : decode cX8_reads 57 = .ok (.iload_n 1, 1) := by decide +kernel
theorem dX8_reads_58 : decode cX8_reads 58 = .ok (.iload_n 2, 1) := by decide +kernel
theorem dX8_reads_59 : decode cX8_reads 59 = .ok (.invokestatic 154, 3) := by decide +kernel
theorem dX8_reads_62 : decode cX8_reads 62 = .ok (.iaload, 1) := by decide +kernel
theorem dX8_reads_63 : decode cX8_reads 63 = .ok (.ireturn, 1) := by decide +kernel
theorem dX8_word_0 : decode cX8_word 0 = .ok (.iload_n 3, 1) := by decide +kernel
theorem dX8_word_1 : decode cX8_word 1 = .ok (.iconst 1, 1) := by decide +kernel
theorem dX8_word_2 : decode cX8_word 2 = .ok (.if_icmp .ne 7, 3) := by decide +kernel
theorem dX8_word_5 : decode cX8_word 5 = .ok (.iconst 1, 1) := by decide +kernel
theorem dX8_word_6 : decode cX8_word 6 = .ok (.goto 4, 3) := by decide +kernel
theorem dX8_word_9 : decode cX8_word 9 = .ok (.iconst 0, 1) := by decide +kernel
theorem dX8_word_10 : decode cX8_word 10 = .ok (.istore 5, 2) := by decide +kernel
theorem dX8_word_12 : decode cX8_word 12 = .ok (.iload 5, 2) := by decide +kernel
theorem dX8_word_14 : decode cX8_word 14 = .ok (.ifCond .eq 14, 3) := by decide +kernel
theorem dX8_word_17 : decode cX8_word 17 = .ok (.iload 4, 2) := by decide +kernel
theorem dX8_word_19 : decode cX8_word 19 = .ok (.iconst 0, 1) := by decide +kernel
theorem dX8_word_20 : decode cX8_word 20 = .ok (.bipush 10, 2) := by decide +kernel
theorem dX8_word_22 : decode cX8_word 22 = .ok (.invokestatic 92, 3) := by decide +kernel
theorem dX8_word_25 : decode cX8_word 25 = .ok (.goto 12, 3) := by decide +kernel
theorem dX8_word_28 : decode cX8_word 28 = .ok (.iload 4, 2) := by decide +kernel
theorem dX8_word_30 : decode cX8_word 30 = .ok (.bipush (-9), 2) := by decide +kernel
theorem dX8_word_32 : decode cX8_word 32 = .ok (.bipush 9, 2) := by decide +kernel
theorem dX8_word_34 : decode cX8_word 34 = .ok (.invokestatic 92, 3) := by decide +kernel
theorem dX8_word_37 : decode cX8_word 37 = .ok (.istore 6, 2) := by decide +kernel
theorem dX8_word_39 : decode cX8_word 39 = .ok (.iload_n 1, 1) := by decide +kernel
theorem dX8_word_40 : decode cX8_word 40 = .ok (.invokestatic 161, 3) := by decide +kernel
theorem dX8_word_43 : decode cX8_word 43 = .ok (.ifCond .eq 24, 3) := by decide +kernel
theorem dX8_word_46 : decode cX8_word 46 = .ok (.iload_n 2, 1) := by decide +kernel
theorem dX8_word_47 : decode cX8_word 47 = .ok (.invokestatic 85, 3) := by decide +kernel
theorem dX8_word_50 : decode cX8_word 50 = .ok (.ifCond .eq 17, 3) := by decide +kernel
theorem dX8_word_53 : decode cX8_word 53 = .ok (.iload_n 3, 1) := by decide +kernel
theorem dX8_word_54 : decode cX8_word 54 = .ok (.iconst 0, 1) := by decide +kernel
theorem dX8_word_55 : decode cX8_word 55 = .ok (.iconst 1, 1) := by decide +kernel
theorem dX8_word_56 : decode cX8_word 56 = .ok (.invokestatic 92, 3) := by decide +kernel
theorem dX8_word_59 : decode cX8_word 59 = .ok (.ifCond .eq 8, 3) := by decide +kernel
theorem dX8_word_62 : decode cX8_word 62 = .ok (.iload 6, 2) := by decide +kernel
theorem dX8_word_64 : decode cX8_word 64 = .ok (.ifCond .ne 9, 3) := by decide +kernel
theorem dX8_word_67 : decode cX8_word 67 = .ok (.aload_n 0, 1) := by decide +kernel
theorem dX8_word_68 : decode cX8_word 68 = .ok (.iconst (-1), 1) := by decide +kernel
theorem dX8_word_69 : decode cX8_word 69 = .ok (.invokevirtual 96, 3) := by decide +kernel
theorem dX8_word_72 : decode cX8_word 72 = .ok (.ireturn, 1) := by decide +kernel
theorem dX8_word_73 : decode cX8_word 73 = .ok (.iload 5, 2) := by decide +kernel
theorem dX8_word_75 : decode cX8_word 75 = .ok (.ifCond .eq 13, 3) := by decide +kernel
theorem dX8_word_78 : decode cX8_word 78 = .ok (.aload_n 0, 1) := by decide +kernel
theorem dX8_word_79 : decode cX8_word 79 = .ok (.getfield 10, 3) := by decide +kernel
theorem dX8_word_82 : decode cX8_word 82 = .ok (.getfield 164, 3) := by decide +kernel
theorem dX8_word_85 : decode cX8_word 85 = .ok (.goto 10, 3) := by decide +kernel
theorem dX8_word_88 : decode cX8_word 88 = .ok (.aload_n 0, 1) := by decide +kernel
theorem dX8_word_89 : decode cX8_word 89 = .ok (.getfield 10, 3) := by decide +kernel
theorem dX8_word_92 : decode cX8_word 92 = .ok (.getfield 167, 3) := by decide +kernel
theorem dX8_word_95 : decode cX8_word 95 = .ok (.astore 7, 2) := by decide +kernel
theorem dX8_word_97 : decode cX8_word 97 = .ok (.aload 7, 2) := by decide +kernel
theorem dX8_word_99 : decode cX8_word 99 = .ok (.iload_n 1, 1) := by decide +kernel
theorem dX8_word_100 : decode cX8_word 100 = .ok (.iload_n 2, 1) := by decide +kernel
theorem dX8_word_101 : decode cX8_word 101 = .ok (.invokestatic 154, 3) := by decide +kernel
theorem dX8_word_104 : decode cX8_word 104 = .ok (.iload 4, 2) := by decide +kernel
theorem dX8_word_106 : decode cX8_word 106 = .ok (.iastore, 1) := by decide +kernel
theorem dX8_word_107 : decode cX8_word 107 = .ok (.aload_n 0, 1) := by decide +kernel
theorem dX8_word_108 : decode cX8_word 108 = .ok (.iconst 0, 1) := by decide +kernel
theorem dX8_word_109 : decode cX8_word 109 = .ok (.invokevirtual 114, 3) := by decide +kernel
theorem dX8_word_112 : decode cX8_word 112 = .ok (.ireturn, 1) := by decide +kernel
theorem dX8_terms_0 : decode cX8_terms 0 = .ok (.aload_n 0, 1) := by decide +kernel
theorem dX8_terms_1 : decode cX8_terms 1 = .ok (.getfield 10, 3) := by decide +kernel
theorem dX8_terms_4 : decode cX8_terms 4 = .ok (.iload_n 1, 1) := by decide +kernel
theorem dX8_terms_5 : decode cX8_terms 5 = .ok (.invokevirtual 170, 3) := by decide +kernel
theorem dX8_terms_8 : decode cX8_terms 8 = .ok (.istore_n 3, 1) := by decide +kernel
theorem dX8_terms_9 : decode cX8_terms 9 = .ok (.iload_n 3, 1) := by decide +kernel
theorem dX8_terms_10 : decode cX8_terms 10 = .ok (.iconst (-1), 1) := by decide +kernel
theorem dX8_terms_11 : decode cX8_terms 11 = .ok (.if_icmp .eq 11, 3) := by decide +kernel
theorem dX8_terms_14 : decode cX8_terms 14 = .ok (.iload_n 1, 1) := by decide +kernel
theorem dX8_terms_15 : decode cX8_terms 15 = .ok (.iload_n 2, 1) := by decide +kernel
theorem dX8_terms_16 : decode cX8_terms 16 = .ok (.invokestatic 173, 3) := by decide +kernel
theorem dX8_terms_19 : decode cX8_terms 19 = .ok (.ifCond .ne 9, 3) := by decide +kernel
theorem dX8_terms_22 : decode cX8_terms 22 = .ok (.aload_n 0, 1) := by decide +kernel
theorem dX8_terms_23 : decode cX8_terms 23 = .ok (.iconst (-1), 1) := by decide +kernel
theorem dX8_terms_24 : decode cX8_terms 24 = .ok (.invokevirtual 96, 3) := by decide +kernel
theorem dX8_terms_27 : decode cX8_terms 27 = .ok (.ireturn, 1) := by decide +kernel
theorem dX8_terms_28 : decode cX8_terms 28 = .ok (.aload_n 0, 1) := by decide +kernel
theorem dX8_terms_29 : decode cX8_terms 29 = .ok (.getfield 10, 3) := by decide +kernel
theorem dX8_terms_32 : decode cX8_terms 32 = .ok (.iload_n 1, 1) := by decide +kernel
theorem dX8_terms_33 : decode cX8_terms 33 = .ok (.iload_n 2, 1) := by decide +kernel
theorem dX8_terms_34 : decode cX8_terms 34 = .ok (.invokevirtual 177, 3) := by decide +kernel
theorem dX8_terms_37 : decode cX8_terms 37 = .ok (.aload_n 0, 1) := by decide +kernel
theorem dX8_terms_38 : decode cX8_terms 38 = .ok (.getfield 48, 3) := by decide +kernel
theorem dX8_terms_41 : decode cX8_terms 41 = .ok (.invokevirtual 111, 3) := by decide +kernel
theorem dX8_terms_44 : decode cX8_terms 44 = .ok (.aload_n 0, 1) := by decide +kernel
theorem dX8_terms_45 : decode cX8_terms 45 = .ok (.iload_n 3, 1) := by decide +kernel
theorem dX8_terms_46 : decode cX8_terms 46 = .ok (.invokevirtual 114, 3) := by decide +kernel
theorem dX8_terms_49 : decode cX8_terms 49 = .ok (.ireturn, 1) := by decide +kernel
theorem dX8_feed_0 : decode cX8_feed 0 = .ok (.aload_n 0, 1) := by decide +kernel
theorem dX8_feed_1 : decode cX8_feed 1 = .ok (.getfield 181, 3) := by decide +kernel
theorem dX8_feed_4 : decode cX8_feed 4 = .ok (.bipush 20, 2) := by decide +kernel
theorem dX8_feed_6 : decode cX8_feed 6 = .ok (.iadd, 1) := by decide +kernel
theorem dX8_feed_7 : decode cX8_feed 7 = .ok (.sipush 400, 3) := by decide +kernel
theorem dX8_feed_10 : decode cX8_feed 10 = .ok (.if_icmp .le 5, 3) := by decide +kernel
theorem dX8_feed_13 : decode cX8_feed 13 = .ok (.iconst (-1), 1) := by decide +kernel
theorem dX8_feed_14 : decode cX8_feed 14 = .ok (.ireturn, 1) := by decide +kernel
theorem dX8_feed_15 : decode cX8_feed 15 = .ok (.aload_n 0, 1) := by decide +kernel
theorem dX8_feed_16 : decode cX8_feed 16 = .ok (.iload_n 1, 1) := by decide +kernel
theorem dX8_feed_17 : decode cX8_feed 17 = .ok (.invokevirtual 184, 3) := by decide +kernel
theorem dX8_feed_20 : decode cX8_feed 20 = .ok (.aload_n 0, 1) := by decide +kernel
theorem dX8_feed_21 : decode cX8_feed 21 = .ok (.iload_n 2, 1) := by decide +kernel
theorem dX8_feed_22 : decode cX8_feed 22 = .ok (.invokevirtual 184, 3) := by decide +kernel
theorem dX8_feed_25 : decode cX8_feed 25 = .ok (.aload_n 0, 1) := by decide +kernel
theorem dX8_feed_26 : decode cX8_feed 26 = .ok (.iload_n 3, 1) := by decide +kernel
theorem dX8_feed_27 : decode cX8_feed 27 = .ok (.invokevirtual 184, 3) := by decide +kernel
theorem dX8_feed_30 : decode cX8_feed 30 = .ok (.aload_n 0, 1) := by decide +kernel
theorem dX8_feed_31 : decode cX8_feed 31 = .ok (.iload 4, 2) := by decide +kernel
theorem dX8_feed_33 : decode cX8_feed 33 = .ok (.invokevirtual 184, 3) := by decide +kernel
theorem dX8_feed_36 : decode cX8_feed 36 = .ok (.aload_n 0, 1) := by decide +kernel
theorem dX8_feed_37 : decode cX8_feed 37 = .ok (.iload 5, 2) := by decide +kernel
theorem dX8_feed_39 : decode cX8_feed 39 = .ok (.invokevirtual 184, 3) := by decide +kernel
theorem dX8_feed_42 : decode cX8_feed 42 = .ok (.aload_n 0, 1) := by decide +kernel
theorem dX8_feed_43 : decode cX8_feed 43 = .ok (.getfield 181, 3) := by decide +kernel
theorem dX8_feed_46 : decode cX8_feed 46 = .ok (.ireturn, 1) := by decide +kernel
theorem dX8_end_0 : decode cX8_end 0 = .ok (.iload_n 1, 1) := by decide +kernel
theorem dX8_end_1 : decode cX8_end 1 = .ok (.iconst 0, 1) := by decide +kernel
theorem dX8_end_2 : decode cX8_end 2 = .ok (.aload_n 0, 1) := by decide +kernel
theorem dX8_end_3 : decode cX8_end 3 = .ok (.getfield 181, 3) := by decide +kernel
theorem dX8_end_6 : decode cX8_end 6 = .ok (.invokestatic 92, 3) := by decide +kernel
theorem dX8_end_9 : decode cX8_end 9 = .ok (.ifCond .ne 5, 3) := by decide +kernel
theorem dX8_end_12 : decode cX8_end 12 = .ok (.iconst (-1), 1) := by decide +kernel
theorem dX8_end_13 : decode cX8_end 13 = .ok (.ireturn, 1) := by decide +kernel
theorem dX8_end_14 : decode cX8_end 14 = .ok (.aload_n 0, 1) := by decide +kernel
theorem dX8_end_15 : decode cX8_end 15 = .ok (.iload_n 1, 1) := by decide +kernel
theorem dX8_end_16 : decode cX8_end 16 = .ok (.putfield 181, 3) := by decide +kernel
theorem dX8_end_19 : decode cX8_end 19 = .ok (.iload_n 1, 1) := by decide +kernel
theorem dX8_end_20 : decode cX8_end 20 = .ok (.ireturn, 1) := by decide +kernel
theorem dX8_row_0 : decode cX8_row 0 = .ok (.aload_n 0, 1) := by decide +kernel
theorem dX8_row_1 : decode cX8_row 1 = .ok (.getfield 181, 3) := by decide +kernel
theorem dX8_row_4 : decode cX8_row 4 = .ok (.ifCond .ne 10, 3) := by decide +kernel
theorem dX8_row_7 : decode cX8_row 7 = .ok (.aload_n 0, 1) := by decide +kernel
theorem dX8_row_8 : decode cX8_row 8 = .ok (.bipush (-6), 2) := by decide +kernel
theorem dX8_row_10 : decode cX8_row 10 = .ok (.invokevirtual 96, 3) := by decide +kernel
theorem dX8_row_13 : decode cX8_row 13 = .ok (.ireturn, 1) := by decide +kernel
theorem dX8_row_14 : decode cX8_row 14 = .ok (.iconst 0, 1) := by decide +kernel
theorem dX8_row_15 : decode cX8_row 15 = .ok (.istore_n 1, 1) := by decide +kernel
theorem dX8_row_16 : decode cX8_row 16 = .ok (.aload_n 0, 1) := by decide +kernel
theorem dX8_row_17 : decode cX8_row 17 = .ok (.iconst 0, 1) := by decide +kernel
theorem dX8_row_18 : decode cX8_row 18 = .ok (.putfield 188, 3) := by decide +kernel
theorem dX8_row_21 : decode cX8_row 21 = .ok (.iconst 0, 1) := by decide +kernel
theorem dX8_row_22 : decode cX8_row 22 = .ok (.istore_n 2, 1) := by decide +kernel
theorem dX8_row_23 : decode cX8_row 23 = .ok (.iload_n 2, 1) := by decide +kernel
theorem dX8_row_24 : decode cX8_row 24 = .ok (.aload_n 0, 1) := by decide +kernel
theorem dX8_row_25 : decode cX8_row 25 = .ok (.getfield 181, 3) := by decide +kernel
theorem dX8_row_28 : decode cX8_row 28 = .ok (.if_icmp .ge 33, 3) := by decide +kernel
theorem dX8_row_31 : decode cX8_row 31 = .ok (.aload_n 0, 1) := by decide +kernel
theorem dX8_row_32 : decode cX8_row 32 = .ok (.iload_n 2, 1) := by decide +kernel
theorem dX8_row_33 : decode cX8_row 33 = .ok (.invokevirtual 191, 3) := by decide +kernel
theorem dX8_row_36 : decode cX8_row 36 = .ok (.ifCond .eq 9, 3) := by decide +kernel
theorem dX8_row_39 : decode cX8_row 39 = .ok (.iinc 1 1, 3) := by decide +kernel
theorem dX8_row_42 : decode cX8_row 42 = .ok (.goto 13, 3) := by decide +kernel
theorem dX8_row_45 : decode cX8_row 45 = .ok (.aload_n 0, 1) := by decide +kernel
theorem dX8_row_46 : decode cX8_row 46 = .ok (.dup, 1) := by decide +kernel
theorem dX8_row_47 : decode cX8_row 47 = .ok (.getfield 188, 3) := by decide +kernel
theorem dX8_row_50 : decode cX8_row 50 = .ok (.iconst 1, 1) := by decide +kernel
theorem dX8_row_51 : decode cX8_row 51 = .ok (.iadd, 1) := by decide +kernel
theorem dX8_row_52 : decode cX8_row 52 = .ok (.putfield 188, 3) := by decide +kernel
theorem dX8_row_55 : decode cX8_row 55 = .ok (.iinc 2 3, 3) := by decide +kernel
theorem dX8_row_58 : decode cX8_row 58 = .ok (.goto (-35), 3) := by decide +kernel
theorem dX8_row_61 : decode cX8_row 61 = .ok (.aload_n 0, 1) := by decide +kernel
theorem dX8_row_62 : decode cX8_row 62 = .ok (.iconst 0, 1) := by decide +kernel
theorem dX8_row_63 : decode cX8_row 63 = .ok (.putfield 181, 3) := by decide +kernel
theorem dX8_row_66 : decode cX8_row 66 = .ok (.aload_n 0, 1) := by decide +kernel
theorem dX8_row_67 : decode cX8_row 67 = .ok (.getfield 48, 3) := by decide +kernel
theorem dX8_row_70 : decode cX8_row 70 = .ok (.invokevirtual 111, 3) := by decide +kernel
theorem dX8_row_73 : decode cX8_row 73 = .ok (.aload_n 0, 1) := by decide +kernel
theorem dX8_row_74 : decode cX8_row 74 = .ok (.iload_n 1, 1) := by decide +kernel
theorem dX8_row_75 : decode cX8_row 75 = .ok (.invokevirtual 114, 3) := by decide +kernel
theorem dX8_row_78 : decode cX8_row 78 = .ok (.ireturn, 1) := by decide +kernel
theorem dX8_strokes_0 : decode cX8_strokes 0 = .ok (.aload_n 0, 1) := by decide +kernel
theorem dX8_strokes_1 : decode cX8_strokes 1 = .ok (.getfield 188, 3) := by decide +kernel
theorem dX8_strokes_4 : decode cX8_strokes 4 = .ok (.ireturn, 1) := by decide +kernel
theorem dX8_law_0 : decode cX8_law 0 = .ok (.aload_n 0, 1) := by decide +kernel
theorem dX8_law_1 : decode cX8_law 1 = .ok (.getfield 181, 3) := by decide +kernel
theorem dX8_law_4 : decode cX8_law 4 = .ok (.istore_n 1, 1) := by decide +kernel
theorem dX8_law_5 : decode cX8_law 5 = .ok (.aload_n 0, 1) := by decide +kernel
theorem dX8_law_6 : decode cX8_law 6 = .ok (.iconst 0, 1) := by decide +kernel
theorem dX8_law_7 : decode cX8_law 7 = .ok (.putfield 181, 3) := by decide +kernel
theorem dX8_law_10 : decode cX8_law 10 = .ok (.aload_n 0, 1) := by decide +kernel
theorem dX8_law_11 : decode cX8_law 11 = .ok (.getfield 10, 3) := by decide +kernel
theorem dX8_law_14 : decode cX8_law 14 = .ok (.getfield 194, 3) := by decide +kernel
theorem dX8_law_17 : decode cX8_law 17 = .ok (.bipush 6, 2) := by decide +kernel
theorem dX8_law_19 : decode cX8_law 19 = .ok (.if_icmp .lt 10, 3) := by decide +kernel
theorem dX8_law_22 : decode cX8_law 22 = .ok (.aload_n 0, 1) := by decide +kernel
theorem dX8_law_23 : decode cX8_law 23 = .ok (.bipush (-5), 2) := by decide +kernel
theorem dX8_law_25 : decode cX8_law 25 = .ok (.invokevirtual 96, 3) := by decide +kernel
theorem dX8_law_28 : decode cX8_law 28 = .ok (.ireturn, 1) := by decide +kernel
theorem dX8_law_29 : decode cX8_law 29 = .ok (.aload_n 0, 1) := by decide +kernel
theorem dX8_law_30 : decode cX8_law 30 = .ok (.aload_n 0, 1) := by decide +kernel
theorem dX8_law_31 : decode cX8_law 31 = .ok (.getfield 37, 3) := by decide +kernel
theorem dX8_law_34 : decode cX8_law 34 = .ok (.aload_n 0, 1) := by decide +kernel
theorem dX8_law_35 : decode cX8_law 35 = .ok (.getfield 68, 3) := by decide +kernel
theorem dX8_law_38 : decode cX8_law 38 = .ok (.iload_n 1, 1) := by decide +kernel
theorem dX8_law_39 : decode cX8_law 39 = .ok (.iconst 1, 1) := by decide +kernel
theorem dX8_law_40 : decode cX8_law 40 = .ok (.invokevirtual 197, 3) := by decide +kernel
theorem dX8_law_43 : decode cX8_law 43 = .ok (.putfield 72, 3) := by decide +kernel
theorem dX8_law_46 : decode cX8_law 46 = .ok (.aload_n 0, 1) := by decide +kernel
theorem dX8_law_47 : decode cX8_law 47 = .ok (.getfield 72, 3) := by decide +kernel
theorem dX8_law_50 : decode cX8_law 50 = .ok (.iconst (-1), 1) := by decide +kernel
theorem dX8_law_51 : decode cX8_law 51 = .ok (.if_icmp .eq 10, 3) := by decide +kernel
theorem dX8_law_54 : decode cX8_law 54 = .ok (.aload_n 0, 1) := by decide +kernel
theorem dX8_law_55 : decode cX8_law 55 = .ok (.bipush (-6), 2) := by decide +kernel
theorem dX8_law_57 : decode cX8_law 57 = .ok (.invokevirtual 96, 3) := by decide +kernel
theorem dX8_law_60 : decode cX8_law 60 = .ok (.ireturn, 1) := by decide +kernel
theorem dX8_law_61 : decode cX8_law 61 = .ok (.aload_n 0, 1) := by decide +kernel
theorem dX8_law_62 : decode cX8_law 62 = .ok (.getfield 10, 3) := by decide +kernel
theorem dX8_law_65 : decode cX8_law 65 = .ok (.getfield 194, 3) := by decide +kernel
theorem dX8_law_68 : decode cX8_law 68 = .ok (.istore_n 2, 1) := by decide +kernel
theorem dX8_law_69 : decode cX8_law 69 = .ok (.aload_n 0, 1) := by decide +kernel
theorem dX8_law_70 : decode cX8_law 70 = .ok (.getfield 10, 3) := by decide +kernel
theorem dX8_law_73 : decode cX8_law 73 = .ok (.getfield 201, 3) := by decide +kernel
theorem dX8_law_76 : decode cX8_law 76 = .ok (.iload_n 2, 1) := by decide +kernel
theorem dX8_law_77 : decode cX8_law 77 = .ok (.new 205, 3) := by decide +kernel
theorem dX8_law_80 : decode cX8_law 80 = .ok (.dup, 1) := by decide +kernel
theorem dX8_law_81 : decode cX8_law 81 = .ok (.aload_n 0, 1) := by decide +kernel
theorem dX8_law_82 : decode cX8_law 82 = .ok (.getfield 37, 3) := by decide +kernel
theorem dX8_law_85 : decode cX8_law 85 = .ok (.getfield 207, 3) := by decide +kernel
theorem dX8_law_88 : decode cX8_law 88 = .ok (.invokespecial 211, 3) := by decide +kernel
theorem dX8_law_91 : decode cX8_law 91 = .ok (.aastore, 1) := by decide +kernel
theorem dX8_law_92 : decode cX8_law 92 = .ok (.aload_n 0, 1) := by decide +kernel
theorem dX8_law_93 : decode cX8_law 93 = .ok (.getfield 10, 3) := by decide +kernel
theorem dX8_law_96 : decode cX8_law 96 = .ok (.dup, 1) := by decide +kernel
theorem dX8_law_97 : decode cX8_law 97 = .ok (.getfield 194, 3) := by decide +kernel
theorem dX8_law_100 : decode cX8_law 100 = .ok (.iconst 1, 1) := by decide +kernel
theorem dX8_law_101 : decode cX8_law 101 = .ok (.iadd, 1) := by decide +kernel
theorem dX8_law_102 : decode cX8_law 102 = .ok (.putfield 194, 3) := by decide +kernel
theorem dX8_law_105 : decode cX8_law 105 = .ok (.aload_n 0, 1) := by decide +kernel
theorem dX8_law_106 : decode cX8_law 106 = .ok (.iload_n 2, 1) := by decide +kernel
theorem dX8_law_107 : decode cX8_law 107 = .ok (.invokevirtual 114, 3) := by decide +kernel
theorem dX8_law_110 : decode cX8_law 110 = .ok (.ireturn, 1) := by decide +kernel
theorem dX8_orders_0 : decode cX8_orders 0 = .ok (.aload_n 0, 1) := by decide +kernel
theorem dX8_orders_1 : decode cX8_orders 1 = .ok (.aload_n 0, 1) := by decide +kernel
theorem dX8_orders_2 : decode cX8_orders 2 = .ok (.getfield 37, 3) := by decide +kernel
theorem dX8_orders_5 : decode cX8_orders 5 = .ok (.aload_n 0, 1) := by decide +kernel
theorem dX8_orders_6 : decode cX8_orders 6 = .ok (.getfield 68, 3) := by decide +kernel
theorem dX8_orders_9 : decode cX8_orders 9 = .ok (.aload_n 0, 1) := by decide +kernel
theorem dX8_orders_10 : decode cX8_orders 10 = .ok (.getfield 181, 3) := by decide +kernel
theorem dX8_orders_13 : decode cX8_orders 13 = .ok (.iconst 0, 1) := by decide +kernel
theorem dX8_orders_14 : decode cX8_orders 14 = .ok (.invokevirtual 197, 3) := by decide +kernel
theorem dX8_orders_17 : decode cX8_orders 17 = .ok (.putfield 72, 3) := by decide +kernel
theorem dX8_orders_20 : decode cX8_orders 20 = .ok (.aload_n 0, 1) := by decide +kernel
theorem dX8_orders_21 : decode cX8_orders 21 = .ok (.iconst 0, 1) := by decide +kernel
theorem dX8_orders_22 : decode cX8_orders 22 = .ok (.putfield 181, 3) := by decide +kernel
theorem dX8_orders_25 : decode cX8_orders 25 = .ok (.aload_n 0, 1) := by decide +kernel
theorem dX8_orders_26 : decode cX8_orders 26 = .ok (.iconst (-1), 1) := by decide +kernel
theorem dX8_orders_27 : decode cX8_orders 27 = .ok (.putfield 76, 3) := by decide +kernel
theorem dX8_orders_30 : decode cX8_orders 30 = .ok (.aload_n 0, 1) := by decide +kernel
theorem dX8_orders_31 : decode cX8_orders 31 = .ok (.getfield 72, 3) := by decide +kernel
theorem dX8_orders_34 : decode cX8_orders 34 = .ok (.iconst (-1), 1) := by decide +kernel
theorem dX8_orders_35 : decode cX8_orders 35 = .ok (.if_icmp .eq 10, 3) := by decide +kernel
theorem dX8_orders_38 : decode cX8_orders 38 = .ok (.aload_n 0, 1) := by decide +kernel
theorem dX8_orders_39 : decode cX8_orders 39 = .ok (.bipush (-6), 2) := by decide +kernel
theorem dX8_orders_41 : decode cX8_orders 41 = .ok (.invokevirtual 96, 3) := by decide +kernel
theorem dX8_orders_44 : decode cX8_orders 44 = .ok (.ireturn, 1) := by decide +kernel
theorem dX8_orders_45 : decode cX8_orders 45 = .ok (.aload_n 0, 1) := by decide +kernel
theorem dX8_orders_46 : decode cX8_orders 46 = .ok (.getfield 62, 3) := by decide +kernel
theorem dX8_orders_49 : decode cX8_orders 49 = .ok (.aload_n 0, 1) := by decide +kernel
theorem dX8_orders_50 : decode cX8_orders 50 = .ok (.getfield 10, 3) := by decide +kernel
theorem dX8_orders_53 : decode cX8_orders 53 = .ok (.getfield 100, 3) := by decide +kernel
theorem dX8_orders_56 : decode cX8_orders 56 = .ok (.invokevirtual 214, 3) := by decide +kernel
theorem dX8_orders_59 : decode cX8_orders 59 = .ok (.aload_n 0, 1) := by decide +kernel
theorem dX8_orders_60 : decode cX8_orders 60 = .ok (.getfield 52, 3) := by decide +kernel
theorem dX8_orders_63 : decode cX8_orders 63 = .ok (.aload_n 0, 1) := by decide +kernel
theorem dX8_orders_64 : decode cX8_orders 64 = .ok (.getfield 48, 3) := by decide +kernel
theorem dX8_orders_67 : decode cX8_orders 67 = .ok (.invokevirtual 218, 3) := by decide +kernel
theorem dX8_orders_70 : decode cX8_orders 70 = .ok (.aload_n 0, 1) := by decide +kernel
theorem dX8_orders_71 : decode cX8_orders 71 = .ok (.aload_n 0, 1) := by decide +kernel
theorem dX8_orders_72 : decode cX8_orders 72 = .ok (.getfield 37, 3) := by decide +kernel
theorem dX8_orders_75 : decode cX8_orders 75 = .ok (.getfield 207, 3) := by decide +kernel
theorem dX8_orders_78 : decode cX8_orders 78 = .ok (.invokevirtual 221, 3) := by decide +kernel
theorem dX8_orders_81 : decode cX8_orders 81 = .ok (.istore_n 1, 1) := by decide +kernel
theorem dX8_orders_82 : decode cX8_orders 82 = .ok (.iload_n 1, 1) := by decide +kernel
theorem dX8_orders_83 : decode cX8_orders 83 = .ok (.ifCond .ge 35, 3) := by decide +kernel
theorem dX8_orders_86 : decode cX8_orders 86 = .ok (.aload_n 0, 1) := by decide +kernel
theorem dX8_orders_87 : decode cX8_orders 87 = .ok (.getfield 10, 3) := by decide +kernel
theorem dX8_orders_90 : decode cX8_orders 90 = .ok (.getfield 100, 3) := by decide +kernel
theorem dX8_orders_93 : decode cX8_orders 93 = .ok (.aload_n 0, 1) := by decide +kernel
theorem dX8_orders_94 : decode cX8_orders 94 = .ok (.getfield 62, 3) := by decide +kernel
theorem dX8_orders_97 : decode cX8_orders 97 = .ok (.invokevirtual 214, 3) := by decide +kernel
theorem dX8_orders_100 : decode cX8_orders 100 = .ok (.aload_n 0, 1) := by decide +kernel
theorem dX8_orders_101 : decode cX8_orders 101 = .ok (.getfield 48, 3) := by decide +kernel
theorem dX8_orders_104 : decode cX8_orders 104 = .ok (.aload_n 0, 1) := by decide +kernel
theorem dX8_orders_105 : decode cX8_orders 105 = .ok (.getfield 52, 3) := by decide +kernel
theorem dX8_orders_108 : decode cX8_orders 108 = .ok (.invokevirtual 218, 3) := by decide +kernel
theorem dX8_orders_111 : decode cX8_orders 111 = .ok (.aload_n 0, 1) := by decide +kernel
theorem dX8_orders_112 : decode cX8_orders 112 = .ok (.bipush (-3), 2) := by decide +kernel
theorem dX8_orders_114 : decode cX8_orders 114 = .ok (.invokevirtual 96, 3) := by decide +kernel
theorem dX8_orders_117 : decode cX8_orders 117 = .ok (.ireturn, 1) := by decide +kernel
theorem dX8_orders_118 : decode cX8_orders 118 = .ok (.aload_n 0, 1) := by decide +kernel
theorem dX8_orders_119 : decode cX8_orders 119 = .ok (.iload_n 1, 1) := by decide +kernel
theorem dX8_orders_120 : decode cX8_orders 120 = .ok (.invokevirtual 114, 3) := by decide +kernel
theorem dX8_orders_123 : decode cX8_orders 123 = .ok (.ireturn, 1) := by decide +kernel
theorem dX8_fault_0 : decode cX8_fault 0 = .ok (.aload_n 0, 1) := by decide +kernel
theorem dX8_fault_1 : decode cX8_fault 1 = .ok (.getfield 72, 3) := by decide +kernel
theorem dX8_fault_4 : decode cX8_fault 4 = .ok (.ireturn, 1) := by decide +kernel
theorem dX8_stopped_0 : decode cX8_stopped 0 = .ok (.aload_n 0, 1) := by decide +kernel
theorem dX8_stopped_1 : decode cX8_stopped 1 = .ok (.getfield 76, 3) := by decide +kernel
theorem dX8_stopped_4 : decode cX8_stopped 4 = .ok (.ireturn, 1) := by decide +kernel
theorem dX8_force_0 : decode cX8_force 0 = .ok (.iload_n 1, 1) := by decide +kernel
theorem dX8_force_1 : decode cX8_force 1 = .ok (.iconst (-1), 1) := by decide +kernel
theorem dX8_force_2 : decode cX8_force 2 = .ok (.if_icmp .eq 21, 3) := by decide +kernel
theorem dX8_force_5 : decode cX8_force 5 = .ok (.aload_n 0, 1) := by decide +kernel
theorem dX8_force_6 : decode cX8_force 6 = .ok (.getfield 10, 3) := by decide +kernel
theorem dX8_force_9 : decode cX8_force 9 = .ok (.iload_n 1, 1) := by decide +kernel
theorem dX8_force_10 : decode cX8_force 10 = .ok (.invokevirtual 225, 3) := by decide +kernel
theorem dX8_force_13 : decode cX8_force 13 = .ok (.ifCond .ne 10, 3) := by decide +kernel
theorem dX8_force_16 : decode cX8_force 16 = .ok (.aload_n 0, 1) := by decide +kernel
theorem dX8_force_17 : decode cX8_force 17 = .ok (.bipush (-2), 2) := by decide +kernel
theorem dX8_force_19 : decode cX8_force 19 = .ok (.invokevirtual 96, 3) := by decide +kernel
theorem dX8_force_22 : decode cX8_force 22 = .ok (.ireturn, 1) := by decide +kernel
theorem dX8_force_23 : decode cX8_force 23 = .ok (.aload_n 0, 1) := by decide +kernel
theorem dX8_force_24 : decode cX8_force 24 = .ok (.getfield 10, 3) := by decide +kernel
theorem dX8_force_27 : decode cX8_force 27 = .ok (.getfield 228, 3) := by decide +kernel
theorem dX8_force_30 : decode cX8_force 30 = .ok (.istore_n 2, 1) := by decide +kernel
theorem dX8_force_31 : decode cX8_force 31 = .ok (.aload_n 0, 1) := by decide +kernel
theorem dX8_force_32 : decode cX8_force 32 = .ok (.getfield 10, 3) := by decide +kernel
theorem dX8_force_35 : decode cX8_force 35 = .ok (.iload_n 1, 1) := by decide +kernel
theorem dX8_force_36 : decode cX8_force 36 = .ok (.putfield 228, 3) := by decide +kernel
theorem dX8_force_39 : decode cX8_force 39 = .ok (.aload_n 0, 1) := by decide +kernel
theorem dX8_force_40 : decode cX8_force 40 = .ok (.iload_n 2, 1) := by decide +kernel
theorem dX8_force_41 : decode cX8_force 41 = .ok (.invokevirtual 114, 3) := by decide +kernel
theorem dX8_force_44 : decode cX8_force 44 = .ok (.ireturn, 1) := by decide +kernel
theorem dX8_attack_0 : decode cX8_attack 0 = .ok (.aload_n 0, 1) := by decide +kernel
theorem dX8_attack_1 : decode cX8_attack 1 = .ok (.aload_n 0, 1) := by decide +kernel
theorem dX8_attack_2 : decode cX8_attack 2 = .ok (.sipush 260, 3) := by decide +kernel
theorem dX8_attack_5 : decode cX8_attack 5 = .ok (.iload_n 1, 1) := by decide +kernel
theorem dX8_attack_6 : decode cX8_attack 6 = .ok (.iload_n 2, 1) := by decide +kernel
theorem dX8_attack_7 : decode cX8_attack 7 = .ok (.iconst 0, 1) := by decide +kernel
theorem dX8_attack_8 : decode cX8_attack 8 = .ok (.invokevirtual 231, 3) := by decide +kernel
theorem dX8_attack_11 : decode cX8_attack 11 = .ok (.invokevirtual 235, 3) := by decide +kernel
theorem dX8_attack_14 : decode cX8_attack 14 = .ok (.ireturn, 1) := by decide +kernel
theorem dX8_shift_0 : decode cX8_shift 0 = .ok (.aload_n 0, 1) := by decide +kernel
theorem dX8_shift_1 : decode cX8_shift 1 = .ok (.aload_n 0, 1) := by decide +kernel
theorem dX8_shift_2 : decode cX8_shift 2 = .ok (.sipush 261, 3) := by decide +kernel
theorem dX8_shift_5 : decode cX8_shift 5 = .ok (.iload_n 1, 1) := by decide +kernel
theorem dX8_shift_6 : decode cX8_shift 6 = .ok (.iload_n 2, 1) := by decide +kernel
theorem dX8_shift_7 : decode cX8_shift 7 = .ok (.iload_n 3, 1) := by decide +kernel
theorem dX8_shift_8 : decode cX8_shift 8 = .ok (.invokevirtual 231, 3) := by decide +kernel
theorem dX8_shift_11 : decode cX8_shift 11 = .ok (.invokevirtual 235, 3) := by decide +kernel
theorem dX8_shift_14 : decode cX8_shift 14 = .ok (.ireturn, 1) := by decide +kernel
theorem dX8_show_0 : decode cX8_show 0 = .ok (.aload_n 0, 1) := by decide +kernel
theorem dX8_show_1 : decode cX8_show 1 = .ok (.aload_n 0, 1) := by decide +kernel
theorem dX8_show_2 : decode cX8_show 2 = .ok (.sipush 262, 3) := by decide +kernel
theorem dX8_show_5 : decode cX8_show 5 = .ok (.iload_n 1, 1) := by decide +kernel
theorem dX8_show_6 : decode cX8_show 6 = .ok (.iload_n 2, 1) := by decide +kernel
theorem dX8_show_7 : decode cX8_show 7 = .ok (.iconst 0, 1) := by decide +kernel
theorem dX8_show_8 : decode cX8_show 8 = .ok (.invokevirtual 231, 3) := by decide +kernel
theorem dX8_show_11 : decode cX8_show 11 = .ok (.invokevirtual 235, 3) := by decide +kernel
theorem dX8_show_14 : decode cX8_show 14 = .ok (.ireturn, 1) := by decide +kernel
theorem dX8_pass_0 : decode cX8_pass 0 = .ok (.aload_n 0, 1) := by decide +kernel
theorem dX8_pass_1 : decode cX8_pass 1 = .ok (.aload_n 0, 1) := by decide +kernel
theorem dX8_pass_2 : decode cX8_pass 2 = .ok (.sipush 263, 3) := by decide +kernel
theorem dX8_pass_5 : decode cX8_pass 5 = .ok (.iconst 0, 1) := by decide +kernel
theorem dX8_pass_6 : decode cX8_pass 6 = .ok (.iconst 0, 1) := by decide +kernel
theorem dX8_pass_7 : decode cX8_pass 7 = .ok (.iconst 0, 1) := by decide +kernel
theorem dX8_pass_8 : decode cX8_pass 8 = .ok (.invokevirtual 231, 3) := by decide +kernel
theorem dX8_pass_11 : decode cX8_pass 11 = .ok (.invokevirtual 235, 3) := by decide +kernel
theorem dX8_pass_14 : decode cX8_pass 14 = .ok (.ireturn, 1) := by decide +kernel
theorem dX8_undo_0 : decode cX8_undo 0 = .ok (.aload_n 0, 1) := by decide +kernel
theorem dX8_undo_1 : decode cX8_undo 1 = .ok (.getfield 48, 3) := by decide +kernel
theorem dX8_undo_4 : decode cX8_undo 4 = .ok (.getfield 238, 3) := by decide +kernel
theorem dX8_undo_7 : decode cX8_undo 7 = .ok (.ifCond .ne 10, 3) := by decide +kernel
theorem dX8_undo_10 : decode cX8_undo 10 = .ok (.aload_n 0, 1) := by decide +kernel
theorem dX8_undo_11 : decode cX8_undo 11 = .ok (.bipush (-3), 2) := by decide +kernel
theorem dX8_undo_13 : decode cX8_undo 13 = .ok (.invokevirtual 96, 3) := by decide +kernel
theorem dX8_undo_16 : decode cX8_undo 16 = .ok (.ireturn, 1) := by decide +kernel
theorem dX8_undo_17 : decode cX8_undo 17 = .ok (.aload_n 0, 1) := by decide +kernel
theorem dX8_undo_18 : decode cX8_undo 18 = .ok (.aload_n 0, 1) := by decide +kernel
theorem dX8_undo_19 : decode cX8_undo 19 = .ok (.getfield 48, 3) := by decide +kernel
theorem dX8_undo_22 : decode cX8_undo 22 = .ok (.aload_n 0, 1) := by decide +kernel
theorem dX8_undo_23 : decode cX8_undo 23 = .ok (.getfield 10, 3) := by decide +kernel
theorem dX8_undo_26 : decode cX8_undo 26 = .ok (.getfield 100, 3) := by decide +kernel
theorem dX8_undo_29 : decode cX8_undo 29 = .ok (.invokevirtual 241, 3) := by decide +kernel
theorem dX8_undo_32 : decode cX8_undo 32 = .ok (.sipush 260, 3) := by decide +kernel
theorem dX8_undo_35 : decode cX8_undo 35 = .ok (.isub, 1) := by decide +kernel
theorem dX8_undo_36 : decode cX8_undo 36 = .ok (.invokevirtual 114, 3) := by decide +kernel
theorem dX8_undo_39 : decode cX8_undo 39 = .ok (.ireturn, 1) := by decide +kernel
theorem dX8_treaty_0 : decode cX8_treaty 0 = .ok (.iload_n 1, 1) := by decide +kernel
theorem dX8_treaty_1 : decode cX8_treaty 1 = .ok (.iconst 0, 1) := by decide +kernel
theorem dX8_treaty_2 : decode cX8_treaty 2 = .ok (.iconst 1, 1) := by decide +kernel
theorem dX8_treaty_3 : decode cX8_treaty 3 = .ok (.invokestatic 92, 3) := by decide +kernel
theorem dX8_treaty_6 : decode cX8_treaty 6 = .ok (.ifCond .ne 5, 3) := by decide +kernel
theorem dX8_treaty_9 : decode cX8_treaty 9 = .ok (.iconst (-1), 1) := by decide +kernel
theorem dX8_treaty_10 : decode cX8_treaty 10 = .ok (.ireturn, 1) := by decide +kernel
theorem dX8_treaty_11 : decode cX8_treaty 11 = .ok (.aload_n 0, 1) := by decide +kernel
theorem dX8_treaty_12 : decode cX8_treaty 12 = .ok (.getfield 30, 3) := by decide +kernel
theorem dX8_treaty_15 : decode cX8_treaty 15 = .ok (.invokevirtual 245, 3) := by decide +kernel
theorem dX8_treaty_18 : decode cX8_treaty 18 = .ok (.iload_n 1, 1) := by decide +kernel
theorem dX8_treaty_19 : decode cX8_treaty 19 = .ok (.invokestatic 249, 3) := by decide +kernel
theorem dX8_treaty_22 : decode cX8_treaty 22 = .ok (.ireturn, 1) := by decide +kernel
theorem dX8_hear_0 : decode cX8_hear 0 = .ok (.iload_n 1, 1) := by decide +kernel
theorem dX8_hear_1 : decode cX8_hear 1 = .ok (.invokestatic 161, 3) := by decide +kernel
theorem dX8_hear_4 : decode cX8_hear 4 = .ok (.ifCond .eq 12, 3) := by decide +kernel
theorem dX8_hear_7 : decode cX8_hear 7 = .ok (.iload_n 2, 1) := by decide +kernel
theorem dX8_hear_8 : decode cX8_hear 8 = .ok (.iconst 0, 1) := by decide +kernel
theorem dX8_hear_9 : decode cX8_hear 9 = .ok (.iconst 1, 1) := by decide +kernel
theorem dX8_hear_10 : decode cX8_hear 10 = .ok (.invokestatic 92, 3) := by decide +kernel
theorem dX8_hear_13 : decode cX8_hear 13 = .ok (.ifCond .ne 9, 3) := by decide +kernel
theorem dX8_hear_16 : decode cX8_hear 16 = .ok (.aload_n 0, 1) := by decide +kernel
theorem dX8_hear_17 : decode cX8_hear 17 = .ok (.iconst (-1), 1) := by decide +kernel
theorem dX8_hear_18 : decode cX8_hear 18 = .ok (.invokevirtual 96, 3) := by decide +kernel
theorem dX8_hear_21 : decode cX8_hear 21 = .ok (.ireturn, 1) := by decide +kernel
theorem dX8_hear_22 : decode cX8_hear 22 = .ok (.aload_n 0, 1) := by decide +kernel
theorem dX8_hear_23 : decode cX8_hear 23 = .ok (.getfield 10, 3) := by decide +kernel
theorem dX8_hear_26 : decode cX8_hear 26 = .ok (.getfield 252, 3) := by decide +kernel
theorem dX8_hear_29 : decode cX8_hear 29 = .ok (.istore_n 3, 1) := by decide +kernel
theorem dX8_hear_30 : decode cX8_hear 30 = .ok (.iload_n 3, 1) := by decide +kernel
theorem dX8_hear_31 : decode cX8_hear 31 = .ok (.bipush 8, 2) := by decide +kernel
theorem dX8_hear_33 : decode cX8_hear 33 = .ok (.if_icmp .lt 10, 3) := by decide +kernel
theorem dX8_hear_36 : decode cX8_hear 36 = .ok (.aload_n 0, 1) := by decide +kernel
theorem dX8_hear_37 : decode cX8_hear 37 = .ok (.bipush (-5), 2) := by decide +kernel
theorem dX8_hear_39 : decode cX8_hear 39 = .ok (.invokevirtual 96, 3) := by decide +kernel
theorem dX8_hear_42 : decode cX8_hear 42 = .ok (.ireturn, 1) := by decide +kernel
theorem dX8_hear_43 : decode cX8_hear 43 = .ok (.aload_n 0, 1) := by decide +kernel
theorem dX8_hear_44 : decode cX8_hear 44 = .ok (.getfield 10, 3) := by decide +kernel
theorem dX8_hear_47 : decode cX8_hear 47 = .ok (.getfield 255, 3) := by decide +kernel
theorem dX8_hear_50 : decode cX8_hear 50 = .ok (.iload_n 3, 1) := by decide +kernel
theorem dX8_hear_51 : decode cX8_hear 51 = .ok (.iload_n 1, 1) := by decide +kernel
theorem dX8_hear_52 : decode cX8_hear 52 = .ok (.iastore, 1) := by decide +kernel
theorem dX8_hear_53 : decode cX8_hear 53 = .ok (.aload_n 0, 1) := by decide +kernel
theorem dX8_hear_54 : decode cX8_hear 54 = .ok (.getfield 10, 3) := by decide +kernel
theorem dX8_hear_57 : decode cX8_hear 57 = .ok (.getfield 258, 3) := by decide +kernel
theorem dX8_hear_60 : decode cX8_hear 60 = .ok (.iload_n 3, 1) := by decide +kernel
theorem dX8_hear_61 : decode cX8_hear 61 = .ok (.iload_n 2, 1) := by decide +kernel
theorem dX8_hear_62 : decode cX8_hear 62 = .ok (.iastore, 1) := by decide +kernel
theorem dX8_hear_63 : decode cX8_hear 63 = .ok (.aload_n 0, 1) := by decide +kernel
theorem dX8_hear_64 : decode cX8_hear 64 = .ok (.getfield 10, 3) := by decide +kernel
theorem dX8_hear_67 : decode cX8_hear 67 = .ok (.iload_n 3, 1) := by decide +kernel
theorem dX8_hear_68 : decode cX8_hear 68 = .ok (.iconst 1, 1) := by decide +kernel
theorem dX8_hear_69 : decode cX8_hear 69 = .ok (.iadd, 1) := by decide +kernel
theorem dX8_hear_70 : decode cX8_hear 70 = .ok (.putfield 252, 3) := by decide +kernel
theorem dX8_hear_73 : decode cX8_hear 73 = .ok (.aload_n 0, 1) := by decide +kernel
theorem dX8_hear_74 : decode cX8_hear 74 = .ok (.iload_n 3, 1) := by decide +kernel
theorem dX8_hear_75 : decode cX8_hear 75 = .ok (.iconst 1, 1) := by decide +kernel
theorem dX8_hear_76 : decode cX8_hear 76 = .ok (.iadd, 1) := by decide +kernel
theorem dX8_hear_77 : decode cX8_hear 77 = .ok (.invokevirtual 114, 3) := by decide +kernel
theorem dX8_hear_80 : decode cX8_hear 80 = .ok (.ireturn, 1) := by decide +kernel
theorem dX8_tell_0 : decode cX8_tell 0 = .ok (.iload_n 1, 1) := by decide +kernel
theorem dX8_tell_1 : decode cX8_tell 1 = .ok (.invokestatic 85, 3) := by decide +kernel
theorem dX8_tell_4 : decode cX8_tell 4 = .ok (.ifCond .eq 14, 3) := by decide +kernel
theorem dX8_tell_7 : decode cX8_tell 7 = .ok (.iload_n 2, 1) := by decide +kernel
theorem dX8_tell_8 : decode cX8_tell 8 = .ok (.bipush (-20), 2) := by decide +kernel
theorem dX8_tell_10 : decode cX8_tell 10 = .ok (.bipush 20, 2) := by decide +kernel
theorem dX8_tell_12 : decode cX8_tell 12 = .ok (.invokestatic 92, 3) := by decide +kernel
theorem dX8_tell_15 : decode cX8_tell 15 = .ok (.ifCond .ne 9, 3) := by decide +kernel
theorem dX8_tell_18 : decode cX8_tell 18 = .ok (.aload_n 0, 1) := by decide +kernel
theorem dX8_tell_19 : decode cX8_tell 19 = .ok (.iconst (-1), 1) := by decide +kernel
theorem dX8_tell_20 : decode cX8_tell 20 = .ok (.invokevirtual 96, 3) := by decide +kernel
theorem dX8_tell_23 : decode cX8_tell 23 = .ok (.ireturn, 1) := by decide +kernel
theorem dX8_tell_24 : decode cX8_tell 24 = .ok (.aload_n 0, 1) := by decide +kernel
theorem dX8_tell_25 : decode cX8_tell 25 = .ok (.getfield 10, 3) := by decide +kernel
theorem dX8_tell_28 : decode cX8_tell 28 = .ok (.getfield 261, 3) := by decide +kernel
theorem dX8_tell_31 : decode cX8_tell 31 = .ok (.istore_n 3, 1) := by decide +kernel
theorem dX8_tell_32 : decode cX8_tell 32 = .ok (.iload_n 3, 1) := by decide +kernel
theorem dX8_tell_33 : decode cX8_tell 33 = .ok (.bipush 6, 2) := by decide +kernel
theorem dX8_tell_35 : decode cX8_tell 35 = .ok (.if_icmp .lt 10, 3) := by decide +kernel
theorem dX8_tell_38 : decode cX8_tell 38 = .ok (.aload_n 0, 1) := by decide +kernel
theorem dX8_tell_39 : decode cX8_tell 39 = .ok (.bipush (-5), 2) := by decide +kernel
theorem dX8_tell_41 : decode cX8_tell 41 = .ok (.invokevirtual 96, 3) := by decide +kernel
theorem dX8_tell_44 : decode cX8_tell 44 = .ok (.ireturn, 1) := by decide +kernel
theorem dX8_tell_45 : decode cX8_tell 45 = .ok (.aload_n 0, 1) := by decide +kernel
theorem dX8_tell_46 : decode cX8_tell 46 = .ok (.getfield 10, 3) := by decide +kernel
theorem dX8_tell_49 : decode cX8_tell 49 = .ok (.getfield 264, 3) := by decide +kernel
theorem dX8_tell_52 : decode cX8_tell 52 = .ok (.iload_n 3, 1) := by decide +kernel
theorem dX8_tell_53 : decode cX8_tell 53 = .ok (.iload_n 1, 1) := by decide +kernel
theorem dX8_tell_54 : decode cX8_tell 54 = .ok (.iastore, 1) := by decide +kernel
theorem dX8_tell_55 : decode cX8_tell 55 = .ok (.aload_n 0, 1) := by decide +kernel
theorem dX8_tell_56 : decode cX8_tell 56 = .ok (.getfield 10, 3) := by decide +kernel
theorem dX8_tell_59 : decode cX8_tell 59 = .ok (.getfield 267, 3) := by decide +kernel
theorem dX8_tell_62 : decode cX8_tell 62 = .ok (.iload_n 3, 1) := by decide +kernel
theorem dX8_tell_63 : decode cX8_tell 63 = .ok (.iload_n 2, 1) := by decide +kernel
theorem dX8_tell_64 : decode cX8_tell 64 = .ok (.iastore, 1) := by decide +kernel
theorem dX8_tell_65 : decode cX8_tell 65 = .ok (.aload_n 0, 1) := by decide +kernel
theorem dX8_tell_66 : decode cX8_tell 66 = .ok (.getfield 10, 3) := by decide +kernel
theorem dX8_tell_69 : decode cX8_tell 69 = .ok (.iload_n 3, 1) := by decide +kernel
theorem dX8_tell_70 : decode cX8_tell 70 = .ok (.iconst 1, 1) := by decide +kernel
theorem dX8_tell_71 : decode cX8_tell 71 = .ok (.iadd, 1) := by decide +kernel
theorem dX8_tell_72 : decode cX8_tell 72 = .ok (.putfield 261, 3) := by decide +kernel
theorem dX8_tell_75 : decode cX8_tell 75 = .ok (.aload_n 0, 1) := by decide +kernel
theorem dX8_tell_76 : decode cX8_tell 76 = .ok (.iload_n 3, 1) := by decide +kernel
theorem dX8_tell_77 : decode cX8_tell 77 = .ok (.iconst 1, 1) := by decide +kernel
theorem dX8_tell_78 : decode cX8_tell 78 = .ok (.iadd, 1) := by decide +kernel
theorem dX8_tell_79 : decode cX8_tell 79 = .ok (.invokevirtual 114, 3) := by decide +kernel
theorem dX8_tell_82 : decode cX8_tell 82 = .ok (.ireturn, 1) := by decide +kernel
theorem dX8_forget_0 : decode cX8_forget 0 = .ok (.aload_n 0, 1) := by decide +kernel
theorem dX8_forget_1 : decode cX8_forget 1 = .ok (.getfield 10, 3) := by decide +kernel
theorem dX8_forget_4 : decode cX8_forget 4 = .ok (.getfield 252, 3) := by decide +kernel
theorem dX8_forget_7 : decode cX8_forget 7 = .ok (.aload_n 0, 1) := by decide +kernel
theorem dX8_forget_8 : decode cX8_forget 8 = .ok (.getfield 10, 3) := by decide +kernel
theorem dX8_forget_11 : decode cX8_forget 11 = .ok (.getfield 261, 3) := by decide +kernel
theorem dX8_forget_14 : decode cX8_forget 14 = .ok (.iadd, 1) := by decide +kernel
theorem dX8_forget_15 : decode cX8_forget 15 = .ok (.istore_n 1, 1) := by decide +kernel
theorem dX8_forget_16 : decode cX8_forget 16 = .ok (.aload_n 0, 1) := by decide +kernel
theorem dX8_forget_17 : decode cX8_forget 17 = .ok (.getfield 10, 3) := by decide +kernel
theorem dX8_forget_20 : decode cX8_forget 20 = .ok (.iconst 0, 1) := by decide +kernel
theorem dX8_forget_21 : decode cX8_forget 21 = .ok (.putfield 252, 3) := by decide +kernel
theorem dX8_forget_24 : decode cX8_forget 24 = .ok (.aload_n 0, 1) := by decide +kernel
theorem dX8_forget_25 : decode cX8_forget 25 = .ok (.getfield 10, 3) := by decide +kernel
theorem dX8_forget_28 : decode cX8_forget 28 = .ok (.iconst 0, 1) := by decide +kernel
theorem dX8_forget_29 : decode cX8_forget 29 = .ok (.putfield 261, 3) := by decide +kernel
theorem dX8_forget_32 : decode cX8_forget 32 = .ok (.iload_n 1, 1) := by decide +kernel
theorem dX8_forget_33 : decode cX8_forget 33 = .ok (.ireturn, 1) := by decide +kernel
theorem dX8_probably_0 : decode cX8_probably 0 = .ok (.aload_n 0, 1) := by decide +kernel
theorem dX8_probably_1 : decode cX8_probably 1 = .ok (.getfield 30, 3) := by decide +kernel
theorem dX8_probably_4 : decode cX8_probably 4 = .ok (.iconst (-1), 1) := by decide +kernel
theorem dX8_probably_5 : decode cX8_probably 5 = .ok (.iconst 0, 1) := by decide +kernel
theorem dX8_probably_6 : decode cX8_probably 6 = .ok (.invokevirtual 270, 3) := by decide +kernel
theorem dX8_probably_9 : decode cX8_probably 9 = .ok (.ireturn, 1) := by decide +kernel
theorem dX8_ask_0 : decode cX8_ask 0 = .ok (.iload_n 1, 1) := by decide +kernel
theorem dX8_ask_1 : decode cX8_ask 1 = .ok (.iconst 0, 1) := by decide +kernel
theorem dX8_ask_2 : decode cX8_ask 2 = .ok (.iconst 1, 1) := by decide +kernel
theorem dX8_ask_3 : decode cX8_ask 3 = .ok (.invokestatic 92, 3) := by decide +kernel
theorem dX8_ask_6 : decode cX8_ask 6 = .ok (.ifCond .ne 5, 3) := by decide +kernel
theorem dX8_ask_9 : decode cX8_ask 9 = .ok (.iconst (-1), 1) := by decide +kernel
theorem dX8_ask_10 : decode cX8_ask 10 = .ok (.ireturn, 1) := by decide +kernel
theorem dX8_ask_11 : decode cX8_ask 11 = .ok (.aload_n 0, 1) := by decide +kernel
theorem dX8_ask_12 : decode cX8_ask 12 = .ok (.getfield 30, 3) := by decide +kernel
theorem dX8_ask_15 : decode cX8_ask 15 = .ok (.invokevirtual 273, 3) := by decide +kernel
theorem dX8_ask_18 : decode cX8_ask 18 = .ok (.istore_n 2, 1) := by decide +kernel
theorem dX8_ask_19 : decode cX8_ask 19 = .ok (.iload_n 1, 1) := by decide +kernel
theorem dX8_ask_20 : decode cX8_ask 20 = .ok (.ifCond .ne 7, 3) := by decide +kernel
theorem dX8_ask_23 : decode cX8_ask 23 = .ok (.iload_n 2, 1) := by decide +kernel
theorem dX8_ask_24 : decode cX8_ask 24 = .ok (.goto 11, 3) := by decide +kernel
theorem dX8_ask_27 : decode cX8_ask 27 = .ok (.aload_n 0, 1) := by decide +kernel
theorem dX8_ask_28 : decode cX8_ask 28 = .ok (.getfield 30, 3) := by decide +kernel
theorem dX8_ask_31 : decode cX8_ask 31 = .ok (.iload_n 2, 1) := by decide +kernel
theorem dX8_ask_32 : decode cX8_ask 32 = .ok (.invokevirtual 276, 3) := by decide +kernel
theorem dX8_ask_35 : decode cX8_ask 35 = .ok (.ireturn, 1) := by decide +kernel
theorem dX8_chain_0 : decode cX8_chain 0 = .ok (.iload_n 1, 1) := by decide +kernel
theorem dX8_chain_1 : decode cX8_chain 1 = .ok (.invokestatic 145, 3) := by decide +kernel
theorem dX8_chain_4 : decode cX8_chain 4 = .ok (.ifCond .eq 19, 3) := by decide +kernel
theorem dX8_chain_7 : decode cX8_chain 7 = .ok (.iload_n 2, 1) := by decide +kernel
theorem dX8_chain_8 : decode cX8_chain 8 = .ok (.invokestatic 85, 3) := by decide +kernel
theorem dX8_chain_11 : decode cX8_chain 11 = .ok (.ifCond .eq 12, 3) := by decide +kernel
theorem dX8_chain_14 : decode cX8_chain 14 = .ok (.iload_n 3, 1) := by decide +kernel
theorem dX8_chain_15 : decode cX8_chain 15 = .ok (.iconst 0, 1) := by decide +kernel
theorem dX8_chain_16 : decode cX8_chain 16 = .ok (.iconst 1, 1) := by decide +kernel
theorem dX8_chain_17 : decode cX8_chain 17 = .ok (.invokestatic 92, 3) := by decide +kernel
theorem dX8_chain_20 : decode cX8_chain 20 = .ok (.ifCond .ne 5, 3) := by decide +kernel
theorem dX8_chain_23 : decode cX8_chain 23 = .ok (.iconst (-1), 1) := by decide +kernel
theorem dX8_chain_24 : decode cX8_chain 24 = .ok (.ireturn, 1) := by decide +kernel
theorem dX8_chain_25 : decode cX8_chain 25 = .ok (.aload_n 0, 1) := by decide +kernel
theorem dX8_chain_26 : decode cX8_chain 26 = .ok (.getfield 30, 3) := by decide +kernel
theorem dX8_chain_29 : decode cX8_chain 29 = .ok (.iload_n 1, 1) := by decide +kernel
theorem dX8_chain_30 : decode cX8_chain 30 = .ok (.iload_n 2, 1) := by decide +kernel
theorem dX8_chain_31 : decode cX8_chain 31 = .ok (.iconst 0, 1) := by decide +kernel
theorem dX8_chain_32 : decode cX8_chain 32 = .ok (.invokevirtual 279, 3) := by decide +kernel
theorem dX8_chain_35 : decode cX8_chain 35 = .ok (.istore 4, 2) := by decide +kernel
theorem dX8_chain_37 : decode cX8_chain 37 = .ok (.iload_n 3, 1) := by decide +kernel
theorem dX8_chain_38 : decode cX8_chain 38 = .ok (.ifCond .ne 9, 3) := by decide +kernel
theorem dX8_chain_41 : decode cX8_chain 41 = .ok (.iload 4, 2) := by decide +kernel
theorem dX8_chain_43 : decode cX8_chain 43 = .ok (.invokestatic 283, 3) := by decide +kernel
theorem dX8_chain_46 : decode cX8_chain 46 = .ok (.ireturn, 1) := by decide +kernel
theorem dX8_chain_47 : decode cX8_chain 47 = .ok (.iload 4, 2) := by decide +kernel
theorem dX8_chain_49 : decode cX8_chain 49 = .ok (.ifCond .ge 7, 3) := by decide +kernel
theorem dX8_chain_52 : decode cX8_chain 52 = .ok (.iconst 1, 1) := by decide +kernel
theorem dX8_chain_53 : decode cX8_chain 53 = .ok (.goto 4, 3) := by decide +kernel
theorem dX8_chain_56 : decode cX8_chain 56 = .ok (.iconst 0, 1) := by decide +kernel
theorem dX8_chain_57 : decode cX8_chain 57 = .ok (.ireturn, 1) := by decide +kernel
theorem dX8_stilled_0 : decode cX8_stilled 0 = .ok (.iload_n 1, 1) := by decide +kernel
theorem dX8_stilled_1 : decode cX8_stilled 1 = .ok (.iconst 0, 1) := by decide +kernel
theorem dX8_stilled_2 : decode cX8_stilled 2 = .ok (.iconst 1, 1) := by decide +kernel
theorem dX8_stilled_3 : decode cX8_stilled 3 = .ok (.invokestatic 92, 3) := by decide +kernel
theorem dX8_stilled_6 : decode cX8_stilled 6 = .ok (.ifCond .ne 5, 3) := by decide +kernel
theorem dX8_stilled_9 : decode cX8_stilled 9 = .ok (.iconst (-1), 1) := by decide +kernel
theorem dX8_stilled_10 : decode cX8_stilled 10 = .ok (.ireturn, 1) := by decide +kernel
theorem dX8_stilled_11 : decode cX8_stilled 11 = .ok (.aload_n 0, 1) := by decide +kernel
theorem dX8_stilled_12 : decode cX8_stilled 12 = .ok (.getfield 30, 3) := by decide +kernel
theorem dX8_stilled_15 : decode cX8_stilled 15 = .ok (.invokevirtual 288, 3) := by decide +kernel
theorem dX8_stilled_18 : decode cX8_stilled 18 = .ok (.iload_n 1, 1) := by decide +kernel
theorem dX8_stilled_19 : decode cX8_stilled 19 = .ok (.invokestatic 249, 3) := by decide +kernel
theorem dX8_stilled_22 : decode cX8_stilled 22 = .ok (.ireturn, 1) := by decide +kernel
theorem dX8_pushed_0 : decode cX8_pushed 0 = .ok (.iload_n 1, 1) := by decide +kernel
theorem dX8_pushed_1 : decode cX8_pushed 1 = .ok (.invokestatic 85, 3) := by decide +kernel
theorem dX8_pushed_4 : decode cX8_pushed 4 = .ok (.ifCond .eq 12, 3) := by decide +kernel
theorem dX8_pushed_7 : decode cX8_pushed 7 = .ok (.iload_n 2, 1) := by decide +kernel
theorem dX8_pushed_8 : decode cX8_pushed 8 = .ok (.iconst 0, 1) := by decide +kernel
theorem dX8_pushed_9 : decode cX8_pushed 9 = .ok (.iconst 2, 1) := by decide +kernel
theorem dX8_pushed_10 : decode cX8_pushed 10 = .ok (.invokestatic 92, 3) := by decide +kernel
theorem dX8_pushed_13 : decode cX8_pushed 13 = .ok (.ifCond .ne 5, 3) := by decide +kernel
theorem dX8_pushed_16 : decode cX8_pushed 16 = .ok (.iconst (-1), 1) := by decide +kernel
theorem dX8_pushed_17 : decode cX8_pushed 17 = .ok (.ireturn, 1) := by decide +kernel
theorem dX8_pushed_18 : decode cX8_pushed 18 = .ok (.aload_n 0, 1) := by decide +kernel
theorem dX8_pushed_19 : decode cX8_pushed 19 = .ok (.getfield 30, 3) := by decide +kernel
theorem dX8_pushed_22 : decode cX8_pushed 22 = .ok (.iload_n 1, 1) := by decide +kernel
theorem dX8_pushed_23 : decode cX8_pushed 23 = .ok (.invokevirtual 291, 3) := by decide +kernel
theorem dX8_pushed_26 : decode cX8_pushed 26 = .ok (.istore_n 3, 1) := by decide +kernel
theorem dX8_pushed_27 : decode cX8_pushed 27 = .ok (.iload_n 2, 1) := by decide +kernel
theorem dX8_pushed_28 : decode cX8_pushed 28 = .ok (.iconst 1, 1) := by decide +kernel
theorem dX8_pushed_29 : decode cX8_pushed 29 = .ok (.if_icmp .ne 14, 3) := by decide +kernel
theorem dX8_pushed_32 : decode cX8_pushed 32 = .ok (.aload_n 0, 1) := by decide +kernel
theorem dX8_pushed_33 : decode cX8_pushed 33 = .ok (.getfield 30, 3) := by decide +kernel
theorem dX8_pushed_36 : decode cX8_pushed 36 = .ok (.iload_n 3, 1) := by decide +kernel
theorem dX8_pushed_37 : decode cX8_pushed 37 = .ok (.invokevirtual 294, 3) := by decide +kernel
theorem dX8_pushed_40 : decode cX8_pushed 40 = .ok (.goto 8, 3) := by decide +kernel
theorem dX8_pushed_43 : decode cX8_pushed 43 = .ok (.iload_n 3, 1) := by decide +kernel
theorem dX8_pushed_44 : decode cX8_pushed 44 = .ok (.iload_n 2, 1) := by decide +kernel
theorem dX8_pushed_45 : decode cX8_pushed 45 = .ok (.invokestatic 249, 3) := by decide +kernel
theorem dX8_pushed_48 : decode cX8_pushed 48 = .ok (.ireturn, 1) := by decide +kernel
theorem dX8_level_0 : decode cX8_level 0 = .ok (.iload_n 1, 1) := by decide +kernel
theorem dX8_level_1 : decode cX8_level 1 = .ok (.invokestatic 85, 3) := by decide +kernel
theorem dX8_level_4 : decode cX8_level 4 = .ok (.ifCond .eq 14, 3) := by decide +kernel
theorem dX8_level_7 : decode cX8_level 7 = .ok (.aload_n 0, 1) := by decide +kernel
theorem dX8_level_8 : decode cX8_level 8 = .ok (.getfield 30, 3) := by decide +kernel
theorem dX8_level_11 : decode cX8_level 11 = .ok (.iload_n 1, 1) := by decide +kernel
theorem dX8_level_12 : decode cX8_level 12 = .ok (.invokevirtual 297, 3) := by decide +kernel
theorem dX8_level_15 : decode cX8_level 15 = .ok (.goto 4, 3) := by decide +kernel
theorem dX8_level_18 : decode cX8_level 18 = .ok (.iconst (-1), 1) := by decide +kernel
theorem dX8_level_19 : decode cX8_level 19 = .ok (.ireturn, 1) := by decide +kernel
theorem dX8_posts_0 : decode cX8_posts 0 = .ok (.iload_n 1, 1) := by decide +kernel
theorem dX8_posts_1 : decode cX8_posts 1 = .ok (.iconst 0, 1) := by decide +kernel
theorem dX8_posts_2 : decode cX8_posts 2 = .ok (.bipush 7, 2) := by decide +kernel
theorem dX8_posts_4 : decode cX8_posts 4 = .ok (.invokestatic 92, 3) := by decide +kernel
theorem dX8_posts_7 : decode cX8_posts 7 = .ok (.ifCond .eq 12, 3) := by decide +kernel
theorem dX8_posts_10 : decode cX8_posts 10 = .ok (.iload_n 2, 1) := by decide +kernel
theorem dX8_posts_11 : decode cX8_posts 11 = .ok (.iconst 0, 1) := by decide +kernel
theorem dX8_posts_12 : decode cX8_posts 12 = .ok (.iconst 1, 1) := by decide +kernel
theorem dX8_posts_13 : decode cX8_posts 13 = .ok (.invokestatic 92, 3) := by decide +kernel
theorem dX8_posts_16 : decode cX8_posts 16 = .ok (.ifCond .ne 5, 3) := by decide +kernel
theorem dX8_posts_19 : decode cX8_posts 19 = .ok (.iconst (-1), 1) := by decide +kernel
theorem dX8_posts_20 : decode cX8_posts 20 = .ok (.ireturn, 1) := by decide +kernel
theorem dX8_posts_21 : decode cX8_posts 21 = .ok (.aload_n 0, 1) := by decide +kernel
theorem dX8_posts_22 : decode cX8_posts 22 = .ok (.getfield 30, 3) := by decide +kernel
theorem dX8_posts_25 : decode cX8_posts 25 = .ok (.iload_n 1, 1) := by decide +kernel
theorem dX8_posts_26 : decode cX8_posts 26 = .ok (.invokevirtual 300, 3) := by decide +kernel
theorem dX8_posts_29 : decode cX8_posts 29 = .ok (.iload_n 2, 1) := by decide +kernel
theorem dX8_posts_30 : decode cX8_posts 30 = .ok (.invokestatic 249, 3) := by decide +kernel
theorem dX8_posts_33 : decode cX8_posts 33 = .ok (.ireturn, 1) := by decide +kernel
theorem dX8_way_0 : decode cX8_way 0 = .ok (.iload_n 1, 1) := by decide +kernel
theorem dX8_way_1 : decode cX8_way 1 = .ok (.invokestatic 85, 3) := by decide +kernel
theorem dX8_way_4 : decode cX8_way 4 = .ok (.ifCond .eq 22, 3) := by decide +kernel
theorem dX8_way_7 : decode cX8_way 7 = .ok (.iload_n 2, 1) := by decide +kernel
theorem dX8_way_8 : decode cX8_way 8 = .ok (.invokestatic 89, 3) := by decide +kernel
theorem dX8_way_11 : decode cX8_way 11 = .ok (.ifCond .eq 15, 3) := by decide +kernel
theorem dX8_way_14 : decode cX8_way 14 = .ok (.iload_n 3, 1) := by decide +kernel
theorem dX8_way_15 : decode cX8_way 15 = .ok (.invokestatic 89, 3) := by decide +kernel
theorem dX8_way_18 : decode cX8_way 18 = .ok (.ifCond .eq 8, 3) := by decide +kernel
theorem dX8_way_21 : decode cX8_way 21 = .ok (.iload_n 2, 1) := by decide +kernel
theorem dX8_way_22 : decode cX8_way 22 = .ok (.iload_n 3, 1) := by decide +kernel
theorem dX8_way_23 : decode cX8_way 23 = .ok (.if_icmp .ne 5, 3) := by decide +kernel
theorem dX8_way_26 : decode cX8_way 26 = .ok (.iconst (-1), 1) := by decide +kernel
theorem dX8_way_27 : decode cX8_way 27 = .ok (.ireturn, 1) := by decide +kernel
theorem dX8_way_28 : decode cX8_way 28 = .ok (.aload_n 0, 1) := by decide +kernel
theorem dX8_way_29 : decode cX8_way 29 = .ok (.getfield 30, 3) := by decide +kernel
theorem dX8_way_32 : decode cX8_way 32 = .ok (.iload_n 1, 1) := by decide +kernel
theorem dX8_way_33 : decode cX8_way 33 = .ok (.iload_n 2, 1) := by decide +kernel
theorem dX8_way_34 : decode cX8_way 34 = .ok (.iload_n 3, 1) := by decide +kernel
theorem dX8_way_35 : decode cX8_way 35 = .ok (.iconst 1, 1) := by decide +kernel
theorem dX8_way_36 : decode cX8_way 36 = .ok (.invokevirtual 303, 3) := by decide +kernel
theorem dX8_way_39 : decode cX8_way 39 = .ok (.istore 5, 2) := by decide +kernel
theorem dX8_way_41 : decode cX8_way 41 = .ok (.aload_n 0, 1) := by decide +kernel
theorem dX8_way_42 : decode cX8_way 42 = .ok (.getfield 30, 3) := by decide +kernel
theorem dX8_way_45 : decode cX8_way 45 = .ok (.iload_n 1, 1) := by decide +kernel
theorem dX8_way_46 : decode cX8_way 46 = .ok (.iload_n 2, 1) := by decide +kernel
theorem dX8_way_47 : decode cX8_way 47 = .ok (.iload_n 3, 1) := by decide +kernel
theorem dX8_way_48 : decode cX8_way 48 = .ok (.iconst (-1), 1) := by decide +kernel
theorem dX8_way_49 : decode cX8_way 49 = .ok (.invokevirtual 303, 3) := by decide +kernel
theorem dX8_way_52 : decode cX8_way 52 = .ok (.istore 6, 2) := by decide +kernel
theorem dX8_way_54 : decode cX8_way 54 = .ok (.iload 5, 2) := by decide +kernel
theorem dX8_way_56 : decode cX8_way 56 = .ok (.iload 6, 2) := by decide +kernel
theorem dX8_way_58 : decode cX8_way 58 = .ok (.if_icmp .gt 7, 3) := by decide +kernel
theorem dX8_way_61 : decode cX8_way 61 = .ok (.iconst 1, 1) := by decide +kernel
theorem dX8_way_62 : decode cX8_way 62 = .ok (.goto 4, 3) := by decide +kernel
theorem dX8_way_65 : decode cX8_way 65 = .ok (.iconst 0, 1) := by decide +kernel
theorem dX8_way_66 : decode cX8_way 66 = .ok (.istore 7, 2) := by decide +kernel
theorem dX8_way_68 : decode cX8_way 68 = .ok (.iload 4, 2) := by decide +kernel
theorem dX8_way_70 : decode cX8_way 70 = .ok (.tableswitch 70 0 2 #[26, 39, 50], 26) := by decide +kernel
theorem dX8_way_96 : decode cX8_way 96 = .ok (.iload 7, 2) := by decide +kernel
theorem dX8_way_98 : decode cX8_way 98 = .ok (.ifCond .eq 8, 3) := by decide +kernel
theorem dX8_way_101 : decode cX8_way 101 = .ok (.iload 5, 2) := by decide +kernel
theorem dX8_way_103 : decode cX8_way 103 = .ok (.goto 5, 3) := by decide +kernel
theorem dX8_way_106 : decode cX8_way 106 = .ok (.iload 6, 2) := by decide +kernel
theorem dX8_way_108 : decode cX8_way 108 = .ok (.ireturn, 1) := by decide +kernel
theorem dX8_way_109 : decode cX8_way 109 = .ok (.iload 7, 2) := by decide +kernel
theorem dX8_way_111 : decode cX8_way 111 = .ok (.ifCond .eq 7, 3) := by decide +kernel
theorem dX8_way_114 : decode cX8_way 114 = .ok (.iconst 1, 1) := by decide +kernel
theorem dX8_way_115 : decode cX8_way 115 = .ok (.goto 4, 3) := by decide +kernel
theorem dX8_way_118 : decode cX8_way 118 = .ok (.iconst 0, 1) := by decide +kernel
theorem dX8_way_119 : decode cX8_way 119 = .ok (.ireturn, 1) := by decide +kernel
theorem dX8_way_120 : decode cX8_way 120 = .ok (.iload 7, 2) := by decide +kernel
theorem dX8_way_122 : decode cX8_way 122 = .ok (.ifCond .eq 9, 3) := by decide +kernel
theorem dX8_way_125 : decode cX8_way 125 = .ok (.iload_n 3, 1) := by decide +kernel
theorem dX8_way_126 : decode cX8_way 126 = .ok (.iload_n 2, 1) := by decide +kernel
theorem dX8_way_127 : decode cX8_way 127 = .ok (.isub, 1) := by decide +kernel
theorem dX8_way_128 : decode cX8_way 128 = .ok (.goto 6, 3) := by decide +kernel
theorem dX8_way_131 : decode cX8_way 131 = .ok (.iload_n 2, 1) := by decide +kernel
theorem dX8_way_132 : decode cX8_way 132 = .ok (.iload_n 3, 1) := by decide +kernel
theorem dX8_way_133 : decode cX8_way 133 = .ok (.isub, 1) := by decide +kernel
theorem dX8_way_134 : decode cX8_way 134 = .ok (.bipush 8, 2) := by decide +kernel
theorem dX8_way_136 : decode cX8_way 136 = .ok (.invokestatic 306, 3) := by decide +kernel
theorem dX8_way_139 : decode cX8_way 139 = .ok (.ireturn, 1) := by decide +kernel
theorem dX8_way_140 : decode cX8_way 140 = .ok (.iconst (-1), 1) := by decide +kernel
theorem dX8_way_141 : decode cX8_way 141 = .ok (.ireturn, 1) := by decide +kernel
theorem dX8_holds_0 : decode cX8_holds 0 = .ok (.iload_n 1, 1) := by decide +kernel
theorem dX8_holds_1 : decode cX8_holds 1 = .ok (.iconst 0, 1) := by decide +kernel
theorem dX8_holds_2 : decode cX8_holds 2 = .ok (.bipush 60, 2) := by decide +kernel
theorem dX8_holds_4 : decode cX8_holds 4 = .ok (.invokestatic 92, 3) := by decide +kernel
theorem dX8_holds_7 : decode cX8_holds 7 = .ok (.ifCond .eq 14, 3) := by decide +kernel
theorem dX8_holds_10 : decode cX8_holds 10 = .ok (.aload_n 0, 1) := by decide +kernel
theorem dX8_holds_11 : decode cX8_holds 11 = .ok (.getfield 30, 3) := by decide +kernel
theorem dX8_holds_14 : decode cX8_holds 14 = .ok (.iload_n 1, 1) := by decide +kernel
theorem dX8_holds_15 : decode cX8_holds 15 = .ok (.invokevirtual 309, 3) := by decide +kernel
theorem dX8_holds_18 : decode cX8_holds 18 = .ok (.goto 6, 3) := by decide +kernel
theorem dX8_holds_21 : decode cX8_holds 21 = .ok (.ldc2_w 313, 3) := by decide +kernel
theorem dX8_holds_24 : decode cX8_holds 24 = .ok (.lreturn, 1) := by decide +kernel
theorem dX8_which_0 : decode cX8_which 0 = .ok (.aload_n 0, 1) := by decide +kernel
theorem dX8_which_1 : decode cX8_which 1 = .ok (.getfield 30, 3) := by decide +kernel
theorem dX8_which_4 : decode cX8_which 4 = .ok (.invokevirtual 315, 3) := by decide +kernel
theorem dX8_which_7 : decode cX8_which 7 = .ok (.ireturn, 1) := by decide +kernel
theorem dX8_compare_0 : decode cX8_compare 0 = .ok (.iload_n 1, 1) := by decide +kernel
theorem dX8_compare_1 : decode cX8_compare 1 = .ok (.iconst (-1), 1) := by decide +kernel
theorem dX8_compare_2 : decode cX8_compare 2 = .ok (.if_icmp .eq 16, 3) := by decide +kernel
theorem dX8_compare_5 : decode cX8_compare 5 = .ok (.aload_n 0, 1) := by decide +kernel
theorem dX8_compare_6 : decode cX8_compare 6 = .ok (.getfield 10, 3) := by decide +kernel
theorem dX8_compare_9 : decode cX8_compare 9 = .ok (.iload_n 1, 1) := by decide +kernel
theorem dX8_compare_10 : decode cX8_compare 10 = .ok (.invokevirtual 225, 3) := by decide +kernel
theorem dX8_compare_13 : decode cX8_compare 13 = .ok (.ifCond .ne 5, 3) := by decide +kernel
theorem dX8_compare_16 : decode cX8_compare 16 = .ok (.iconst (-1), 1) := by decide +kernel
theorem dX8_compare_17 : decode cX8_compare 17 = .ok (.ireturn, 1) := by decide +kernel
theorem dX8_compare_18 : decode cX8_compare 18 = .ok (.aload_n 0, 1) := by decide +kernel
theorem dX8_compare_19 : decode cX8_compare 19 = .ok (.getfield 30, 3) := by decide +kernel
theorem dX8_compare_22 : decode cX8_compare 22 = .ok (.aload_n 0, 1) := by decide +kernel
theorem dX8_compare_23 : decode cX8_compare 23 = .ok (.getfield 10, 3) := by decide +kernel
theorem dX8_compare_26 : decode cX8_compare 26 = .ok (.iload_n 1, 1) := by decide +kernel
theorem dX8_compare_27 : decode cX8_compare 27 = .ok (.invokevirtual 318, 3) := by decide +kernel
theorem dX8_compare_30 : decode cX8_compare 30 = .ok (.invokevirtual 322, 3) := by decide +kernel
theorem dX8_compare_33 : decode cX8_compare 33 = .ok (.ireturn, 1) := by decide +kernel
theorem dX8_decades_0 : decode cX8_decades 0 = .ok (.iload_n 1, 1) := by decide +kernel
theorem dX8_decades_1 : decode cX8_decades 1 = .ok (.iconst 0, 1) := by decide +kernel
theorem dX8_decades_2 : decode cX8_decades 2 = .ok (.ldc_w 325, 3) := by decide +kernel
theorem dX8_decades_5 : decode cX8_decades 5 = .ok (.invokestatic 92, 3) := by decide +kernel
theorem dX8_decades_8 : decode cX8_decades 8 = .ok (.ifCond .eq 13, 3) := by decide +kernel
theorem dX8_decades_11 : decode cX8_decades 11 = .ok (.iload_n 2, 1) := by decide +kernel
theorem dX8_decades_12 : decode cX8_decades 12 = .ok (.iconst 1, 1) := by decide +kernel
theorem dX8_decades_13 : decode cX8_decades 13 = .ok (.bipush 60, 2) := by decide +kernel
theorem dX8_decades_15 : decode cX8_decades 15 = .ok (.invokestatic 92, 3) := by decide +kernel
theorem dX8_decades_18 : decode cX8_decades 18 = .ok (.ifCond .ne 9, 3) := by decide +kernel
theorem dX8_decades_21 : decode cX8_decades 21 = .ok (.aload_n 0, 1) := by decide +kernel
theorem dX8_decades_22 : decode cX8_decades 22 = .ok (.iconst (-1), 1) := by decide +kernel
theorem dX8_decades_23 : decode cX8_decades 23 = .ok (.invokevirtual 96, 3) := by decide +kernel
theorem dX8_decades_26 : decode cX8_decades 26 = .ok (.ireturn, 1) := by decide +kernel
theorem dX8_decades_27 : decode cX8_decades 27 = .ok (.aload_n 0, 1) := by decide +kernel
theorem dX8_decades_28 : decode cX8_decades 28 = .ok (.getfield 65, 3) := by decide +kernel
theorem dX8_decades_31 : decode cX8_decades 31 = .ok (.aload_n 0, 1) := by decide +kernel
theorem dX8_decades_32 : decode cX8_decades 32 = .ok (.getfield 10, 3) := by decide +kernel
theorem dX8_decades_35 : decode cX8_decades 35 = .ok (.getfield 100, 3) := by decide +kernel
theorem dX8_decades_38 : decode cX8_decades 38 = .ok (.invokevirtual 214, 3) := by decide +kernel
theorem dX8_decades_41 : decode cX8_decades 41 = .ok (.aload_n 0, 1) := by decide +kernel
theorem dX8_decades_42 : decode cX8_decades 42 = .ok (.iconst 1, 1) := by decide +kernel
theorem dX8_decades_43 : decode cX8_decades 43 = .ok (.putfield 326, 3) := by decide +kernel
theorem dX8_decades_46 : decode cX8_decades 46 = .ok (.aload_n 0, 1) := by decide +kernel
theorem dX8_decades_47 : decode cX8_decades 47 = .ok (.aload_n 0, 1) := by decide +kernel
theorem dX8_decades_48 : decode cX8_decades 48 = .ok (.getfield 21, 3) := by decide +kernel
theorem dX8_decades_51 : decode cX8_decades 51 = .ok (.aload_n 0, 1) := by decide +kernel
theorem dX8_decades_52 : decode cX8_decades 52 = .ok (.getfield 65, 3) := by decide +kernel
theorem dX8_decades_55 : decode cX8_decades 55 = .ok (.iload_n 1, 1) := by decide +kernel
theorem dX8_decades_56 : decode cX8_decades 56 = .ok (.iload_n 2, 1) := by decide +kernel
theorem dX8_decades_57 : decode cX8_decades 57 = .ok (.invokevirtual 330, 3) := by decide +kernel
theorem dX8_decades_60 : decode cX8_decades 60 = .ok (.invokevirtual 114, 3) := by decide +kernel
theorem dX8_decades_63 : decode cX8_decades 63 = .ok (.ireturn, 1) := by decide +kernel
theorem dX8_drawn_0 : decode cX8_drawn 0 = .ok (.iload_n 2, 1) := by decide +kernel
theorem dX8_drawn_1 : decode cX8_drawn 1 = .ok (.iconst 0, 1) := by decide +kernel
theorem dX8_drawn_2 : decode cX8_drawn 2 = .ok (.iconst 2, 1) := by decide +kernel
theorem dX8_drawn_3 : decode cX8_drawn 3 = .ok (.invokestatic 92, 3) := by decide +kernel
theorem dX8_drawn_6 : decode cX8_drawn 6 = .ok (.ifCond .eq 14, 3) := by decide +kernel
theorem dX8_drawn_9 : decode cX8_drawn 9 = .ok (.iload_n 1, 1) := by decide +kernel
theorem dX8_drawn_10 : decode cX8_drawn 10 = .ok (.invokestatic 89, 3) := by decide +kernel
theorem dX8_drawn_13 : decode cX8_drawn 13 = .ok (.ifCond .eq 7, 3) := by decide +kernel
theorem dX8_drawn_16 : decode cX8_drawn 16 = .ok (.iconst 1, 1) := by decide +kernel
theorem dX8_drawn_17 : decode cX8_drawn 17 = .ok (.goto 4, 3) := by decide +kernel
theorem dX8_drawn_20 : decode cX8_drawn 20 = .ok (.iconst 0, 1) := by decide +kernel
theorem dX8_drawn_21 : decode cX8_drawn 21 = .ok (.istore_n 3, 1) := by decide +kernel
theorem dX8_drawn_22 : decode cX8_drawn 22 = .ok (.iload_n 2, 1) := by decide +kernel
theorem dX8_drawn_23 : decode cX8_drawn 23 = .ok (.iconst 3, 1) := by decide +kernel
theorem dX8_drawn_24 : decode cX8_drawn 24 = .ok (.iconst 4, 1) := by decide +kernel
theorem dX8_drawn_25 : decode cX8_drawn 25 = .ok (.invokestatic 92, 3) := by decide +kernel
theorem dX8_drawn_28 : decode cX8_drawn 28 = .ok (.ifCond .eq 14, 3) := by decide +kernel
theorem dX8_drawn_31 : decode cX8_drawn 31 = .ok (.iload_n 1, 1) := by decide +kernel
theorem dX8_drawn_32 : decode cX8_drawn 32 = .ok (.invokestatic 85, 3) := by decide +kernel
theorem dX8_drawn_35 : decode cX8_drawn 35 = .ok (.ifCond .eq 7, 3) := by decide +kernel
theorem dX8_drawn_38 : decode cX8_drawn 38 = .ok (.iconst 1, 1) := by decide +kernel
theorem dX8_drawn_39 : decode cX8_drawn 39 = .ok (.goto 4, 3) := by decide +kernel
theorem dX8_drawn_42 : decode cX8_drawn 42 = .ok (.iconst 0, 1) := by decide +kernel
theorem dX8_drawn_43 : decode cX8_drawn 43 = .ok (.istore 4, 2) := by decide +kernel
theorem dX8_drawn_45 : decode cX8_drawn 45 = .ok (.aload_n 0, 1) := by decide +kernel
theorem dX8_drawn_46 : decode cX8_drawn 46 = .ok (.getfield 326, 3) := by decide +kernel
theorem dX8_drawn_49 : decode cX8_drawn 49 = .ok (.ifCond .eq 12, 3) := by decide +kernel
theorem dX8_drawn_52 : decode cX8_drawn 52 = .ok (.iload_n 3, 1) := by decide +kernel
theorem dX8_drawn_53 : decode cX8_drawn 53 = .ok (.ifCond .ne 12, 3) := by decide +kernel
theorem dX8_drawn_56 : decode cX8_drawn 56 = .ok (.iload 4, 2) := by decide +kernel
theorem dX8_drawn_58 : decode cX8_drawn 58 = .ok (.ifCond .ne 7, 3) := by decide +kernel
theorem dX8_drawn_61 : decode cX8_drawn 61 = .ok (.sipush (-1000), 3) := by decide +kernel
theorem dX8_drawn_64 : decode cX8_drawn 64 = .ok (.ireturn, 1) := by decide +kernel
theorem dX8_drawn_65 : decode cX8_drawn 65 = .ok (.iload_n 2, 1) := by decide +kernel
theorem dX8_drawn_66 : decode cX8_drawn 66 = .ok (.tableswitch 60 0 3 #[30, 39, 39, 51], 30) := by decide +kernel
theorem dX8_drawn_96 : decode cX8_drawn 96 = .ok (.aload_n 0, 1) := by decide +kernel
theorem dX8_drawn_97 : decode cX8_drawn 97 = .ok (.getfield 65, 3) := by decide +kernel
theorem dX8_drawn_100 : decode cX8_drawn 100 = .ok (.iload_n 1, 1) := by decide +kernel
theorem dX8_drawn_101 : decode cX8_drawn 101 = .ok (.invokevirtual 117, 3) := by decide +kernel
theorem dX8_drawn_104 : decode cX8_drawn 104 = .ok (.ireturn, 1) := by decide +kernel
theorem dX8_drawn_105 : decode cX8_drawn 105 = .ok (.aload_n 0, 1) := by decide +kernel
theorem dX8_drawn_106 : decode cX8_drawn 106 = .ok (.getfield 65, 3) := by decide +kernel
theorem dX8_drawn_109 : decode cX8_drawn 109 = .ok (.iload_n 2, 1) := by decide +kernel
theorem dX8_drawn_110 : decode cX8_drawn 110 = .ok (.iconst 1, 1) := by decide +kernel
theorem dX8_drawn_111 : decode cX8_drawn 111 = .ok (.isub, 1) := by decide +kernel
theorem dX8_drawn_112 : decode cX8_drawn 112 = .ok (.iload_n 1, 1) := by decide +kernel
theorem dX8_drawn_113 : decode cX8_drawn 113 = .ok (.invokevirtual 103, 3) := by decide +kernel
theorem dX8_drawn_116 : decode cX8_drawn 116 = .ok (.ireturn, 1) := by decide +kernel
theorem dX8_drawn_117 : decode cX8_drawn 117 = .ok (.aload_n 0, 1) := by decide +kernel
theorem dX8_drawn_118 : decode cX8_drawn 118 = .ok (.getfield 65, 3) := by decide +kernel
theorem dX8_drawn_121 : decode cX8_drawn 121 = .ok (.iload_n 1, 1) := by decide +kernel
theorem dX8_drawn_122 : decode cX8_drawn 122 = .ok (.invokevirtual 132, 3) := by decide +kernel
theorem dX8_drawn_125 : decode cX8_drawn 125 = .ok (.ireturn, 1) := by decide +kernel
theorem dX8_drawn_126 : decode cX8_drawn 126 = .ok (.aload_n 0, 1) := by decide +kernel
theorem dX8_drawn_127 : decode cX8_drawn 127 = .ok (.getfield 65, 3) := by decide +kernel
theorem dX8_drawn_130 : decode cX8_drawn 130 = .ok (.iload_n 1, 1) := by decide +kernel
theorem dX8_drawn_131 : decode cX8_drawn 131 = .ok (.invokevirtual 135, 3) := by decide +kernel
theorem dX8_drawn_134 : decode cX8_drawn 134 = .ok (.ireturn, 1) := by decide +kernel
theorem dX8_image_0 : decode cX8_image 0 = .ok (.iload_n 1, 1) := by decide +kernel
theorem dX8_image_1 : decode cX8_image 1 = .ok (.iconst 0, 1) := by decide +kernel
theorem dX8_image_2 : decode cX8_image 2 = .ok (.iconst 1, 1) := by decide +kernel
theorem dX8_image_3 : decode cX8_image 3 = .ok (.invokestatic 92, 3) := by decide +kernel
theorem dX8_image_6 : decode cX8_image 6 = .ok (.ifCond .ne 9, 3) := by decide +kernel
theorem dX8_image_9 : decode cX8_image 9 = .ok (.aload_n 0, 1) := by decide +kernel
theorem dX8_image_10 : decode cX8_image 10 = .ok (.iconst (-1), 1) := by decide +kernel
theorem dX8_image_11 : decode cX8_image 11 = .ok (.invokevirtual 96, 3) := by decide +kernel
theorem dX8_image_14 : decode cX8_image 14 = .ok (.ireturn, 1) := by decide +kernel
theorem dX8_image_15 : decode cX8_image 15 = .ok (.aload_n 0, 1) := by decide +kernel
theorem dX8_image_16 : decode cX8_image 16 = .ok (.getfield 41, 3) := by decide +kernel
theorem dX8_image_19 : decode cX8_image 19 = .ok (.iload_n 1, 1) := by decide +kernel
theorem dX8_image_20 : decode cX8_image 20 = .ok (.aaload, 1) := by decide +kernel
theorem dX8_image_21 : decode cX8_image 21 = .ok (.ifnonnull 16, 3) := by decide +kernel
theorem dX8_image_24 : decode cX8_image 24 = .ok (.aload_n 0, 1) := by decide +kernel
theorem dX8_image_25 : decode cX8_image 25 = .ok (.getfield 41, 3) := by decide +kernel
theorem dX8_image_28 : decode cX8_image 28 = .ok (.iload_n 1, 1) := by decide +kernel
theorem dX8_image_29 : decode cX8_image 29 = .ok (.new 7, 3) := by decide +kernel
theorem dX8_image_32 : decode cX8_image 32 = .ok (.dup, 1) := by decide +kernel
theorem dX8_image_33 : decode cX8_image 33 = .ok (.invokespecial 9, 3) := by decide +kernel
theorem dX8_image_36 : decode cX8_image 36 = .ok (.aastore, 1) := by decide +kernel
theorem dX8_image_37 : decode cX8_image 37 = .ok (.aload_n 0, 1) := by decide +kernel
theorem dX8_image_38 : decode cX8_image 38 = .ok (.getfield 41, 3) := by decide +kernel
theorem dX8_image_41 : decode cX8_image 41 = .ok (.iload_n 1, 1) := by decide +kernel
theorem dX8_image_42 : decode cX8_image 42 = .ok (.aaload, 1) := by decide +kernel
theorem dX8_image_43 : decode cX8_image 43 = .ok (.aload_n 0, 1) := by decide +kernel
theorem dX8_image_44 : decode cX8_image 44 = .ok (.getfield 10, 3) := by decide +kernel
theorem dX8_image_47 : decode cX8_image 47 = .ok (.invokevirtual 333, 3) := by decide +kernel
theorem dX8_image_50 : decode cX8_image 50 = .ok (.aload_n 0, 1) := by decide +kernel
theorem dX8_image_51 : decode cX8_image 51 = .ok (.iconst 0, 1) := by decide +kernel
theorem dX8_image_52 : decode cX8_image 52 = .ok (.invokevirtual 114, 3) := by decide +kernel
theorem dX8_image_55 : decode cX8_image 55 = .ok (.ireturn, 1) := by decide +kernel
theorem dX8_back_0 : decode cX8_back 0 = .ok (.iload_n 1, 1) := by decide +kernel
theorem dX8_back_1 : decode cX8_back 1 = .ok (.iconst 0, 1) := by decide +kernel
theorem dX8_back_2 : decode cX8_back 2 = .ok (.iconst 1, 1) := by decide +kernel
theorem dX8_back_3 : decode cX8_back 3 = .ok (.invokestatic 92, 3) := by decide +kernel
theorem dX8_back_6 : decode cX8_back 6 = .ok (.ifCond .ne 9, 3) := by decide +kernel
theorem dX8_back_9 : decode cX8_back 9 = .ok (.aload_n 0, 1) := by decide +kernel
theorem dX8_back_10 : decode cX8_back 10 = .ok (.iconst (-1), 1) := by decide +kernel
theorem dX8_back_11 : decode cX8_back 11 = .ok (.invokevirtual 96, 3) := by decide +kernel
theorem dX8_back_14 : decode cX8_back 14 = .ok (.ireturn, 1) := by decide +kernel
theorem dX8_back_15 : decode cX8_back 15 = .ok (.aload_n 0, 1) := by decide +kernel
theorem dX8_back_16 : decode cX8_back 16 = .ok (.getfield 41, 3) := by decide +kernel
theorem dX8_back_19 : decode cX8_back 19 = .ok (.iload_n 1, 1) := by decide +kernel
theorem dX8_back_20 : decode cX8_back 20 = .ok (.aaload, 1) := by decide +kernel
theorem dX8_back_21 : decode cX8_back 21 = .ok (.ifnonnull 10, 3) := by decide +kernel
theorem dX8_back_24 : decode cX8_back 24 = .ok (.aload_n 0, 1) := by decide +kernel
theorem dX8_back_25 : decode cX8_back 25 = .ok (.bipush (-2), 2) := by decide +kernel
theorem dX8_back_27 : decode cX8_back 27 = .ok (.invokevirtual 96, 3) := by decide +kernel
theorem dX8_back_30 : decode cX8_back 30 = .ok (.ireturn, 1) := by decide +kernel
theorem dX8_back_31 : decode cX8_back 31 = .ok (.aload_n 0, 1) := by decide +kernel
theorem dX8_back_32 : decode cX8_back 32 = .ok (.getfield 10, 3) := by decide +kernel
theorem dX8_back_35 : decode cX8_back 35 = .ok (.aload_n 0, 1) := by decide +kernel
theorem dX8_back_36 : decode cX8_back 36 = .ok (.getfield 41, 3) := by decide +kernel
theorem dX8_back_39 : decode cX8_back 39 = .ok (.iload_n 1, 1) := by decide +kernel
theorem dX8_back_40 : decode cX8_back 40 = .ok (.aaload, 1) := by decide +kernel
theorem dX8_back_41 : decode cX8_back 41 = .ok (.invokevirtual 333, 3) := by decide +kernel
theorem dX8_back_44 : decode cX8_back 44 = .ok (.aload_n 0, 1) := by decide +kernel
theorem dX8_back_45 : decode cX8_back 45 = .ok (.getfield 48, 3) := by decide +kernel
theorem dX8_back_48 : decode cX8_back 48 = .ok (.invokevirtual 111, 3) := by decide +kernel
theorem dX8_back_51 : decode cX8_back 51 = .ok (.aload_n 0, 1) := by decide +kernel
theorem dX8_back_52 : decode cX8_back 52 = .ok (.iconst 0, 1) := by decide +kernel
theorem dX8_back_53 : decode cX8_back 53 = .ok (.invokevirtual 114, 3) := by decide +kernel
theorem dX8_back_56 : decode cX8_back 56 = .ok (.ireturn, 1) := by decide +kernel
theorem dX8_count_0 : decode cX8_count 0 = .ok (.iload_n 1, 1) := by decide +kernel
theorem dX8_count_1 : decode cX8_count 1 = .ok (.tableswitch 122 0 10 #[59, 67, 75, 83, 91, 96, 96, 96, 105, 105, 114], 59) := by decide +kernel
theorem dX8_count_60 : decode cX8_count 60 = .ok (.aload_n 0, 1) := by decide +kernel
theorem dX8_count_61 : decode cX8_count 61 = .ok (.getfield 10, 3) := by decide +kernel
theorem dX8_count_64 : decode cX8_count 64 = .ok (.getfield 252, 3) := by decide +kernel
theorem dX8_count_67 : decode cX8_count 67 = .ok (.ireturn, 1) := by decide +kernel
theorem dX8_count_68 : decode cX8_count 68 = .ok (.aload_n 0, 1) := by decide +kernel
theorem dX8_count_69 : decode cX8_count 69 = .ok (.getfield 10, 3) := by decide +kernel
theorem dX8_count_72 : decode cX8_count 72 = .ok (.getfield 261, 3) := by decide +kernel
theorem dX8_count_75 : decode cX8_count 75 = .ok (.ireturn, 1) := by decide +kernel
theorem dX8_count_76 : decode cX8_count 76 = .ok (.aload_n 0, 1) := by decide +kernel
theorem dX8_count_77 : decode cX8_count 77 = .ok (.getfield 10, 3) := by decide +kernel
theorem dX8_count_80 : decode cX8_count 80 = .ok (.getfield 194, 3) := by decide +kernel
theorem dX8_count_83 : decode cX8_count 83 = .ok (.ireturn, 1) := by decide +kernel
theorem dX8_count_84 : decode cX8_count 84 = .ok (.aload_n 0, 1) := by decide +kernel
theorem dX8_count_85 : decode cX8_count 85 = .ok (.getfield 48, 3) := by decide +kernel
theorem dX8_count_88 : decode cX8_count 88 = .ok (.getfield 238, 3) := by decide +kernel
theorem dX8_count_91 : decode cX8_count 91 = .ok (.ireturn, 1) := by decide +kernel
theorem dX8_count_92 : decode cX8_count 92 = .ok (.aload_n 0, 1) := by decide +kernel
theorem dX8_count_93 : decode cX8_count 93 = .ok (.getfield 181, 3) := by decide +kernel
theorem dX8_count_96 : decode cX8_count 96 = .ok (.ireturn, 1) := by decide +kernel
theorem dX8_count_97 : decode cX8_count 97 = .ok (.aload_n 0, 1) := by decide +kernel
theorem dX8_count_98 : decode cX8_count 98 = .ok (.getfield 82, 3) := by decide +kernel
theorem dX8_count_101 : decode cX8_count 101 = .ok (.iload_n 1, 1) := by decide +kernel
theorem dX8_count_102 : decode cX8_count 102 = .ok (.iconst 5, 1) := by decide +kernel
theorem dX8_count_103 : decode cX8_count 103 = .ok (.isub, 1) := by decide +kernel
theorem dX8_count_104 : decode cX8_count 104 = .ok (.iaload, 1) := by decide +kernel
theorem dX8_count_105 : decode cX8_count 105 = .ok (.ireturn, 1) := by decide +kernel
theorem dX8_count_106 : decode cX8_count 106 = .ok (.aload_n 0, 1) := by decide +kernel
theorem dX8_count_107 : decode cX8_count 107 = .ok (.getfield 82, 3) := by decide +kernel
theorem dX8_count_110 : decode cX8_count 110 = .ok (.iload_n 1, 1) := by decide +kernel
theorem dX8_count_111 : decode cX8_count 111 = .ok (.iconst 4, 1) := by decide +kernel
theorem dX8_count_112 : decode cX8_count 112 = .ok (.isub, 1) := by decide +kernel
theorem dX8_count_113 : decode cX8_count 113 = .ok (.iaload, 1) := by decide +kernel
theorem dX8_count_114 : decode cX8_count 114 = .ok (.ireturn, 1) := by decide +kernel
theorem dX8_count_115 : decode cX8_count 115 = .ok (.aload_n 0, 1) := by decide +kernel
theorem dX8_count_116 : decode cX8_count 116 = .ok (.getfield 10, 3) := by decide +kernel
theorem dX8_count_119 : decode cX8_count 119 = .ok (.getfield 228, 3) := by decide +kernel
theorem dX8_count_122 : decode cX8_count 122 = .ok (.ireturn, 1) := by decide +kernel
theorem dX8_count_123 : decode cX8_count 123 = .ok (.aload_n 0, 1) := by decide +kernel
theorem dX8_count_124 : decode cX8_count 124 = .ok (.getfield 10, 3) := by decide +kernel
theorem dX8_count_127 : decode cX8_count 127 = .ok (.iload_n 1, 1) := by decide +kernel
theorem dX8_count_128 : decode cX8_count 128 = .ok (.bipush 11, 2) := by decide +kernel
theorem dX8_count_130 : decode cX8_count 130 = .ok (.isub, 1) := by decide +kernel
theorem dX8_count_131 : decode cX8_count 131 = .ok (.invokevirtual 170, 3) := by decide +kernel
theorem dX8_count_134 : decode cX8_count 134 = .ok (.ireturn, 1) := by decide +kernel
theorem dX8_status_0 : decode cX8_status 0 = .ok (.aload_n 0, 1) := by decide +kernel
theorem dX8_status_1 : decode cX8_status 1 = .ok (.getfield 335, 3) := by decide +kernel
theorem dX8_status_4 : decode cX8_status 4 = .ok (.ireturn, 1) := by decide +kernel
theorem dX8_within_0 : decode cX8_within 0 = .ok (.iload_n 0, 1) := by decide +kernel
theorem dX8_within_1 : decode cX8_within 1 = .ok (.iload_n 1, 1) := by decide +kernel
theorem dX8_within_2 : decode cX8_within 2 = .ok (.if_icmp .lt 12, 3) := by decide +kernel
theorem dX8_within_5 : decode cX8_within 5 = .ok (.iload_n 0, 1) := by decide +kernel
theorem dX8_within_6 : decode cX8_within 6 = .ok (.iload_n 2, 1) := by decide +kernel
theorem dX8_within_7 : decode cX8_within 7 = .ok (.if_icmp .gt 7, 3) := by decide +kernel
theorem dX8_within_10 : decode cX8_within 10 = .ok (.iconst 1, 1) := by decide +kernel
theorem dX8_within_11 : decode cX8_within 11 = .ok (.goto 4, 3) := by decide +kernel
theorem dX8_within_14 : decode cX8_within 14 = .ok (.iconst 0, 1) := by decide +kernel
theorem dX8_within_15 : decode cX8_within 15 = .ok (.ireturn, 1) := by decide +kernel
theorem dX8_isSide_0 : decode cX8_isSide 0 = .ok (.iload_n 0, 1) := by decide +kernel
theorem dX8_isSide_1 : decode cX8_isSide 1 = .ok (.iconst 0, 1) := by decide +kernel
theorem dX8_isSide_2 : decode cX8_isSide 2 = .ok (.iconst 1, 1) := by decide +kernel
theorem dX8_isSide_3 : decode cX8_isSide 3 = .ok (.invokestatic 92, 3) := by decide +kernel
theorem dX8_isSide_6 : decode cX8_isSide 6 = .ok (.ireturn, 1) := by decide +kernel
theorem dX8_isColumn_0 : decode cX8_isColumn 0 = .ok (.iload_n 0, 1) := by decide +kernel
theorem dX8_isColumn_1 : decode cX8_isColumn 1 = .ok (.iconst 0, 1) := by decide +kernel
theorem dX8_isColumn_2 : decode cX8_isColumn 2 = .ok (.bipush 7, 2) := by decide +kernel
theorem dX8_isColumn_4 : decode cX8_isColumn 4 = .ok (.invokestatic 92, 3) := by decide +kernel
theorem dX8_isColumn_7 : decode cX8_isColumn 7 = .ok (.ireturn, 1) := by decide +kernel
theorem dX8_isSign_0 : decode cX8_isSign 0 = .ok (.iload_n 0, 1) := by decide +kernel
theorem dX8_isSign_1 : decode cX8_isSign 1 = .ok (.iconst 0, 1) := by decide +kernel
theorem dX8_isSign_2 : decode cX8_isSign 2 = .ok (.bipush 7, 2) := by decide +kernel
theorem dX8_isSign_4 : decode cX8_isSign 4 = .ok (.invokestatic 92, 3) := by decide +kernel
theorem dX8_isSign_7 : decode cX8_isSign 7 = .ok (.ireturn, 1) := by decide +kernel
theorem dX8_isWord_0 : decode cX8_isWord 0 = .ok (.iload_n 0, 1) := by decide +kernel
theorem dX8_isWord_1 : decode cX8_isWord 1 = .ok (.iconst 0, 1) := by decide +kernel
theorem dX8_isWord_2 : decode cX8_isWord 2 = .ok (.bipush 7, 2) := by decide +kernel
theorem dX8_isWord_4 : decode cX8_isWord 4 = .ok (.invokestatic 92, 3) := by decide +kernel
theorem dX8_isWord_7 : decode cX8_isWord 7 = .ok (.ireturn, 1) := by decide +kernel
theorem dX8_pair_0 : decode cX8_pair 0 = .ok (.iload_n 0, 1) := by decide +kernel
theorem dX8_pair_1 : decode cX8_pair 1 = .ok (.iconst 2, 1) := by decide +kernel
theorem dX8_pair_2 : decode cX8_pair 2 = .ok (.imul, 1) := by decide +kernel
theorem dX8_pair_3 : decode cX8_pair 3 = .ok (.iload_n 1, 1) := by decide +kernel
theorem dX8_pair_4 : decode cX8_pair 4 = .ok (.iadd, 1) := by decide +kernel
theorem dX8_pair_5 : decode cX8_pair 5 = .ok (.ireturn, 1) := by decide +kernel
theorem dX8_countOrSet_0 : decode cX8_countOrSet 0 = .ok (.iload_n 1, 1) := by decide +kernel
theorem dX8_countOrSet_1 : decode cX8_countOrSet 1 = .ok (.ifCond .ne 8, 3) := by decide +kernel
theorem dX8_countOrSet_4 : decode cX8_countOrSet 4 = .ok (.iload_n 0, 1) := by decide +kernel
theorem dX8_countOrSet_5 : decode cX8_countOrSet 5 = .ok (.iconst (-1), 1) := by decide +kernel
theorem dX8_countOrSet_6 : decode cX8_countOrSet 6 = .ok (.if_icmp .ne 7, 3) := by decide +kernel
theorem dX8_countOrSet_9 : decode cX8_countOrSet 9 = .ok (.iload_n 0, 1) := by decide +kernel
theorem dX8_countOrSet_10 : decode cX8_countOrSet 10 = .ok (.goto 7, 3) := by decide +kernel
theorem dX8_countOrSet_13 : decode cX8_countOrSet 13 = .ok (.iload_n 0, 1) := by decide +kernel
theorem dX8_countOrSet_14 : decode cX8_countOrSet 14 = .ok (.invokestatic 338, 3) := by decide +kernel
theorem dX8_countOrSet_17 : decode cX8_countOrSet 17 = .ok (.ireturn, 1) := by decide +kernel
theorem dX8_accept_0 : decode cX8_accept 0 = .ok (.aload_n 0, 1) := by decide +kernel
theorem dX8_accept_1 : decode cX8_accept 1 = .ok (.iconst 0, 1) := by decide +kernel
theorem dX8_accept_2 : decode cX8_accept 2 = .ok (.putfield 335, 3) := by decide +kernel
theorem dX8_accept_5 : decode cX8_accept 5 = .ok (.iload_n 1, 1) := by decide +kernel
theorem dX8_accept_6 : decode cX8_accept 6 = .ok (.ireturn, 1) := by decide +kernel
theorem dX8_refuse_0 : decode cX8_refuse 0 = .ok (.aload_n 0, 1) := by decide +kernel
theorem dX8_refuse_1 : decode cX8_refuse 1 = .ok (.iload_n 1, 1) := by decide +kernel
theorem dX8_refuse_2 : decode cX8_refuse 2 = .ok (.putfield 335, 3) := by decide +kernel
theorem dX8_refuse_5 : decode cX8_refuse 5 = .ok (.iload_n 1, 1) := by decide +kernel
theorem dX8_refuse_6 : decode cX8_refuse 6 = .ok (.bipush (-6), 2) := by decide +kernel
theorem dX8_refuse_8 : decode cX8_refuse 8 = .ok (.iconst (-1), 1) := by decide +kernel
theorem dX8_refuse_9 : decode cX8_refuse 9 = .ok (.invokestatic 92, 3) := by decide +kernel
theorem dX8_refuse_12 : decode cX8_refuse 12 = .ok (.ifCond .eq 16, 3) := by decide +kernel
theorem dX8_refuse_15 : decode cX8_refuse 15 = .ok (.aload_n 0, 1) := by decide +kernel
theorem dX8_refuse_16 : decode cX8_refuse 16 = .ok (.getfield 82, 3) := by decide +kernel
theorem dX8_refuse_19 : decode cX8_refuse 19 = .ok (.iload_n 1, 1) := by decide +kernel
theorem dX8_refuse_20 : decode cX8_refuse 20 = .ok (.ineg, 1) := by decide +kernel
theorem dX8_refuse_21 : decode cX8_refuse 21 = .ok (.iconst 1, 1) := by decide +kernel
theorem dX8_refuse_22 : decode cX8_refuse 22 = .ok (.isub, 1) := by decide +kernel
theorem dX8_refuse_23 : decode cX8_refuse 23 = .ok (.dup2, 1) := by decide +kernel
theorem dX8_refuse_24 : decode cX8_refuse 24 = .ok (.iaload, 1) := by decide +kernel
theorem dX8_refuse_25 : decode cX8_refuse 25 = .ok (.iconst 1, 1) := by decide +kernel
theorem dX8_refuse_26 : decode cX8_refuse 26 = .ok (.iadd, 1) := by decide +kernel
theorem dX8_refuse_27 : decode cX8_refuse 27 = .ok (.iastore, 1) := by decide +kernel
theorem dX8_refuse_28 : decode cX8_refuse 28 = .ok (.iload_n 1, 1) := by decide +kernel
theorem dX8_refuse_29 : decode cX8_refuse 29 = .ok (.ireturn, 1) := by decide +kernel
theorem dX8_answer_0 : decode cX8_answer 0 = .ok (.iload_n 1, 1) := by decide +kernel
theorem dX8_answer_1 : decode cX8_answer 1 = .ok (.ifCond .ge 11, 3) := by decide +kernel
theorem dX8_answer_4 : decode cX8_answer 4 = .ok (.aload_n 0, 1) := by decide +kernel
theorem dX8_answer_5 : decode cX8_answer 5 = .ok (.iload_n 1, 1) := by decide +kernel
theorem dX8_answer_6 : decode cX8_answer 6 = .ok (.invokevirtual 96, 3) := by decide +kernel
theorem dX8_answer_9 : decode cX8_answer 9 = .ok (.goto 8, 3) := by decide +kernel
theorem dX8_answer_12 : decode cX8_answer 12 = .ok (.aload_n 0, 1) := by decide +kernel
theorem dX8_answer_13 : decode cX8_answer 13 = .ok (.iload_n 1, 1) := by decide +kernel
theorem dX8_answer_14 : decode cX8_answer 14 = .ok (.invokevirtual 114, 3) := by decide +kernel
theorem dX8_answer_17 : decode cX8_answer 17 = .ok (.ireturn, 1) := by decide +kernel
theorem dX8_addBytes_0 : decode cX8_addBytes 0 = .ok (.bipush 24, 2) := by decide +kernel
theorem dX8_addBytes_2 : decode cX8_addBytes 2 = .ok (.istore_n 2, 1) := by decide +kernel
theorem dX8_addBytes_3 : decode cX8_addBytes 3 = .ok (.iload_n 2, 1) := by decide +kernel
theorem dX8_addBytes_4 : decode cX8_addBytes 4 = .ok (.ifCond .lt 45, 3) := by decide +kernel
theorem dX8_addBytes_7 : decode cX8_addBytes 7 = .ok (.aload_n 0, 1) := by decide +kernel
theorem dX8_addBytes_8 : decode cX8_addBytes 8 = .ok (.getfield 181, 3) := by decide +kernel
theorem dX8_addBytes_11 : decode cX8_addBytes 11 = .ok (.sipush 400, 3) := by decide +kernel
theorem dX8_addBytes_14 : decode cX8_addBytes 14 = .ok (.if_icmp .ge 35, 3) := by decide +kernel
theorem dX8_addBytes_17 : decode cX8_addBytes 17 = .ok (.aload_n 0, 1) := by decide +kernel
theorem dX8_addBytes_18 : decode cX8_addBytes 18 = .ok (.getfield 68, 3) := by decide +kernel
theorem dX8_addBytes_21 : decode cX8_addBytes 21 = .ok (.aload_n 0, 1) := by decide +kernel
theorem dX8_addBytes_22 : decode cX8_addBytes 22 = .ok (.getfield 181, 3) := by decide +kernel
theorem dX8_addBytes_25 : decode cX8_addBytes 25 = .ok (.iload_n 1, 1) := by decide +kernel
theorem dX8_addBytes_26 : decode cX8_addBytes 26 = .ok (.iload_n 2, 1) := by decide +kernel
theorem dX8_addBytes_27 : decode cX8_addBytes 27 = .ok (.iushr, 1) := by decide +kernel
theorem dX8_addBytes_28 : decode cX8_addBytes 28 = .ok (.sipush 255, 3) := by decide +kernel
theorem dX8_addBytes_31 : decode cX8_addBytes 31 = .ok (.iand, 1) := by decide +kernel
theorem dX8_addBytes_32 : decode cX8_addBytes 32 = .ok (.iastore, 1) := by decide +kernel
theorem dX8_addBytes_33 : decode cX8_addBytes 33 = .ok (.aload_n 0, 1) := by decide +kernel
theorem dX8_addBytes_34 : decode cX8_addBytes 34 = .ok (.dup, 1) := by decide +kernel
theorem dX8_addBytes_35 : decode cX8_addBytes 35 = .ok (.getfield 181, 3) := by decide +kernel
theorem dX8_addBytes_38 : decode cX8_addBytes 38 = .ok (.iconst 1, 1) := by decide +kernel
theorem dX8_addBytes_39 : decode cX8_addBytes 39 = .ok (.iadd, 1) := by decide +kernel
theorem dX8_addBytes_40 : decode cX8_addBytes 40 = .ok (.putfield 181, 3) := by decide +kernel
theorem dX8_addBytes_43 : decode cX8_addBytes 43 = .ok (.iinc 2 (-8), 3) := by decide +kernel
theorem dX8_addBytes_46 : decode cX8_addBytes 46 = .ok (.goto (-43), 3) := by decide +kernel
theorem dX8_addBytes_49 : decode cX8_addBytes 49 = .ok (.return_, 1) := by decide +kernel
theorem dX8_tellMen_0 : decode cX8_tellMen 0 = .ok (.iload_n 1, 1) := by decide +kernel
theorem dX8_tellMen_1 : decode cX8_tellMen 1 = .ok (.iconst 3, 1) := by decide +kernel
theorem dX8_tellMen_2 : decode cX8_tellMen 2 = .ok (.iadd, 1) := by decide +kernel
theorem dX8_tellMen_3 : decode cX8_tellMen 3 = .ok (.aload_n 0, 1) := by decide +kernel
theorem dX8_tellMen_4 : decode cX8_tellMen 4 = .ok (.getfield 181, 3) := by decide +kernel
theorem dX8_tellMen_7 : decode cX8_tellMen 7 = .ok (.if_icmp .gt 46, 3) := by decide +kernel
theorem dX8_tellMen_10 : decode cX8_tellMen 10 = .ok (.aload_n 0, 1) := by decide +kernel
theorem dX8_tellMen_11 : decode cX8_tellMen 11 = .ok (.getfield 68, 3) := by decide +kernel
theorem dX8_tellMen_14 : decode cX8_tellMen 14 = .ok (.iload_n 1, 1) := by decide +kernel
theorem dX8_tellMen_15 : decode cX8_tellMen 15 = .ok (.iaload, 1) := by decide +kernel
theorem dX8_tellMen_16 : decode cX8_tellMen 16 = .ok (.invokestatic 85, 3) := by decide +kernel
theorem dX8_tellMen_19 : decode cX8_tellMen 19 = .ok (.ifCond .eq 34, 3) := by decide +kernel
theorem dX8_tellMen_22 : decode cX8_tellMen 22 = .ok (.aload_n 0, 1) := by decide +kernel
theorem dX8_tellMen_23 : decode cX8_tellMen 23 = .ok (.getfield 68, 3) := by decide +kernel
theorem dX8_tellMen_26 : decode cX8_tellMen 26 = .ok (.iload_n 1, 1) := by decide +kernel
theorem dX8_tellMen_27 : decode cX8_tellMen 27 = .ok (.iconst 1, 1) := by decide +kernel
theorem dX8_tellMen_28 : decode cX8_tellMen 28 = .ok (.iadd, 1) := by decide +kernel
theorem dX8_tellMen_29 : decode cX8_tellMen 29 = .ok (.iaload, 1) := by decide +kernel
theorem dX8_tellMen_30 : decode cX8_tellMen 30 = .ok (.invokestatic 89, 3) := by decide +kernel
theorem dX8_tellMen_33 : decode cX8_tellMen 33 = .ok (.ifCond .eq 20, 3) := by decide +kernel
theorem dX8_tellMen_36 : decode cX8_tellMen 36 = .ok (.aload_n 0, 1) := by decide +kernel
theorem dX8_tellMen_37 : decode cX8_tellMen 37 = .ok (.getfield 68, 3) := by decide +kernel
theorem dX8_tellMen_40 : decode cX8_tellMen 40 = .ok (.iload_n 1, 1) := by decide +kernel
theorem dX8_tellMen_41 : decode cX8_tellMen 41 = .ok (.iconst 2, 1) := by decide +kernel
theorem dX8_tellMen_42 : decode cX8_tellMen 42 = .ok (.iadd, 1) := by decide +kernel
theorem dX8_tellMen_43 : decode cX8_tellMen 43 = .ok (.iaload, 1) := by decide +kernel
theorem dX8_tellMen_44 : decode cX8_tellMen 44 = .ok (.iconst 0, 1) := by decide +kernel
theorem dX8_tellMen_45 : decode cX8_tellMen 45 = .ok (.bipush 99, 2) := by decide +kernel
theorem dX8_tellMen_47 : decode cX8_tellMen 47 = .ok (.invokestatic 92, 3) := by decide +kernel
theorem dX8_tellMen_50 : decode cX8_tellMen 50 = .ok (.ifCond .ne 5, 3) := by decide +kernel
theorem dX8_tellMen_53 : decode cX8_tellMen 53 = .ok (.iconst 0, 1) := by decide +kernel
theorem dX8_tellMen_54 : decode cX8_tellMen 54 = .ok (.ireturn, 1) := by decide +kernel
theorem dX8_tellMen_55 : decode cX8_tellMen 55 = .ok (.aload_n 0, 1) := by decide +kernel
theorem dX8_tellMen_56 : decode cX8_tellMen 56 = .ok (.getfield 10, 3) := by decide +kernel
theorem dX8_tellMen_59 : decode cX8_tellMen 59 = .ok (.getfield 100, 3) := by decide +kernel
theorem dX8_tellMen_62 : decode cX8_tellMen 62 = .ok (.aload_n 0, 1) := by decide +kernel
theorem dX8_tellMen_63 : decode cX8_tellMen 63 = .ok (.getfield 68, 3) := by decide +kernel
theorem dX8_tellMen_66 : decode cX8_tellMen 66 = .ok (.iload_n 1, 1) := by decide +kernel
theorem dX8_tellMen_67 : decode cX8_tellMen 67 = .ok (.iaload, 1) := by decide +kernel
theorem dX8_tellMen_68 : decode cX8_tellMen 68 = .ok (.aload_n 0, 1) := by decide +kernel
theorem dX8_tellMen_69 : decode cX8_tellMen 69 = .ok (.getfield 68, 3) := by decide +kernel
theorem dX8_tellMen_72 : decode cX8_tellMen 72 = .ok (.iload_n 1, 1) := by decide +kernel
theorem dX8_tellMen_73 : decode cX8_tellMen 73 = .ok (.iconst 1, 1) := by decide +kernel
theorem dX8_tellMen_74 : decode cX8_tellMen 74 = .ok (.iadd, 1) := by decide +kernel
theorem dX8_tellMen_75 : decode cX8_tellMen 75 = .ok (.iaload, 1) := by decide +kernel
theorem dX8_tellMen_76 : decode cX8_tellMen 76 = .ok (.aload_n 0, 1) := by decide +kernel
theorem dX8_tellMen_77 : decode cX8_tellMen 77 = .ok (.getfield 68, 3) := by decide +kernel
theorem dX8_tellMen_80 : decode cX8_tellMen 80 = .ok (.iload_n 1, 1) := by decide +kernel
theorem dX8_tellMen_81 : decode cX8_tellMen 81 = .ok (.iconst 2, 1) := by decide +kernel
theorem dX8_tellMen_82 : decode cX8_tellMen 82 = .ok (.iadd, 1) := by decide +kernel
theorem dX8_tellMen_83 : decode cX8_tellMen 83 = .ok (.iaload, 1) := by decide +kernel
theorem dX8_tellMen_84 : decode cX8_tellMen 84 = .ok (.invokevirtual 107, 3) := by decide +kernel
theorem dX8_tellMen_87 : decode cX8_tellMen 87 = .ok (.iconst 1, 1) := by decide +kernel
theorem dX8_tellMen_88 : decode cX8_tellMen 88 = .ok (.ireturn, 1) := by decide +kernel
theorem dX8_act_0 : decode cX8_act 0 = .ok (.aload_n 0, 1) := by decide +kernel
theorem dX8_act_1 : decode cX8_act 1 = .ok (.getfield 58, 3) := by decide +kernel
theorem dX8_act_4 : decode cX8_act 4 = .ok (.aload_n 0, 1) := by decide +kernel
theorem dX8_act_5 : decode cX8_act 5 = .ok (.getfield 10, 3) := by decide +kernel
theorem dX8_act_8 : decode cX8_act 8 = .ok (.getfield 100, 3) := by decide +kernel
theorem dX8_act_11 : decode cX8_act 11 = .ok (.invokevirtual 214, 3) := by decide +kernel
theorem dX8_act_14 : decode cX8_act 14 = .ok (.iconst (-1), 1) := by decide +kernel
theorem dX8_act_15 : decode cX8_act 15 = .ok (.istore 5, 2) := by decide +kernel
theorem dX8_act_17 : decode cX8_act 17 = .ok (.iload_n 1, 1) := by decide +kernel
theorem dX8_act_18 : decode cX8_act 18 = .ok (.tableswitch 114 260 263 #[30, 51, 74, 95], 30) := by decide +kernel
theorem dX8_act_48 : decode cX8_act 48 = .ok (.aload_n 0, 1) := by decide +kernel
theorem dX8_act_49 : decode cX8_act 49 = .ok (.getfield 21, 3) := by decide +kernel
theorem dX8_act_52 : decode cX8_act 52 = .ok (.aload_n 0, 1) := by decide +kernel
theorem dX8_act_53 : decode cX8_act 53 = .ok (.getfield 10, 3) := by decide +kernel
theorem dX8_act_56 : decode cX8_act 56 = .ok (.getfield 100, 3) := by decide +kernel
theorem dX8_act_59 : decode cX8_act 59 = .ok (.iload_n 2, 1) := by decide +kernel
theorem dX8_act_60 : decode cX8_act 60 = .ok (.iload_n 3, 1) := by decide +kernel
theorem dX8_act_61 : decode cX8_act 61 = .ok (.invokevirtual 343, 3) := by decide +kernel
theorem dX8_act_64 : decode cX8_act 64 = .ok (.istore 5, 2) := by decide +kernel
theorem dX8_act_66 : decode cX8_act 66 = .ok (.goto 66, 3) := by decide +kernel
theorem dX8_act_69 : decode cX8_act 69 = .ok (.aload_n 0, 1) := by decide +kernel
theorem dX8_act_70 : decode cX8_act 70 = .ok (.getfield 21, 3) := by decide +kernel
theorem dX8_act_73 : decode cX8_act 73 = .ok (.aload_n 0, 1) := by decide +kernel
theorem dX8_act_74 : decode cX8_act 74 = .ok (.getfield 10, 3) := by decide +kernel
theorem dX8_act_77 : decode cX8_act 77 = .ok (.getfield 100, 3) := by decide +kernel
theorem dX8_act_80 : decode cX8_act 80 = .ok (.iload_n 2, 1) := by decide +kernel
theorem dX8_act_81 : decode cX8_act 81 = .ok (.iload_n 3, 1) := by decide +kernel
theorem dX8_act_82 : decode cX8_act 82 = .ok (.iload 4, 2) := by decide +kernel
theorem dX8_act_84 : decode cX8_act 84 = .ok (.invokevirtual 346, 3) := by decide +kernel
theorem dX8_act_87 : decode cX8_act 87 = .ok (.istore 5, 2) := by decide +kernel
theorem dX8_act_89 : decode cX8_act 89 = .ok (.goto 43, 3) := by decide +kernel
theorem dX8_act_92 : decode cX8_act 92 = .ok (.aload_n 0, 1) := by decide +kernel
theorem dX8_act_93 : decode cX8_act 93 = .ok (.getfield 21, 3) := by decide +kernel
theorem dX8_act_96 : decode cX8_act 96 = .ok (.aload_n 0, 1) := by decide +kernel
theorem dX8_act_97 : decode cX8_act 97 = .ok (.getfield 10, 3) := by decide +kernel
theorem dX8_act_100 : decode cX8_act 100 = .ok (.getfield 100, 3) := by decide +kernel
theorem dX8_act_103 : decode cX8_act 103 = .ok (.iload_n 2, 1) := by decide +kernel
theorem dX8_act_104 : decode cX8_act 104 = .ok (.iload_n 3, 1) := by decide +kernel
theorem dX8_act_105 : decode cX8_act 105 = .ok (.invokevirtual 350, 3) := by decide +kernel
theorem dX8_act_108 : decode cX8_act 108 = .ok (.istore 5, 2) := by decide +kernel
theorem dX8_act_110 : decode cX8_act 110 = .ok (.goto 22, 3) := by decide +kernel
theorem dX8_act_113 : decode cX8_act 113 = .ok (.aload_n 0, 1) := by decide +kernel
theorem dX8_act_114 : decode cX8_act 114 = .ok (.getfield 21, 3) := by decide +kernel
theorem dX8_act_117 : decode cX8_act 117 = .ok (.aload_n 0, 1) := by decide +kernel
theorem dX8_act_118 : decode cX8_act 118 = .ok (.getfield 10, 3) := by decide +kernel
theorem dX8_act_121 : decode cX8_act 121 = .ok (.getfield 100, 3) := by decide +kernel
theorem dX8_act_124 : decode cX8_act 124 = .ok (.invokevirtual 353, 3) := by decide +kernel
theorem dX8_act_127 : decode cX8_act 127 = .ok (.istore 5, 2) := by decide +kernel
theorem dX8_act_129 : decode cX8_act 129 = .ok (.goto 3, 3) := by decide +kernel
theorem dX8_act_132 : decode cX8_act 132 = .ok (.iload 5, 2) := by decide +kernel
theorem dX8_act_134 : decode cX8_act 134 = .ok (.ifCond .lt 15, 3) := by decide +kernel
theorem dX8_act_137 : decode cX8_act 137 = .ok (.aload_n 0, 1) := by decide +kernel
theorem dX8_act_138 : decode cX8_act 138 = .ok (.getfield 48, 3) := by decide +kernel
theorem dX8_act_141 : decode cX8_act 141 = .ok (.iload_n 1, 1) := by decide +kernel
theorem dX8_act_142 : decode cX8_act 142 = .ok (.aload_n 0, 1) := by decide +kernel
theorem dX8_act_143 : decode cX8_act 143 = .ok (.getfield 58, 3) := by decide +kernel
theorem dX8_act_146 : decode cX8_act 146 = .ok (.invokevirtual 356, 3) := by decide +kernel
theorem dX8_act_149 : decode cX8_act 149 = .ok (.iload 5, 2) := by decide +kernel
theorem dX8_act_151 : decode cX8_act 151 = .ok (.ireturn, 1) := by decide +kernel
theorem dX8_runOrders_0 : decode cX8_runOrders 0 = .ok (.aload_n 0, 1) := by decide +kernel
theorem dX8_runOrders_1 : decode cX8_runOrders 1 = .ok (.getfield 21, 3) := by decide +kernel
theorem dX8_runOrders_4 : decode cX8_runOrders 4 = .ok (.getfield 360, 3) := by decide +kernel
theorem dX8_runOrders_7 : decode cX8_runOrders 7 = .ok (.astore_n 2, 1) := by decide +kernel
theorem dX8_runOrders_8 : decode cX8_runOrders 8 = .ok (.iconst 0, 1) := by decide +kernel
theorem dX8_runOrders_9 : decode cX8_runOrders 9 = .ok (.istore_n 3, 1) := by decide +kernel
theorem dX8_runOrders_10 : decode cX8_runOrders 10 = .ok (.iconst (-1), 1) := by decide +kernel
theorem dX8_runOrders_11 : decode cX8_runOrders 11 = .ok (.istore 4, 2) := by decide +kernel
theorem dX8_runOrders_13 : decode cX8_runOrders 13 = .ok (.iconst 0, 1) := by decide +kernel
theorem dX8_runOrders_14 : decode cX8_runOrders 14 = .ok (.istore 5, 2) := by decide +kernel
theorem dX8_runOrders_16 : decode cX8_runOrders 16 = .ok (.iload 5, 2) := by decide +kernel
theorem dX8_runOrders_18 : decode cX8_runOrders 18 = .ok (.aload_n 1, 1) := by decide +kernel
theorem dX8_runOrders_19 : decode cX8_runOrders 19 = .ok (.getfield 364, 3) := by decide +kernel
theorem dX8_runOrders_22 : decode cX8_runOrders 22 = .ok (.if_icmp .ge 224, 3) := by decide +kernel
theorem dX8_runOrders_25 : decode cX8_runOrders 25 = .ok (.iconst 0, 1) := by decide +kernel
theorem dX8_runOrders_26 : decode cX8_runOrders 26 = .ok (.istore 6, 2) := by decide +kernel
theorem dX8_runOrders_28 : decode cX8_runOrders 28 = .ok (.iload 6, 2) := by decide +kernel
theorem dX8_runOrders_30 : decode cX8_runOrders 30 = .ok (.aload_n 1, 1) := by decide +kernel
theorem dX8_runOrders_31 : decode cX8_runOrders 31 = .ok (.getfield 367, 3) := by decide +kernel
theorem dX8_runOrders_34 : decode cX8_runOrders 34 = .ok (.iload 5, 2) := by decide +kernel
theorem dX8_runOrders_36 : decode cX8_runOrders 36 = .ok (.iaload, 1) := by decide +kernel
theorem dX8_runOrders_37 : decode cX8_runOrders 37 = .ok (.if_icmp .ge 203, 3) := by decide +kernel
theorem dX8_runOrders_40 : decode cX8_runOrders 40 = .ok (.aload_n 2, 1) := by decide +kernel
theorem dX8_runOrders_41 : decode cX8_runOrders 41 = .ok (.aload_n 0, 1) := by decide +kernel
theorem dX8_runOrders_42 : decode cX8_runOrders 42 = .ok (.getfield 10, 3) := by decide +kernel
theorem dX8_runOrders_45 : decode cX8_runOrders 45 = .ok (.getfield 100, 3) := by decide +kernel
theorem dX8_runOrders_48 : decode cX8_runOrders 48 = .ok (.iload_n 3, 1) := by decide +kernel
theorem dX8_runOrders_49 : decode cX8_runOrders 49 = .ok (.iload 4, 2) := by decide +kernel
theorem dX8_runOrders_51 : decode cX8_runOrders 51 = .ok (.invokevirtual 370, 3) := by decide +kernel
theorem dX8_runOrders_54 : decode cX8_runOrders 54 = .ok (.aload_n 1, 1) := by decide +kernel
theorem dX8_runOrders_55 : decode cX8_runOrders 55 = .ok (.getfield 376, 3) := by decide +kernel
theorem dX8_runOrders_58 : decode cX8_runOrders 58 = .ok (.iload 5, 2) := by decide +kernel
theorem dX8_runOrders_60 : decode cX8_runOrders 60 = .ok (.iconst 4, 1) := by decide +kernel
theorem dX8_runOrders_61 : decode cX8_runOrders 61 = .ok (.imul, 1) := by decide +kernel
theorem dX8_runOrders_62 : decode cX8_runOrders 62 = .ok (.iconst 3, 1) := by decide +kernel
theorem dX8_runOrders_63 : decode cX8_runOrders 63 = .ok (.iadd, 1) := by decide +kernel
theorem dX8_runOrders_64 : decode cX8_runOrders 64 = .ok (.iaload, 1) := by decide +kernel
theorem dX8_runOrders_65 : decode cX8_runOrders 65 = .ok (.istore 7, 2) := by decide +kernel
theorem dX8_runOrders_67 : decode cX8_runOrders 67 = .ok (.iload 7, 2) := by decide +kernel
theorem dX8_runOrders_69 : decode cX8_runOrders 69 = .ok (.iconst (-1), 1) := by decide +kernel
theorem dX8_runOrders_70 : decode cX8_runOrders 70 = .ok (.if_icmp .eq 18, 3) := by decide +kernel
theorem dX8_runOrders_73 : decode cX8_runOrders 73 = .ok (.aload_n 2, 1) := by decide +kernel
theorem dX8_runOrders_74 : decode cX8_runOrders 74 = .ok (.aload_n 1, 1) := by decide +kernel
theorem dX8_runOrders_75 : decode cX8_runOrders 75 = .ok (.iload 7, 2) := by decide +kernel
theorem dX8_runOrders_77 : decode cX8_runOrders 77 = .ok (.invokevirtual 379, 3) := by decide +kernel
theorem dX8_runOrders_80 : decode cX8_runOrders 80 = .ok (.lconst 1, 1) := by decide +kernel
theorem dX8_runOrders_81 : decode cX8_runOrders 81 = .ok (.lcmp, 1) := by decide +kernel
theorem dX8_runOrders_82 : decode cX8_runOrders 82 = .ok (.ifCond .eq 6, 3) := by decide +kernel
theorem dX8_runOrders_85 : decode cX8_runOrders 85 = .ok (.goto 149, 3) := by decide +kernel
theorem dX8_runOrders_88 : decode cX8_runOrders 88 = .ok (.iconst 1, 1) := by decide +kernel
theorem dX8_runOrders_89 : decode cX8_runOrders 89 = .ok (.istore 8, 2) := by decide +kernel
theorem dX8_runOrders_91 : decode cX8_runOrders 91 = .ok (.iconst 0, 1) := by decide +kernel
theorem dX8_runOrders_92 : decode cX8_runOrders 92 = .ok (.istore 9, 2) := by decide +kernel
theorem dX8_runOrders_94 : decode cX8_runOrders 94 = .ok (.iload 9, 2) := by decide +kernel
theorem dX8_runOrders_96 : decode cX8_runOrders 96 = .ok (.iconst 3, 1) := by decide +kernel
theorem dX8_runOrders_97 : decode cX8_runOrders 97 = .ok (.if_icmp .ge 59, 3) := by decide +kernel
theorem dX8_runOrders_100 : decode cX8_runOrders 100 = .ok (.aload_n 2, 1) := by decide +kernel
theorem dX8_runOrders_101 : decode cX8_runOrders 101 = .ok (.aload_n 1, 1) := by decide +kernel
theorem dX8_runOrders_102 : decode cX8_runOrders 102 = .ok (.aload_n 1, 1) := by decide +kernel
theorem dX8_runOrders_103 : decode cX8_runOrders 103 = .ok (.getfield 376, 3) := by decide +kernel
theorem dX8_runOrders_106 : decode cX8_runOrders 106 = .ok (.iload 5, 2) := by decide +kernel
theorem dX8_runOrders_108 : decode cX8_runOrders 108 = .ok (.iconst 4, 1) := by decide +kernel
theorem dX8_runOrders_109 : decode cX8_runOrders 109 = .ok (.imul, 1) := by decide +kernel
theorem dX8_runOrders_110 : decode cX8_runOrders 110 = .ok (.iload 9, 2) := by decide +kernel
theorem dX8_runOrders_112 : decode cX8_runOrders 112 = .ok (.iadd, 1) := by decide +kernel
theorem dX8_runOrders_113 : decode cX8_runOrders 113 = .ok (.iaload, 1) := by decide +kernel
theorem dX8_runOrders_114 : decode cX8_runOrders 114 = .ok (.invokevirtual 379, 3) := by decide +kernel
theorem dX8_runOrders_117 : decode cX8_runOrders 117 = .ok (.lstore 10, 2) := by decide +kernel
