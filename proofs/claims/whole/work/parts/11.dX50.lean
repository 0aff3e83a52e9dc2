/-! ===== what each instruction is (printed rows) ===== -/
theorem dX5_init_0 : decode cX5_init 0 = .ok (.aload_n 0, 1) := by decide +kernel
theorem dX5_init_1 : decode cX5_init 1 = .ok (.invokespecial 3, 3) := by decide +kernel
theorem dX5_init_4 : decode cX5_init 4 = .ok (.aload_n 0, 1) := by decide +kernel
theorem dX5_init_5 : decode cX5_init 5 = .ok (.bipush 51, 2) := by decide +kernel
theorem dX5_init_7 : decode cX5_init 7 = .ok (.newarray .long, 2) := by decide +kernel
theorem dX5_init_9 : decode cX5_init 9 = .ok (.putfield 9, 3) := by decide +kernel
theorem dX5_init_12 : decode cX5_init 12 = .ok (.aload_n 0, 1) := by decide +kernel
theorem dX5_init_13 : decode cX5_init 13 = .ok (.bipush 15, 2) := by decide +kernel
theorem dX5_init_15 : decode cX5_init 15 = .ok (.newarray .int, 2) := by decide +kernel
theorem dX5_init_17 : decode cX5_init 17 = .ok (.putfield 15, 3) := by decide +kernel
theorem dX5_init_20 : decode cX5_init 20 = .ok (.return_, 1) := by decide +kernel
theorem dX5_setOrderWords_0 : decode cX5_setOrderWords 0 = .ok (.aload_n 0, 1) := by decide +kernel
theorem dX5_setOrderWords_1 : decode cX5_setOrderWords 1 = .ok (.getfield 15, 3) := by decide +kernel
theorem dX5_setOrderWords_4 : decode cX5_setOrderWords 4 = .ok (.iconst 0, 1) := by decide +kernel
theorem dX5_setOrderWords_5 : decode cX5_setOrderWords 5 = .ok (.aload_n 1, 1) := by decide +kernel
theorem dX5_setOrderWords_6 : decode cX5_setOrderWords 6 = .ok (.invokevirtual 19, 3) := by decide +kernel
theorem dX5_setOrderWords_9 : decode cX5_setOrderWords 9 = .ok (.iastore, 1) := by decide +kernel
theorem dX5_setOrderWords_10 : decode cX5_setOrderWords 10 = .ok (.aload_n 0, 1) := by decide +kernel
theorem dX5_setOrderWords_11 : decode cX5_setOrderWords 11 = .ok (.getfield 15, 3) := by decide +kernel
theorem dX5_setOrderWords_14 : decode cX5_setOrderWords 14 = .ok (.iconst 1, 1) := by decide +kernel
theorem dX5_setOrderWords_15 : decode cX5_setOrderWords 15 = .ok (.iload_n 2, 1) := by decide +kernel
theorem dX5_setOrderWords_16 : decode cX5_setOrderWords 16 = .ok (.iastore, 1) := by decide +kernel
theorem dX5_setOrderWords_17 : decode cX5_setOrderWords 17 = .ok (.aload_n 0, 1) := by decide +kernel
theorem dX5_setOrderWords_18 : decode cX5_setOrderWords 18 = .ok (.getfield 15, 3) := by decide +kernel
theorem dX5_setOrderWords_21 : decode cX5_setOrderWords 21 = .ok (.iconst 2, 1) := by decide +kernel
theorem dX5_setOrderWords_22 : decode cX5_setOrderWords 22 = .ok (.iload_n 3, 1) := by decide +kernel
theorem dX5_setOrderWords_23 : decode cX5_setOrderWords 23 = .ok (.iastore, 1) := by decide +kernel
theorem dX5_setOrderWords_24 : decode cX5_setOrderWords 24 = .ok (.iconst 0, 1) := by decide +kernel
theorem dX5_setOrderWords_25 : decode cX5_setOrderWords 25 = .ok (.istore 4, 2) := by decide +kernel
theorem dX5_setOrderWords_27 : decode cX5_setOrderWords 27 = .ok (.iload 4, 2) := by decide +kernel
theorem dX5_setOrderWords_29 : decode cX5_setOrderWords 29 = .ok (.bipush 8, 2) := by decide +kernel
theorem dX5_setOrderWords_31 : decode cX5_setOrderWords 31 = .ok (.if_icmp .ge 24, 3) := by decide +kernel
theorem dX5_setOrderWords_34 : decode cX5_setOrderWords 34 = .ok (.aload_n 0, 1) := by decide +kernel
theorem dX5_setOrderWords_35 : decode cX5_setOrderWords 35 = .ok (.getfield 15, 3) := by decide +kernel
theorem dX5_setOrderWords_38 : decode cX5_setOrderWords 38 = .ok (.iconst 3, 1) := by decide +kernel
theorem dX5_setOrderWords_39 : decode cX5_setOrderWords 39 = .ok (.iload 4, 2) := by decide +kernel
theorem dX5_setOrderWords_41 : decode cX5_setOrderWords 41 = .ok (.iadd, 1) := by decide +kernel
theorem dX5_setOrderWords_42 : decode cX5_setOrderWords 42 = .ok (.aload_n 1, 1) := by decide +kernel
theorem dX5_setOrderWords_43 : decode cX5_setOrderWords 43 = .ok (.iload 4, 2) := by decide +kernel
theorem dX5_setOrderWords_45 : decode cX5_setOrderWords 45 = .ok (.invokevirtual 25, 3) := by decide +kernel
theorem dX5_setOrderWords_48 : decode cX5_setOrderWords 48 = .ok (.iastore, 1) := by decide +kernel
theorem dX5_setOrderWords_49 : decode cX5_setOrderWords 49 = .ok (.iinc 4 1, 3) := by decide +kernel
theorem dX5_setOrderWords_52 : decode cX5_setOrderWords 52 = .ok (.goto (-25), 3) := by decide +kernel
theorem dX5_setOrderWords_55 : decode cX5_setOrderWords 55 = .ok (.iconst 0, 1) := by decide +kernel
theorem dX5_setOrderWords_56 : decode cX5_setOrderWords 56 = .ok (.istore 4, 2) := by decide +kernel
theorem dX5_setOrderWords_58 : decode cX5_setOrderWords 58 = .ok (.iload 4, 2) := by decide +kernel
theorem dX5_setOrderWords_60 : decode cX5_setOrderWords 60 = .ok (.iconst 2, 1) := by decide +kernel
theorem dX5_setOrderWords_61 : decode cX5_setOrderWords 61 = .ok (.if_icmp .ge 41, 3) := by decide +kernel
theorem dX5_setOrderWords_64 : decode cX5_setOrderWords 64 = .ok (.aload_n 0, 1) := by decide +kernel
theorem dX5_setOrderWords_65 : decode cX5_setOrderWords 65 = .ok (.getfield 15, 3) := by decide +kernel
theorem dX5_setOrderWords_68 : decode cX5_setOrderWords 68 = .ok (.bipush 11, 2) := by decide +kernel
theorem dX5_setOrderWords_70 : decode cX5_setOrderWords 70 = .ok (.iload 4, 2) := by decide +kernel
theorem dX5_setOrderWords_72 : decode cX5_setOrderWords 72 = .ok (.iadd, 1) := by decide +kernel
theorem dX5_setOrderWords_73 : decode cX5_setOrderWords 73 = .ok (.aload_n 1, 1) := by decide +kernel
theorem dX5_setOrderWords_74 : decode cX5_setOrderWords 74 = .ok (.iload 4, 2) := by decide +kernel
theorem dX5_setOrderWords_76 : decode cX5_setOrderWords 76 = .ok (.invokevirtual 29, 3) := by decide +kernel
theorem dX5_setOrderWords_79 : decode cX5_setOrderWords 79 = .ok (.iastore, 1) := by decide +kernel
theorem dX5_setOrderWords_80 : decode cX5_setOrderWords 80 = .ok (.aload_n 0, 1) := by decide +kernel
theorem dX5_setOrderWords_81 : decode cX5_setOrderWords 81 = .ok (.getfield 15, 3) := by decide +kernel
theorem dX5_setOrderWords_84 : decode cX5_setOrderWords 84 = .ok (.bipush 13, 2) := by decide +kernel
theorem dX5_setOrderWords_86 : decode cX5_setOrderWords 86 = .ok (.iload 4, 2) := by decide +kernel
theorem dX5_setOrderWords_88 : decode cX5_setOrderWords 88 = .ok (.iadd, 1) := by decide +kernel
theorem dX5_setOrderWords_89 : decode cX5_setOrderWords 89 = .ok (.aload_n 1, 1) := by decide +kernel
theorem dX5_setOrderWords_90 : decode cX5_setOrderWords 90 = .ok (.iload 4, 2) := by decide +kernel
theorem dX5_setOrderWords_92 : decode cX5_setOrderWords 92 = .ok (.invokevirtual 32, 3) := by decide +kernel
theorem dX5_setOrderWords_95 : decode cX5_setOrderWords 95 = .ok (.iastore, 1) := by decide +kernel
theorem dX5_setOrderWords_96 : decode cX5_setOrderWords 96 = .ok (.iinc 4 1, 3) := by decide +kernel
theorem dX5_setOrderWords_99 : decode cX5_setOrderWords 99 = .ok (.goto (-41), 3) := by decide +kernel
theorem dX5_setOrderWords_102 : decode cX5_setOrderWords 102 = .ok (.return_, 1) := by decide +kernel
theorem dX5_setLawWords_0 : decode cX5_setLawWords 0 = .ok (.aload_n 0, 1) := by decide +kernel
theorem dX5_setLawWords_1 : decode cX5_setLawWords 1 = .ok (.getfield 15, 3) := by decide +kernel
theorem dX5_setLawWords_4 : decode cX5_setLawWords 4 = .ok (.iconst 0, 1) := by decide +kernel
theorem dX5_setLawWords_5 : decode cX5_setLawWords 5 = .ok (.iload_n 2, 1) := by decide +kernel
theorem dX5_setLawWords_6 : decode cX5_setLawWords 6 = .ok (.iastore, 1) := by decide +kernel
theorem dX5_setLawWords_7 : decode cX5_setLawWords 7 = .ok (.aload_n 0, 1) := by decide +kernel
theorem dX5_setLawWords_8 : decode cX5_setLawWords 8 = .ok (.getfield 15, 3) := by decide +kernel
theorem dX5_setLawWords_11 : decode cX5_setLawWords 11 = .ok (.iconst 1, 1) := by decide +kernel
theorem dX5_setLawWords_12 : decode cX5_setLawWords 12 = .ok (.iconst (-1), 1) := by decide +kernel
theorem dX5_setLawWords_13 : decode cX5_setLawWords 13 = .ok (.iastore, 1) := by decide +kernel
theorem dX5_setLawWords_14 : decode cX5_setLawWords 14 = .ok (.aload_n 0, 1) := by decide +kernel
theorem dX5_setLawWords_15 : decode cX5_setLawWords 15 = .ok (.getfield 15, 3) := by decide +kernel
theorem dX5_setLawWords_18 : decode cX5_setLawWords 18 = .ok (.iconst 2, 1) := by decide +kernel
theorem dX5_setLawWords_19 : decode cX5_setLawWords 19 = .ok (.iconst (-1), 1) := by decide +kernel
theorem dX5_setLawWords_20 : decode cX5_setLawWords 20 = .ok (.iastore, 1) := by decide +kernel
theorem dX5_setLawWords_21 : decode cX5_setLawWords 21 = .ok (.aload_n 0, 1) := by decide +kernel
theorem dX5_setLawWords_22 : decode cX5_setLawWords 22 = .ok (.getfield 15, 3) := by decide +kernel
theorem dX5_setLawWords_25 : decode cX5_setLawWords 25 = .ok (.iconst 3, 1) := by decide +kernel
theorem dX5_setLawWords_26 : decode cX5_setLawWords 26 = .ok (.iconst (-1), 1) := by decide +kernel
theorem dX5_setLawWords_27 : decode cX5_setLawWords 27 = .ok (.iastore, 1) := by decide +kernel
theorem dX5_setLawWords_28 : decode cX5_setLawWords 28 = .ok (.aload_n 0, 1) := by decide +kernel
theorem dX5_setLawWords_29 : decode cX5_setLawWords 29 = .ok (.getfield 15, 3) := by decide +kernel
theorem dX5_setLawWords_32 : decode cX5_setLawWords 32 = .ok (.iconst 4, 1) := by decide +kernel
theorem dX5_setLawWords_33 : decode cX5_setLawWords 33 = .ok (.iconst (-1), 1) := by decide +kernel
theorem dX5_setLawWords_34 : decode cX5_setLawWords 34 = .ok (.iastore, 1) := by decide +kernel
theorem dX5_setLawWords_35 : decode cX5_setLawWords 35 = .ok (.aload_n 0, 1) := by decide +kernel
theorem dX5_setLawWords_36 : decode cX5_setLawWords 36 = .ok (.getfield 15, 3) := by decide +kernel
theorem dX5_setLawWords_39 : decode cX5_setLawWords 39 = .ok (.iconst 5, 1) := by decide +kernel
theorem dX5_setLawWords_40 : decode cX5_setLawWords 40 = .ok (.aload_n 1, 1) := by decide +kernel
theorem dX5_setLawWords_41 : decode cX5_setLawWords 41 = .ok (.iload_n 2, 1) := by decide +kernel
theorem dX5_setLawWords_42 : decode cX5_setLawWords 42 = .ok (.invokevirtual 29, 3) := by decide +kernel
theorem dX5_setLawWords_45 : decode cX5_setLawWords 45 = .ok (.iastore, 1) := by decide +kernel
theorem dX5_setLawWords_46 : decode cX5_setLawWords 46 = .ok (.aload_n 0, 1) := by decide +kernel
theorem dX5_setLawWords_47 : decode cX5_setLawWords 47 = .ok (.getfield 15, 3) := by decide +kernel
theorem dX5_setLawWords_50 : decode cX5_setLawWords 50 = .ok (.bipush 6, 2) := by decide +kernel
theorem dX5_setLawWords_52 : decode cX5_setLawWords 52 = .ok (.aload_n 1, 1) := by decide +kernel
theorem dX5_setLawWords_53 : decode cX5_setLawWords 53 = .ok (.iload_n 2, 1) := by decide +kernel
theorem dX5_setLawWords_54 : decode cX5_setLawWords 54 = .ok (.invokevirtual 32, 3) := by decide +kernel
theorem dX5_setLawWords_57 : decode cX5_setLawWords 57 = .ok (.iastore, 1) := by decide +kernel
theorem dX5_setLawWords_58 : decode cX5_setLawWords 58 = .ok (.aload_n 0, 1) := by decide +kernel
theorem dX5_setLawWords_59 : decode cX5_setLawWords 59 = .ok (.getfield 15, 3) := by decide +kernel
theorem dX5_setLawWords_62 : decode cX5_setLawWords 62 = .ok (.bipush 7, 2) := by decide +kernel
theorem dX5_setLawWords_64 : decode cX5_setLawWords 64 = .ok (.iconst (-1), 1) := by decide +kernel
theorem dX5_setLawWords_65 : decode cX5_setLawWords 65 = .ok (.iastore, 1) := by decide +kernel
theorem dX5_setLawWords_66 : decode cX5_setLawWords 66 = .ok (.aload_n 0, 1) := by decide +kernel
theorem dX5_setLawWords_67 : decode cX5_setLawWords 67 = .ok (.getfield 15, 3) := by decide +kernel
theorem dX5_setLawWords_70 : decode cX5_setLawWords 70 = .ok (.bipush 8, 2) := by decide +kernel
theorem dX5_setLawWords_72 : decode cX5_setLawWords 72 = .ok (.aload_n 1, 1) := by decide +kernel
theorem dX5_setLawWords_73 : decode cX5_setLawWords 73 = .ok (.invokevirtual 19, 3) := by decide +kernel
theorem dX5_setLawWords_76 : decode cX5_setLawWords 76 = .ok (.iastore, 1) := by decide +kernel
theorem dX5_setLawWords_77 : decode cX5_setLawWords 77 = .ok (.aload_n 0, 1) := by decide +kernel
theorem dX5_setLawWords_78 : decode cX5_setLawWords 78 = .ok (.getfield 15, 3) := by decide +kernel
theorem dX5_setLawWords_81 : decode cX5_setLawWords 81 = .ok (.bipush 9, 2) := by decide +kernel
theorem dX5_setLawWords_83 : decode cX5_setLawWords 83 = .ok (.iload_n 3, 1) := by decide +kernel
theorem dX5_setLawWords_84 : decode cX5_setLawWords 84 = .ok (.iastore, 1) := by decide +kernel
theorem dX5_setLawWords_85 : decode cX5_setLawWords 85 = .ok (.return_, 1) := by decide +kernel
theorem dX5_setColumnWords_0 : decode cX5_setColumnWords 0 = .ok (.aload_n 0, 1) := by decide +kernel
theorem dX5_setColumnWords_1 : decode cX5_setColumnWords 1 = .ok (.getfield 15, 3) := by decide +kernel
theorem dX5_setColumnWords_4 : decode cX5_setColumnWords 4 = .ok (.iconst 1, 1) := by decide +kernel
theorem dX5_setColumnWords_5 : decode cX5_setColumnWords 5 = .ok (.iload_n 3, 1) := by decide +kernel
theorem dX5_setColumnWords_6 : decode cX5_setColumnWords 6 = .ok (.iastore, 1) := by decide +kernel
theorem dX5_setColumnWords_7 : decode cX5_setColumnWords 7 = .ok (.aload_n 0, 1) := by decide +kernel
theorem dX5_setColumnWords_8 : decode cX5_setColumnWords 8 = .ok (.getfield 15, 3) := by decide +kernel
theorem dX5_setColumnWords_11 : decode cX5_setColumnWords 11 = .ok (.iconst 2, 1) := by decide +kernel
theorem dX5_setColumnWords_12 : decode cX5_setColumnWords 12 = .ok (.aload_n 1, 1) := by decide +kernel
theorem dX5_setColumnWords_13 : decode cX5_setColumnWords 13 = .ok (.iload_n 3, 1) := by decide +kernel
theorem dX5_setColumnWords_14 : decode cX5_setColumnWords 14 = .ok (.invokevirtual 25, 3) := by decide +kernel
theorem dX5_setColumnWords_17 : decode cX5_setColumnWords 17 = .ok (.iastore, 1) := by decide +kernel
theorem dX5_setColumnWords_18 : decode cX5_setColumnWords 18 = .ok (.aload_n 0, 1) := by decide +kernel
theorem dX5_setColumnWords_19 : decode cX5_setColumnWords 19 = .ok (.getfield 15, 3) := by decide +kernel
theorem dX5_setColumnWords_22 : decode cX5_setColumnWords 22 = .ok (.iconst 3, 1) := by decide +kernel
theorem dX5_setColumnWords_23 : decode cX5_setColumnWords 23 = .ok (.aload_n 1, 1) := by decide +kernel
theorem dX5_setColumnWords_24 : decode cX5_setColumnWords 24 = .ok (.iload_n 2, 1) := by decide +kernel
theorem dX5_setColumnWords_25 : decode cX5_setColumnWords 25 = .ok (.iload_n 3, 1) := by decide +kernel
theorem dX5_setColumnWords_26 : decode cX5_setColumnWords 26 = .ok (.invokevirtual 35, 3) := by decide +kernel
theorem dX5_setColumnWords_29 : decode cX5_setColumnWords 29 = .ok (.iastore, 1) := by decide +kernel
theorem dX5_setColumnWords_30 : decode cX5_setColumnWords 30 = .ok (.aload_n 0, 1) := by decide +kernel
theorem dX5_setColumnWords_31 : decode cX5_setColumnWords 31 = .ok (.getfield 15, 3) := by decide +kernel
theorem dX5_setColumnWords_34 : decode cX5_setColumnWords 34 = .ok (.iconst 4, 1) := by decide +kernel
theorem dX5_setColumnWords_35 : decode cX5_setColumnWords 35 = .ok (.aload_n 1, 1) := by decide +kernel
theorem dX5_setColumnWords_36 : decode cX5_setColumnWords 36 = .ok (.iconst 1, 1) := by decide +kernel
theorem dX5_setColumnWords_37 : decode cX5_setColumnWords 37 = .ok (.iload_n 2, 1) := by decide +kernel
theorem dX5_setColumnWords_38 : decode cX5_setColumnWords 38 = .ok (.isub, 1) := by decide +kernel
theorem dX5_setColumnWords_39 : decode cX5_setColumnWords 39 = .ok (.iload_n 3, 1) := by decide +kernel
theorem dX5_setColumnWords_40 : decode cX5_setColumnWords 40 = .ok (.invokevirtual 35, 3) := by decide +kernel
theorem dX5_setColumnWords_43 : decode cX5_setColumnWords 43 = .ok (.iastore, 1) := by decide +kernel
theorem dX5_setColumnWords_44 : decode cX5_setColumnWords 44 = .ok (.return_, 1) := by decide +kernel
theorem dX5_toldBy_0 : decode cX5_toldBy 0 = .ok (.aload_n 1, 1) := by decide +kernel
theorem dX5_toldBy_1 : decode cX5_toldBy 1 = .ok (.ifnonnull 5, 3) := by decide +kernel
theorem dX5_toldBy_4 : decode cX5_toldBy 4 = .ok (.iload_n 3, 1) := by decide +kernel
theorem dX5_toldBy_5 : decode cX5_toldBy 5 = .ok (.ireturn, 1) := by decide +kernel
theorem dX5_toldBy_6 : decode cX5_toldBy 6 = .ok (.aload_n 1, 1) := by decide +kernel
theorem dX5_toldBy_7 : decode cX5_toldBy 7 = .ok (.getfield 39, 3) := by decide +kernel
theorem dX5_toldBy_10 : decode cX5_toldBy 10 = .ok (.iconst 1, 1) := by decide +kernel
theorem dX5_toldBy_11 : decode cX5_toldBy 11 = .ok (.isub, 1) := by decide +kernel
theorem dX5_toldBy_12 : decode cX5_toldBy 12 = .ok (.istore 4, 2) := by decide +kernel
theorem dX5_toldBy_14 : decode cX5_toldBy 14 = .ok (.iload 4, 2) := by decide +kernel
theorem dX5_toldBy_16 : decode cX5_toldBy 16 = .ok (.ifCond .lt 91, 3) := by decide +kernel
theorem dX5_toldBy_19 : decode cX5_toldBy 19 = .ok (.aload_n 1, 1) := by decide +kernel
theorem dX5_toldBy_20 : decode cX5_toldBy 20 = .ok (.getfield 45, 3) := by decide +kernel
theorem dX5_toldBy_23 : decode cX5_toldBy 23 = .ok (.iload 4, 2) := by decide +kernel
theorem dX5_toldBy_25 : decode cX5_toldBy 25 = .ok (.iconst 4, 1) := by decide +kernel
theorem dX5_toldBy_26 : decode cX5_toldBy 26 = .ok (.imul, 1) := by decide +kernel
theorem dX5_toldBy_27 : decode cX5_toldBy 27 = .ok (.iconst 3, 1) := by decide +kernel
theorem dX5_toldBy_28 : decode cX5_toldBy 28 = .ok (.iadd, 1) := by decide +kernel
theorem dX5_toldBy_29 : decode cX5_toldBy 29 = .ok (.iaload, 1) := by decide +kernel
theorem dX5_toldBy_30 : decode cX5_toldBy 30 = .ok (.istore 5, 2) := by decide +kernel
theorem dX5_toldBy_32 : decode cX5_toldBy 32 = .ok (.aload_n 1, 1) := by decide +kernel
theorem dX5_toldBy_33 : decode cX5_toldBy 33 = .ok (.getfield 48, 3) := by decide +kernel
theorem dX5_toldBy_36 : decode cX5_toldBy 36 = .ok (.iload 4, 2) := by decide +kernel
theorem dX5_toldBy_38 : decode cX5_toldBy 38 = .ok (.iaload, 1) := by decide +kernel
theorem dX5_toldBy_39 : decode cX5_toldBy 39 = .ok (.iload_n 2, 1) := by decide +kernel
theorem dX5_toldBy_40 : decode cX5_toldBy 40 = .ok (.if_icmp .ne 61, 3) := by decide +kernel
theorem dX5_toldBy_43 : decode cX5_toldBy 43 = .ok (.iload 5, 2) := by decide +kernel
theorem dX5_toldBy_45 : decode cX5_toldBy 45 = .ok (.iconst (-1), 1) := by decide +kernel
theorem dX5_toldBy_46 : decode cX5_toldBy 46 = .ok (.if_icmp .eq 15, 3) := by decide +kernel
theorem dX5_toldBy_49 : decode cX5_toldBy 49 = .ok (.aload_n 0, 1) := by decide +kernel
theorem dX5_toldBy_50 : decode cX5_toldBy 50 = .ok (.aload_n 1, 1) := by decide +kernel
theorem dX5_toldBy_51 : decode cX5_toldBy 51 = .ok (.iload 5, 2) := by decide +kernel
theorem dX5_toldBy_53 : decode cX5_toldBy 53 = .ok (.invokevirtual 51, 3) := by decide +kernel
theorem dX5_toldBy_56 : decode cX5_toldBy 56 = .ok (.lconst 1, 1) := by decide +kernel
theorem dX5_toldBy_57 : decode cX5_toldBy 57 = .ok (.lcmp, 1) := by decide +kernel
theorem dX5_toldBy_58 : decode cX5_toldBy 58 = .ok (.ifCond .ne 43, 3) := by decide +kernel
theorem dX5_toldBy_61 : decode cX5_toldBy 61 = .ok (.iload_n 2, 1) := by decide +kernel
theorem dX5_toldBy_62 : decode cX5_toldBy 62 = .ok (.sipush 259, 3) := by decide +kernel
theorem dX5_toldBy_65 : decode cX5_toldBy 65 = .ok (.if_icmp .ne 7, 3) := by decide +kernel
theorem dX5_toldBy_68 : decode cX5_toldBy 68 = .ok (.lconst 1, 1) := by decide +kernel
theorem dX5_toldBy_69 : decode cX5_toldBy 69 = .ok (.goto 17, 3) := by decide +kernel
theorem dX5_toldBy_72 : decode cX5_toldBy 72 = .ok (.aload_n 0, 1) := by decide +kernel
theorem dX5_toldBy_73 : decode cX5_toldBy 73 = .ok (.aload_n 1, 1) := by decide +kernel
theorem dX5_toldBy_74 : decode cX5_toldBy 74 = .ok (.aload_n 1, 1) := by decide +kernel
theorem dX5_toldBy_75 : decode cX5_toldBy 75 = .ok (.getfield 45, 3) := by decide +kernel
theorem dX5_toldBy_78 : decode cX5_toldBy 78 = .ok (.iload 4, 2) := by decide +kernel
theorem dX5_toldBy_80 : decode cX5_toldBy 80 = .ok (.iconst 4, 1) := by decide +kernel
theorem dX5_toldBy_81 : decode cX5_toldBy 81 = .ok (.imul, 1) := by decide +kernel
theorem dX5_toldBy_82 : decode cX5_toldBy 82 = .ok (.iaload, 1) := by decide +kernel
theorem dX5_toldBy_83 : decode cX5_toldBy 83 = .ok (.invokevirtual 51, 3) := by decide +kernel
theorem dX5_toldBy_86 : decode cX5_toldBy 86 = .ok (.lstore 6, 2) := by decide +kernel
theorem dX5_toldBy_88 : decode cX5_toldBy 88 = .ok (.lload 6, 2) := by decide +kernel
theorem dX5_toldBy_90 : decode cX5_toldBy 90 = .ok (.ldc2_w 55, 3) := by decide +kernel
theorem dX5_toldBy_93 : decode cX5_toldBy 93 = .ok (.lcmp, 1) := by decide +kernel
theorem dX5_toldBy_94 : decode cX5_toldBy 94 = .ok (.ifCond .eq 7, 3) := by decide +kernel
theorem dX5_toldBy_97 : decode cX5_toldBy 97 = .ok (.lload 6, 2) := by decide +kernel
theorem dX5_toldBy_99 : decode cX5_toldBy 99 = .ok (.l2i, 1) := by decide +kernel
theorem dX5_toldBy_100 : decode cX5_toldBy 100 = .ok (.ireturn, 1) := by decide +kernel
theorem dX5_toldBy_101 : decode cX5_toldBy 101 = .ok (.iinc 4 (-1), 3) := by decide +kernel
theorem dX5_toldBy_104 : decode cX5_toldBy 104 = .ok (.goto (-90), 3) := by decide +kernel
theorem dX5_toldBy_107 : decode cX5_toldBy 107 = .ok (.iload_n 3, 1) := by decide +kernel
theorem dX5_toldBy_108 : decode cX5_toldBy 108 = .ok (.ireturn, 1) := by decide +kernel
theorem dX5_valueOf_0 : decode cX5_valueOf 0 = .ok (.iload_n 2, 1) := by decide +kernel
theorem dX5_valueOf_1 : decode cX5_valueOf 1 = .ok (.ifCond .ge 5, 3) := by decide +kernel
theorem dX5_valueOf_4 : decode cX5_valueOf 4 = .ok (.lconst 0, 1) := by decide +kernel
theorem dX5_valueOf_5 : decode cX5_valueOf 5 = .ok (.lreturn, 1) := by decide +kernel
theorem dX5_valueOf_6 : decode cX5_valueOf 6 = .ok (.iconst (-1), 1) := by decide +kernel
theorem dX5_valueOf_7 : decode cX5_valueOf 7 = .ok (.istore_n 3, 1) := by decide +kernel
theorem dX5_valueOf_8 : decode cX5_valueOf 8 = .ok (.iload_n 2, 1) := by decide +kernel
theorem dX5_valueOf_9 : decode cX5_valueOf 9 = .ok (.istore 4, 2) := by decide +kernel
theorem dX5_valueOf_11 : decode cX5_valueOf 11 = .ok (.iload 4, 2) := by decide +kernel
theorem dX5_valueOf_13 : decode cX5_valueOf 13 = .ok (.aload_n 1, 1) := by decide +kernel
theorem dX5_valueOf_14 : decode cX5_valueOf 14 = .ok (.getfield 57, 3) := by decide +kernel
theorem dX5_valueOf_17 : decode cX5_valueOf 17 = .ok (.if_icmp .ge 199, 3) := by decide +kernel
theorem dX5_valueOf_20 : decode cX5_valueOf 20 = .ok (.aload_n 1, 1) := by decide +kernel
theorem dX5_valueOf_21 : decode cX5_valueOf 21 = .ok (.getfield 60, 3) := by decide +kernel
theorem dX5_valueOf_24 : decode cX5_valueOf 24 = .ok (.iload 4, 2) := by decide +kernel
theorem dX5_valueOf_26 : decode cX5_valueOf 26 = .ok (.iaload, 1) := by decide +kernel
theorem dX5_valueOf_27 : decode cX5_valueOf 27 = .ok (.sipush 288, 3) := by decide +kernel
theorem dX5_valueOf_30 : decode cX5_valueOf 30 = .ok (.if_icmp .eq 186, 3) := by decide +kernel
theorem dX5_valueOf_33 : decode cX5_valueOf 33 = .ok (.aload_n 1, 1) := by decide +kernel
theorem dX5_valueOf_34 : decode cX5_valueOf 34 = .ok (.getfield 60, 3) := by decide +kernel
theorem dX5_valueOf_37 : decode cX5_valueOf 37 = .ok (.iload 4, 2) := by decide +kernel
theorem dX5_valueOf_39 : decode cX5_valueOf 39 = .ok (.iaload, 1) := by decide +kernel
theorem dX5_valueOf_40 : decode cX5_valueOf 40 = .ok (.istore 5, 2) := by decide +kernel
theorem dX5_valueOf_42 : decode cX5_valueOf 42 = .ok (.aload_n 1, 1) := by decide +kernel
theorem dX5_valueOf_43 : decode cX5_valueOf 43 = .ok (.getfield 63, 3) := by decide +kernel
theorem dX5_valueOf_46 : decode cX5_valueOf 46 = .ok (.iload 4, 2) := by decide +kernel
theorem dX5_valueOf_48 : decode cX5_valueOf 48 = .ok (.iaload, 1) := by decide +kernel
theorem dX5_valueOf_49 : decode cX5_valueOf 49 = .ok (.istore 6, 2) := by decide +kernel
theorem dX5_valueOf_51 : decode cX5_valueOf 51 = .ok (.iload 5, 2) := by decide +kernel
theorem dX5_valueOf_53 : decode cX5_valueOf 53 = .ok (.sipush 285, 3) := by decide +kernel
theorem dX5_valueOf_56 : decode cX5_valueOf 56 = .ok (.if_icmp .eq 11, 3) := by decide +kernel
theorem dX5_valueOf_59 : decode cX5_valueOf 59 = .ok (.iload 5, 2) := by decide +kernel
theorem dX5_valueOf_61 : decode cX5_valueOf 61 = .ok (.sipush 287, 3) := by decide +kernel
theorem dX5_valueOf_64 : decode cX5_valueOf 64 = .ok (.if_icmp .ne 71, 3) := by decide +kernel
theorem dX5_valueOf_67 : decode cX5_valueOf 67 = .ok (.iload_n 3, 1) := by decide +kernel
theorem dX5_valueOf_68 : decode cX5_valueOf 68 = .ok (.iconst 1, 1) := by decide +kernel
theorem dX5_valueOf_69 : decode cX5_valueOf 69 = .ok (.iadd, 1) := by decide +kernel
theorem dX5_valueOf_70 : decode cX5_valueOf 70 = .ok (.aload_n 0, 1) := by decide +kernel
theorem dX5_valueOf_71 : decode cX5_valueOf 71 = .ok (.getfield 9, 3) := by decide +kernel
theorem dX5_valueOf_74 : decode cX5_valueOf 74 = .ok (.arraylength, 1) := by decide +kernel
theorem dX5_valueOf_75 : decode cX5_valueOf 75 = .ok (.if_icmp .ge 135, 3) := by decide +kernel
theorem dX5_valueOf_78 : decode cX5_valueOf 78 = .ok (.iinc 3 1, 3) := by decide +kernel
theorem dX5_valueOf_81 : decode cX5_valueOf 81 = .ok (.iload 5, 2) := by decide +kernel
theorem dX5_valueOf_83 : decode cX5_valueOf 83 = .ok (.sipush 287, 3) := by decide +kernel
theorem dX5_valueOf_86 : decode cX5_valueOf 86 = .ok (.if_icmp .ne 18, 3) := by decide +kernel
theorem dX5_valueOf_89 : decode cX5_valueOf 89 = .ok (.iload 6, 2) := by decide +kernel
theorem dX5_valueOf_91 : decode cX5_valueOf 91 = .ok (.iconst 0, 1) := by decide +kernel
theorem dX5_valueOf_92 : decode cX5_valueOf 92 = .ok (.bipush 14, 2) := by decide +kernel
theorem dX5_valueOf_94 : decode cX5_valueOf 94 = .ok (.invokestatic 66, 3) := by decide +kernel
theorem dX5_valueOf_97 : decode cX5_valueOf 97 = .ok (.ifCond .eq 7, 3) := by decide +kernel
theorem dX5_valueOf_100 : decode cX5_valueOf 100 = .ok (.iconst 1, 1) := by decide +kernel
theorem dX5_valueOf_101 : decode cX5_valueOf 101 = .ok (.goto 4, 3) := by decide +kernel
theorem dX5_valueOf_104 : decode cX5_valueOf 104 = .ok (.iconst 0, 1) := by decide +kernel
theorem dX5_valueOf_105 : decode cX5_valueOf 105 = .ok (.istore 7, 2) := by decide +kernel
theorem dX5_valueOf_107 : decode cX5_valueOf 107 = .ok (.aload_n 0, 1) := by decide +kernel
theorem dX5_valueOf_108 : decode cX5_valueOf 108 = .ok (.getfield 9, 3) := by decide +kernel
theorem dX5_valueOf_111 : decode cX5_valueOf 111 = .ok (.iload_n 3, 1) := by decide +kernel
theorem dX5_valueOf_112 : decode cX5_valueOf 112 = .ok (.iload 7, 2) := by decide +kernel
theorem dX5_valueOf_114 : decode cX5_valueOf 114 = .ok (.ifCond .eq 14, 3) := by decide +kernel
theorem dX5_valueOf_117 : decode cX5_valueOf 117 = .ok (.aload_n 0, 1) := by decide +kernel
theorem dX5_valueOf_118 : decode cX5_valueOf 118 = .ok (.getfield 15, 3) := by decide +kernel
theorem dX5_valueOf_121 : decode cX5_valueOf 121 = .ok (.iload 6, 2) := by decide +kernel
theorem dX5_valueOf_123 : decode cX5_valueOf 123 = .ok (.iaload, 1) := by decide +kernel
theorem dX5_valueOf_124 : decode cX5_valueOf 124 = .ok (.i2l, 1) := by decide +kernel
theorem dX5_valueOf_125 : decode cX5_valueOf 125 = .ok (.goto 6, 3) := by decide +kernel
theorem dX5_valueOf_128 : decode cX5_valueOf 128 = .ok (.iload 6, 2) := by decide +kernel
theorem dX5_valueOf_130 : decode cX5_valueOf 130 = .ok (.i2l, 1) := by decide +kernel
theorem dX5_valueOf_131 : decode cX5_valueOf 131 = .ok (.lastore, 1) := by decide +kernel
theorem dX5_valueOf_132 : decode cX5_valueOf 132 = .ok (.goto 78, 3) := by decide +kernel
theorem dX5_valueOf_135 : decode cX5_valueOf 135 = .ok (.iload 5, 2) := by decide +kernel
theorem dX5_valueOf_137 : decode cX5_valueOf 137 = .ok (.sipush 271, 3) := by decide +kernel
theorem dX5_valueOf_140 : decode cX5_valueOf 140 = .ok (.if_icmp .ne 37, 3) := by decide +kernel
theorem dX5_valueOf_143 : decode cX5_valueOf 143 = .ok (.iload_n 3, 1) := by decide +kernel
theorem dX5_valueOf_144 : decode cX5_valueOf 144 = .ok (.ifCond .lt 66, 3) := by decide +kernel
theorem dX5_valueOf_147 : decode cX5_valueOf 147 = .ok (.aload_n 0, 1) := by decide +kernel
theorem dX5_valueOf_148 : decode cX5_valueOf 148 = .ok (.getfield 9, 3) := by decide +kernel
theorem dX5_valueOf_151 : decode cX5_valueOf 151 = .ok (.iload_n 3, 1) := by decide +kernel
theorem dX5_valueOf_152 : decode cX5_valueOf 152 = .ok (.laload, 1) := by decide +kernel
theorem dX5_valueOf_153 : decode cX5_valueOf 153 = .ok (.ldc2_w 55, 3) := by decide +kernel
theorem dX5_valueOf_156 : decode cX5_valueOf 156 = .ok (.lcmp, 1) := by decide +kernel
theorem dX5_valueOf_157 : decode cX5_valueOf 157 = .ok (.ifCond .eq 53, 3) := by decide +kernel
theorem dX5_valueOf_160 : decode cX5_valueOf 160 = .ok (.aload_n 0, 1) := by decide +kernel
theorem dX5_valueOf_161 : decode cX5_valueOf 161 = .ok (.getfield 9, 3) := by decide +kernel
theorem dX5_valueOf_164 : decode cX5_valueOf 164 = .ok (.iload_n 3, 1) := by decide +kernel
theorem dX5_valueOf_165 : decode cX5_valueOf 165 = .ok (.lconst 1, 1) := by decide +kernel
theorem dX5_valueOf_166 : decode cX5_valueOf 166 = .ok (.aload_n 0, 1) := by decide +kernel
theorem dX5_valueOf_167 : decode cX5_valueOf 167 = .ok (.getfield 9, 3) := by decide +kernel
theorem dX5_valueOf_170 : decode cX5_valueOf 170 = .ok (.iload_n 3, 1) := by decide +kernel
theorem dX5_valueOf_171 : decode cX5_valueOf 171 = .ok (.laload, 1) := by decide +kernel
theorem dX5_valueOf_172 : decode cX5_valueOf 172 = .ok (.lsub, 1) := by decide +kernel
theorem dX5_valueOf_173 : decode cX5_valueOf 173 = .ok (.lastore, 1) := by decide +kernel
theorem dX5_valueOf_174 : decode cX5_valueOf 174 = .ok (.goto 36, 3) := by decide +kernel
theorem dX5_valueOf_177 : decode cX5_valueOf 177 = .ok (.iload_n 3, 1) := by decide +kernel
theorem dX5_valueOf_178 : decode cX5_valueOf 178 = .ok (.iconst 1, 1) := by decide +kernel
theorem dX5_valueOf_179 : decode cX5_valueOf 179 = .ok (.if_icmp .lt 31, 3) := by decide +kernel
theorem dX5_valueOf_182 : decode cX5_valueOf 182 = .ok (.iinc 3 (-1), 3) := by decide +kernel
theorem dX5_valueOf_185 : decode cX5_valueOf 185 = .ok (.aload_n 0, 1) := by decide +kernel
theorem dX5_valueOf_186 : decode cX5_valueOf 186 = .ok (.getfield 9, 3) := by decide +kernel
theorem dX5_valueOf_189 : decode cX5_valueOf 189 = .ok (.iload_n 3, 1) := by decide +kernel
theorem dX5_valueOf_190 : decode cX5_valueOf 190 = .ok (.iload 5, 2) := by decide +kernel
theorem dX5_valueOf_192 : decode cX5_valueOf 192 = .ok (.aload_n 0, 1) := by decide +kernel
theorem dX5_valueOf_193 : decode cX5_valueOf 193 = .ok (.getfield 9, 3) := by decide +kernel
theorem dX5_valueOf_196 : decode cX5_valueOf 196 = .ok (.iload_n 3, 1) := by decide +kernel
theorem dX5_valueOf_197 : decode cX5_valueOf 197 = .ok (.laload, 1) := by decide +kernel
theorem dX5_valueOf_198 : decode cX5_valueOf 198 = .ok (.aload_n 0, 1) := by decide +kernel
theorem dX5_valueOf_199 : decode cX5_valueOf 199 = .ok (.getfield 9, 3) := by decide +kernel
theorem dX5_valueOf_202 : decode cX5_valueOf 202 = .ok (.iload_n 3, 1) := by decide +kernel
theorem dX5_valueOf_203 : decode cX5_valueOf 203 = .ok (.iconst 1, 1) := by decide +kernel
theorem dX5_valueOf_204 : decode cX5_valueOf 204 = .ok (.iadd, 1) := by decide +kernel
theorem dX5_valueOf_205 : decode cX5_valueOf 205 = .ok (.laload, 1) := by decide +kernel
theorem dX5_valueOf_206 : decode cX5_valueOf 206 = .ok (.invokestatic 70, 3) := by decide +kernel
theorem dX5_valueOf_209 : decode cX5_valueOf 209 = .ok (.lastore, 1) := by decide +kernel
theorem dX5_valueOf_210 : decode cX5_valueOf 210 = .ok (.iinc 4 1, 3) := by decide +kernel
theorem dX5_valueOf_213 : decode cX5_valueOf 213 = .ok (.goto (-202), 3) := by decide +kernel
theorem dX5_valueOf_216 : decode cX5_valueOf 216 = .ok (.iload_n 3, 1) := by decide +kernel
theorem dX5_valueOf_217 : decode cX5_valueOf 217 = .ok (.ifCond .ne 12, 3) := by decide +kernel
theorem dX5_valueOf_220 : decode cX5_valueOf 220 = .ok (.aload_n 0, 1) := by decide +kernel
theorem dX5_valueOf_221 : decode cX5_valueOf 221 = .ok (.getfield 9, 3) := by decide +kernel
theorem dX5_valueOf_224 : decode cX5_valueOf 224 = .ok (.iconst 0, 1) := by decide +kernel
theorem dX5_valueOf_225 : decode cX5_valueOf 225 = .ok (.laload, 1) := by decide +kernel
theorem dX5_valueOf_226 : decode cX5_valueOf 226 = .ok (.goto 6, 3) := by decide +kernel
theorem dX5_valueOf_229 : decode cX5_valueOf 229 = .ok (.ldc2_w 55, 3) := by decide +kernel
theorem dX5_valueOf_232 : decode cX5_valueOf 232 = .ok (.lreturn, 1) := by decide +kernel
theorem dX5_joined_0 : decode cX5_joined 0 = .ok (.iload_n 0, 1) := by decide +kernel
theorem dX5_joined_1 : decode cX5_joined 1 = .ok (.sipush 269, 3) := by decide +kernel
theorem dX5_joined_4 : decode cX5_joined 4 = .ok (.if_icmp .ne 15, 3) := by decide +kernel
theorem dX5_joined_7 : decode cX5_joined 7 = .ok (.lload_n 1, 1) := by decide +kernel
theorem dX5_joined_8 : decode cX5_joined 8 = .ok (.lconst 0, 1) := by decide +kernel
theorem dX5_joined_9 : decode cX5_joined 9 = .ok (.lcmp, 1) := by decide +kernel
theorem dX5_joined_10 : decode cX5_joined 10 = .ok (.ifCond .ne 7, 3) := by decide +kernel
theorem dX5_joined_13 : decode cX5_joined 13 = .ok (.lload_n 3, 1) := by decide +kernel
theorem dX5_joined_14 : decode cX5_joined 14 = .ok (.goto 4, 3) := by decide +kernel
theorem dX5_joined_17 : decode cX5_joined 17 = .ok (.lload_n 1, 1) := by decide +kernel
theorem dX5_joined_18 : decode cX5_joined 18 = .ok (.lreturn, 1) := by decide +kernel
theorem dX5_joined_19 : decode cX5_joined 19 = .ok (.iload_n 0, 1) := by decide +kernel
theorem dX5_joined_20 : decode cX5_joined 20 = .ok (.sipush 270, 3) := by decide +kernel
theorem dX5_joined_23 : decode cX5_joined 23 = .ok (.if_icmp .ne 15, 3) := by decide +kernel
theorem dX5_joined_26 : decode cX5_joined 26 = .ok (.lload_n 1, 1) := by decide +kernel
theorem dX5_joined_27 : decode cX5_joined 27 = .ok (.lconst 1, 1) := by decide +kernel
theorem dX5_joined_28 : decode cX5_joined 28 = .ok (.lcmp, 1) := by decide +kernel
theorem dX5_joined_29 : decode cX5_joined 29 = .ok (.ifCond .ne 7, 3) := by decide +kernel
theorem dX5_joined_32 : decode cX5_joined 32 = .ok (.lload_n 3, 1) := by decide +kernel
theorem dX5_joined_33 : decode cX5_joined 33 = .ok (.goto 4, 3) := by decide +kernel
theorem dX5_joined_36 : decode cX5_joined 36 = .ok (.lload_n 1, 1) := by decide +kernel
theorem dX5_joined_37 : decode cX5_joined 37 = .ok (.lreturn, 1) := by decide +kernel
theorem dX5_joined_38 : decode cX5_joined 38 = .ok (.lload_n 1, 1) := by decide +kernel
theorem dX5_joined_39 : decode cX5_joined 39 = .ok (.ldc2_w 55, 3) := by decide +kernel
theorem dX5_joined_42 : decode cX5_joined 42 = .ok (.lcmp, 1) := by decide +kernel
theorem dX5_joined_43 : decode cX5_joined 43 = .ok (.ifCond .eq 11, 3) := by decide +kernel
theorem dX5_joined_46 : decode cX5_joined 46 = .ok (.lload_n 3, 1) := by decide +kernel
theorem dX5_joined_47 : decode cX5_joined 47 = .ok (.ldc2_w 55, 3) := by decide +kernel
theorem dX5_joined_50 : decode cX5_joined 50 = .ok (.lcmp, 1) := by decide +kernel
theorem dX5_joined_51 : decode cX5_joined 51 = .ok (.ifCond .ne 7, 3) := by decide +kernel
theorem dX5_joined_54 : decode cX5_joined 54 = .ok (.ldc2_w 55, 3) := by decide +kernel
theorem dX5_joined_57 : decode cX5_joined 57 = .ok (.lreturn, 1) := by decide +kernel
theorem dX5_joined_58 : decode cX5_joined 58 = .ok (.ldc2_w 55, 3) := by decide +kernel
theorem dX5_joined_61 : decode cX5_joined 61 = .ok (.lstore 5, 2) := by decide +kernel
theorem dX5_joined_63 : decode cX5_joined 63 = .ok (.iload_n 0, 1) := by decide +kernel
theorem dX5_joined_64 : decode cX5_joined 64 = .ok (.tableswitch 232 37 62 #[164, 232, 232, 232, 232, 136, 120, 232, 128, 232, 144, 232, 232, 232, 232, 232, 232, 232, 232, 232, 232, 232, 232, 184, 216, 200], 120) := by decide +kernel
theorem dX5_joined_184 : decode cX5_joined 184 = .ok (.lload_n 1, 1) := by decide +kernel
theorem dX5_joined_185 : decode cX5_joined 185 = .ok (.lload_n 3, 1) := by decide +kernel
theorem dX5_joined_186 : decode cX5_joined 186 = .ok (.ladd, 1) := by decide +kernel
theorem dX5_joined_187 : decode cX5_joined 187 = .ok (.lstore 5, 2) := by decide +kernel
theorem dX5_joined_189 : decode cX5_joined 189 = .ok (.goto 107, 3) := by decide +kernel
theorem dX5_joined_192 : decode cX5_joined 192 = .ok (.lload_n 1, 1) := by decide +kernel
theorem dX5_joined_193 : decode cX5_joined 193 = .ok (.lload_n 3, 1) := by decide +kernel
theorem dX5_joined_194 : decode cX5_joined 194 = .ok (.lsub, 1) := by decide +kernel
theorem dX5_joined_195 : decode cX5_joined 195 = .ok (.lstore 5, 2) := by decide +kernel
theorem dX5_joined_197 : decode cX5_joined 197 = .ok (.goto 99, 3) := by decide +kernel
theorem dX5_joined_200 : decode cX5_joined 200 = .ok (.lload_n 1, 1) := by decide +kernel
theorem dX5_joined_201 : decode cX5_joined 201 = .ok (.lload_n 3, 1) := by decide +kernel
theorem dX5_joined_202 : decode cX5_joined 202 = .ok (.lmul, 1) := by decide +kernel
theorem dX5_joined_203 : decode cX5_joined 203 = .ok (.lstore 5, 2) := by decide +kernel
theorem dX5_joined_205 : decode cX5_joined 205 = .ok (.goto 91, 3) := by decide +kernel
theorem dX5_joined_208 : decode cX5_joined 208 = .ok (.lload_n 3, 1) := by decide +kernel
theorem dX5_joined_209 : decode cX5_joined 209 = .ok (.lconst 0, 1) := by decide +kernel
theorem dX5_joined_210 : decode cX5_joined 210 = .ok (.lcmp, 1) := by decide +kernel
theorem dX5_joined_211 : decode cX5_joined 211 = .ok (.ifCond .ne 9, 3) := by decide +kernel
theorem dX5_joined_214 : decode cX5_joined 214 = .ok (.ldc2_w 55, 3) := by decide +kernel
theorem dX5_joined_217 : decode cX5_joined 217 = .ok (.goto 6, 3) := by decide +kernel
theorem dX5_joined_220 : decode cX5_joined 220 = .ok (.lload_n 1, 1) := by decide +kernel
theorem dX5_joined_221 : decode cX5_joined 221 = .ok (.lload_n 3, 1) := by decide +kernel
theorem dX5_joined_222 : decode cX5_joined 222 = .ok (.ldiv, 1) := by decide +kernel
theorem dX5_joined_223 : decode cX5_joined 223 = .ok (.lstore 5, 2) := by decide +kernel
theorem dX5_joined_225 : decode cX5_joined 225 = .ok (.goto 71, 3) := by decide +kernel
theorem dX5_joined_228 : decode cX5_joined 228 = .ok (.lload_n 3, 1) := by decide +kernel
theorem dX5_joined_229 : decode cX5_joined 229 = .ok (.lconst 0, 1) := by decide +kernel
theorem dX5_joined_230 : decode cX5_joined 230 = .ok (.lcmp, 1) := by decide +kernel
theorem dX5_joined_231 : decode cX5_joined 231 = .ok (.ifCond .ne 9, 3) := by decide +kernel
theorem dX5_joined_234 : decode cX5_joined 234 = .ok (.ldc2_w 55, 3) := by decide +kernel
theorem dX5_joined_237 : decode cX5_joined 237 = .ok (.goto 6, 3) := by decide +kernel
theorem dX5_joined_240 : decode cX5_joined 240 = .ok (.lload_n 1, 1) := by decide +kernel
theorem dX5_joined_241 : decode cX5_joined 241 = .ok (.lload_n 3, 1) := by decide +kernel
theorem dX5_joined_242 : decode cX5_joined 242 = .ok (.lrem, 1) := by decide +kernel
theorem dX5_joined_243 : decode cX5_joined 243 = .ok (.lstore 5, 2) := by decide +kernel
theorem dX5_joined_245 : decode cX5_joined 245 = .ok (.goto 51, 3) := by decide +kernel
theorem dX5_joined_248 : decode cX5_joined 248 = .ok (.lload_n 1, 1) := by decide +kernel
theorem dX5_joined_249 : decode cX5_joined 249 = .ok (.lload_n 3, 1) := by decide +kernel
theorem dX5_joined_250 : decode cX5_joined 250 = .ok (.lcmp, 1) := by decide +kernel
theorem dX5_joined_251 : decode cX5_joined 251 = .ok (.ifCond .ge 7, 3) := by decide +kernel
theorem dX5_joined_254 : decode cX5_joined 254 = .ok (.lconst 1, 1) := by decide +kernel
theorem dX5_joined_255 : decode cX5_joined 255 = .ok (.goto 4, 3) := by decide +kernel
theorem dX5_joined_258 : decode cX5_joined 258 = .ok (.lconst 0, 1) := by decide +kernel
theorem dX5_joined_259 : decode cX5_joined 259 = .ok (.lstore 5, 2) := by decide +kernel
theorem dX5_joined_261 : decode cX5_joined 261 = .ok (.goto 35, 3) := by decide +kernel
theorem dX5_joined_264 : decode cX5_joined 264 = .ok (.lload_n 1, 1) := by decide +kernel
theorem dX5_joined_265 : decode cX5_joined 265 = .ok (.lload_n 3, 1) := by decide +kernel
theorem dX5_joined_266 : decode cX5_joined 266 = .ok (.lcmp, 1) := by decide +kernel
theorem dX5_joined_267 : decode cX5_joined 267 = .ok (.ifCond .le 7, 3) := by decide +kernel
theorem dX5_joined_270 : decode cX5_joined 270 = .ok (.lconst 1, 1) := by decide +kernel
theorem dX5_joined_271 : decode cX5_joined 271 = .ok (.goto 4, 3) := by decide +kernel
theorem dX5_joined_274 : decode cX5_joined 274 = .ok (.lconst 0, 1) := by decide +kernel
theorem dX5_joined_275 : decode cX5_joined 275 = .ok (.lstore 5, 2) := by decide +kernel
theorem dX5_joined_277 : decode cX5_joined 277 = .ok (.goto 19, 3) := by decide +kernel
theorem dX5_joined_280 : decode cX5_joined 280 = .ok (.lload_n 1, 1) := by decide +kernel
theorem dX5_joined_281 : decode cX5_joined 281 = .ok (.lload_n 3, 1) := by decide +kernel
theorem dX5_joined_282 : decode cX5_joined 282 = .ok (.lcmp, 1) := by decide +kernel
theorem dX5_joined_283 : decode cX5_joined 283 = .ok (.ifCond .ne 7, 3) := by decide +kernel
theorem dX5_joined_286 : decode cX5_joined 286 = .ok (.lconst 1, 1) := by decide +kernel
theorem dX5_joined_287 : decode cX5_joined 287 = .ok (.goto 4, 3) := by decide +kernel
theorem dX5_joined_290 : decode cX5_joined 290 = .ok (.lconst 0, 1) := by decide +kernel
theorem dX5_joined_291 : decode cX5_joined 291 = .ok (.lstore 5, 2) := by decide +kernel
theorem dX5_joined_293 : decode cX5_joined 293 = .ok (.goto 3, 3) := by decide +kernel
theorem dX5_joined_296 : decode cX5_joined 296 = .ok (.lload 5, 2) := by decide +kernel
theorem dX5_joined_298 : decode cX5_joined 298 = .ok (.ldc2_w 74, 3) := by decide +kernel
theorem dX5_joined_301 : decode cX5_joined 301 = .ok (.lcmp, 1) := by decide +kernel
theorem dX5_joined_302 : decode cX5_joined 302 = .ok (.ifCond .gt 12, 3) := by decide +kernel
theorem dX5_joined_305 : decode cX5_joined 305 = .ok (.lload 5, 2) := by decide +kernel
theorem dX5_joined_307 : decode cX5_joined 307 = .ok (.ldc2_w 76, 3) := by decide +kernel
theorem dX5_joined_310 : decode cX5_joined 310 = .ok (.lcmp, 1) := by decide +kernel
theorem dX5_joined_311 : decode cX5_joined 311 = .ok (.ifCond .ge 9, 3) := by decide +kernel
theorem dX5_joined_314 : decode cX5_joined 314 = .ok (.ldc2_w 55, 3) := by decide +kernel
theorem dX5_joined_317 : decode cX5_joined 317 = .ok (.goto 5, 3) := by decide +kernel
theorem dX5_joined_320 : decode cX5_joined 320 = .ok (.lload 5, 2) := by decide +kernel
theorem dX5_joined_322 : decode cX5_joined 322 = .ok (.lreturn, 1) := by decide +kernel
