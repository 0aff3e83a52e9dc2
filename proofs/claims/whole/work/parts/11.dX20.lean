/-! ===== what each instruction is (printed rows) ===== -/
theorem dX2_init_0 : decode cX2_init 0 = .ok (.aload_n 0, 1) := by decide +kernel
theorem dX2_init_1 : decode cX2_init 1 = .ok (.invokespecial 3, 3) := by decide +kernel
theorem dX2_init_4 : decode cX2_init 4 = .ok (.aload_n 0, 1) := by decide +kernel
theorem dX2_init_5 : decode cX2_init 5 = .ok (.bipush 8, 2) := by decide +kernel
theorem dX2_init_7 : decode cX2_init 7 = .ok (.newarray .int, 2) := by decide +kernel
theorem dX2_init_9 : decode cX2_init 9 = .ok (.putfield 9, 3) := by decide +kernel
theorem dX2_init_12 : decode cX2_init 12 = .ok (.aload_n 0, 1) := by decide +kernel
theorem dX2_init_13 : decode cX2_init 13 = .ok (.aload_n 1, 1) := by decide +kernel
theorem dX2_init_14 : decode cX2_init 14 = .ok (.putfield 15, 3) := by decide +kernel
theorem dX2_init_17 : decode cX2_init 17 = .ok (.aload_n 0, 1) := by decide +kernel
theorem dX2_init_18 : decode cX2_init 18 = .ok (.aload_n 2, 1) := by decide +kernel
theorem dX2_init_19 : decode cX2_init 19 = .ok (.putfield 19, 3) := by decide +kernel
theorem dX2_init_22 : decode cX2_init 22 = .ok (.return_, 1) := by decide +kernel
theorem dX2_isFewer_0 : decode cX2_isFewer 0 = .ok (.iload_n 1, 1) := by decide +kernel
theorem dX2_isFewer_1 : decode cX2_isFewer 1 = .ok (.iconst (-1), 1) := by decide +kernel
theorem dX2_isFewer_2 : decode cX2_isFewer 2 = .ok (.if_icmp .eq 14, 3) := by decide +kernel
theorem dX2_isFewer_5 : decode cX2_isFewer 5 = .ok (.iload_n 0, 1) := by decide +kernel
theorem dX2_isFewer_6 : decode cX2_isFewer 6 = .ok (.invokestatic 23, 3) := by decide +kernel
theorem dX2_isFewer_9 : decode cX2_isFewer 9 = .ok (.iload_n 1, 1) := by decide +kernel
theorem dX2_isFewer_10 : decode cX2_isFewer 10 = .ok (.invokestatic 23, 3) := by decide +kernel
theorem dX2_isFewer_13 : decode cX2_isFewer 13 = .ok (.if_icmp .ge 7, 3) := by decide +kernel
theorem dX2_isFewer_16 : decode cX2_isFewer 16 = .ok (.iconst 1, 1) := by decide +kernel
theorem dX2_isFewer_17 : decode cX2_isFewer 17 = .ok (.goto 4, 3) := by decide +kernel
theorem dX2_isFewer_20 : decode cX2_isFewer 20 = .ok (.iconst 0, 1) := by decide +kernel
theorem dX2_isFewer_21 : decode cX2_isFewer 21 = .ok (.ireturn, 1) := by decide +kernel
theorem dX2_treatyWords_0 : decode cX2_treatyWords 0 = .ok (.iconst (-1), 1) := by decide +kernel
theorem dX2_treatyWords_1 : decode cX2_treatyWords 1 = .ok (.istore_n 1, 1) := by decide +kernel
theorem dX2_treatyWords_2 : decode cX2_treatyWords 2 = .ok (.iconst 0, 1) := by decide +kernel
theorem dX2_treatyWords_3 : decode cX2_treatyWords 3 = .ok (.istore_n 2, 1) := by decide +kernel
theorem dX2_treatyWords_4 : decode cX2_treatyWords 4 = .ok (.iload_n 2, 1) := by decide +kernel
theorem dX2_treatyWords_5 : decode cX2_treatyWords 5 = .ok (.sipush 256, 3) := by decide +kernel
theorem dX2_treatyWords_8 : decode cX2_treatyWords 8 = .ok (.if_icmp .ge 51, 3) := by decide +kernel
theorem dX2_treatyWords_11 : decode cX2_treatyWords 11 = .ok (.iload_n 2, 1) := by decide +kernel
theorem dX2_treatyWords_12 : decode cX2_treatyWords 12 = .ok (.iload_n 1, 1) := by decide +kernel
theorem dX2_treatyWords_13 : decode cX2_treatyWords 13 = .ok (.invokestatic 29, 3) := by decide +kernel
theorem dX2_treatyWords_16 : decode cX2_treatyWords 16 = .ok (.ifCond .eq 37, 3) := by decide +kernel
theorem dX2_treatyWords_19 : decode cX2_treatyWords 19 = .ok (.aload_n 0, 1) := by decide +kernel
theorem dX2_treatyWords_20 : decode cX2_treatyWords 20 = .ok (.iload_n 2, 1) := by decide +kernel
theorem dX2_treatyWords_21 : decode cX2_treatyWords 21 = .ok (.iconst 0, 1) := by decide +kernel
theorem dX2_treatyWords_22 : decode cX2_treatyWords 22 = .ok (.invokevirtual 33, 3) := by decide +kernel
theorem dX2_treatyWords_25 : decode cX2_treatyWords 25 = .ok (.aload_n 0, 1) := by decide +kernel
theorem dX2_treatyWords_26 : decode cX2_treatyWords 26 = .ok (.getfield 15, 3) := by decide +kernel
theorem dX2_treatyWords_29 : decode cX2_treatyWords 29 = .ok (.getfield 37, 3) := by decide +kernel
theorem dX2_treatyWords_32 : decode cX2_treatyWords 32 = .ok (.if_icmp .lt 21, 3) := by decide +kernel
theorem dX2_treatyWords_35 : decode cX2_treatyWords 35 = .ok (.aload_n 0, 1) := by decide +kernel
theorem dX2_treatyWords_36 : decode cX2_treatyWords 36 = .ok (.iload_n 2, 1) := by decide +kernel
theorem dX2_treatyWords_37 : decode cX2_treatyWords 37 = .ok (.iconst 1, 1) := by decide +kernel
theorem dX2_treatyWords_38 : decode cX2_treatyWords 38 = .ok (.invokevirtual 33, 3) := by decide +kernel
theorem dX2_treatyWords_41 : decode cX2_treatyWords 41 = .ok (.aload_n 0, 1) := by decide +kernel
theorem dX2_treatyWords_42 : decode cX2_treatyWords 42 = .ok (.getfield 15, 3) := by decide +kernel
theorem dX2_treatyWords_45 : decode cX2_treatyWords 45 = .ok (.getfield 37, 3) := by decide +kernel
theorem dX2_treatyWords_48 : decode cX2_treatyWords 48 = .ok (.if_icmp .lt 5, 3) := by decide +kernel
theorem dX2_treatyWords_51 : decode cX2_treatyWords 51 = .ok (.iload_n 2, 1) := by decide +kernel
theorem dX2_treatyWords_52 : decode cX2_treatyWords 52 = .ok (.istore_n 1, 1) := by decide +kernel
theorem dX2_treatyWords_53 : decode cX2_treatyWords 53 = .ok (.iinc 2 1, 3) := by decide +kernel
theorem dX2_treatyWords_56 : decode cX2_treatyWords 56 = .ok (.goto (-52), 3) := by decide +kernel
theorem dX2_treatyWords_59 : decode cX2_treatyWords 59 = .ok (.iload_n 1, 1) := by decide +kernel
theorem dX2_treatyWords_60 : decode cX2_treatyWords 60 = .ok (.ireturn, 1) := by decide +kernel
theorem dX2_worthOf_0 : decode cX2_worthOf 0 = .ok (.iconst 0, 1) := by decide +kernel
theorem dX2_worthOf_1 : decode cX2_worthOf 1 = .ok (.istore_n 3, 1) := by decide +kernel
theorem dX2_worthOf_2 : decode cX2_worthOf 2 = .ok (.iconst 0, 1) := by decide +kernel
theorem dX2_worthOf_3 : decode cX2_worthOf 3 = .ok (.istore 4, 2) := by decide +kernel
theorem dX2_worthOf_5 : decode cX2_worthOf 5 = .ok (.iload 4, 2) := by decide +kernel
theorem dX2_worthOf_7 : decode cX2_worthOf 7 = .ok (.bipush 8, 2) := by decide +kernel
theorem dX2_worthOf_9 : decode cX2_worthOf 9 = .ok (.if_icmp .ge 36, 3) := by decide +kernel
theorem dX2_worthOf_12 : decode cX2_worthOf 12 = .ok (.iload_n 1, 1) := by decide +kernel
theorem dX2_worthOf_13 : decode cX2_worthOf 13 = .ok (.iload 4, 2) := by decide +kernel
theorem dX2_worthOf_15 : decode cX2_worthOf 15 = .ok (.ishr, 1) := by decide +kernel
theorem dX2_worthOf_16 : decode cX2_worthOf 16 = .ok (.iconst 1, 1) := by decide +kernel
theorem dX2_worthOf_17 : decode cX2_worthOf 17 = .ok (.iand, 1) := by decide +kernel
theorem dX2_worthOf_18 : decode cX2_worthOf 18 = .ok (.iconst 1, 1) := by decide +kernel
theorem dX2_worthOf_19 : decode cX2_worthOf 19 = .ok (.if_icmp .ne 20, 3) := by decide +kernel
theorem dX2_worthOf_22 : decode cX2_worthOf 22 = .ok (.iload_n 3, 1) := by decide +kernel
theorem dX2_worthOf_23 : decode cX2_worthOf 23 = .ok (.aload_n 0, 1) := by decide +kernel
theorem dX2_worthOf_24 : decode cX2_worthOf 24 = .ok (.getfield 15, 3) := by decide +kernel
theorem dX2_worthOf_27 : decode cX2_worthOf 27 = .ok (.getfield 43, 3) := by decide +kernel
theorem dX2_worthOf_30 : decode cX2_worthOf 30 = .ok (.iload 4, 2) := by decide +kernel
theorem dX2_worthOf_32 : decode cX2_worthOf 32 = .ok (.iload_n 2, 1) := by decide +kernel
theorem dX2_worthOf_33 : decode cX2_worthOf 33 = .ok (.invokestatic 46, 3) := by decide +kernel
theorem dX2_worthOf_36 : decode cX2_worthOf 36 = .ok (.iaload, 1) := by decide +kernel
theorem dX2_worthOf_37 : decode cX2_worthOf 37 = .ok (.iadd, 1) := by decide +kernel
theorem dX2_worthOf_38 : decode cX2_worthOf 38 = .ok (.istore_n 3, 1) := by decide +kernel
theorem dX2_worthOf_39 : decode cX2_worthOf 39 = .ok (.iinc 4 1, 3) := by decide +kernel
theorem dX2_worthOf_42 : decode cX2_worthOf 42 = .ok (.goto (-37), 3) := by decide +kernel
theorem dX2_worthOf_45 : decode cX2_worthOf 45 = .ok (.iload_n 3, 1) := by decide +kernel
theorem dX2_worthOf_46 : decode cX2_worthOf 46 = .ok (.ireturn, 1) := by decide +kernel
theorem dX2_probablyWith_0 : decode cX2_probablyWith 0 = .ok (.aload_n 0, 1) := by decide +kernel
theorem dX2_probablyWith_1 : decode cX2_probablyWith 1 = .ok (.iconst 0, 1) := by decide +kernel
theorem dX2_probablyWith_2 : decode cX2_probablyWith 2 = .ok (.invokevirtual 49, 3) := by decide +kernel
theorem dX2_probablyWith_5 : decode cX2_probablyWith 5 = .ok (.lstore_n 3, 1) := by decide +kernel
theorem dX2_probablyWith_6 : decode cX2_probablyWith 6 = .ok (.aload_n 0, 1) := by decide +kernel
theorem dX2_probablyWith_7 : decode cX2_probablyWith 7 = .ok (.iconst 1, 1) := by decide +kernel
theorem dX2_probablyWith_8 : decode cX2_probablyWith 8 = .ok (.invokevirtual 49, 3) := by decide +kernel
theorem dX2_probablyWith_11 : decode cX2_probablyWith 11 = .ok (.lstore 5, 2) := by decide +kernel
theorem dX2_probablyWith_13 : decode cX2_probablyWith 13 = .ok (.iload_n 1, 1) := by decide +kernel
theorem dX2_probablyWith_14 : decode cX2_probablyWith 14 = .ok (.invokestatic 53, 3) := by decide +kernel
theorem dX2_probablyWith_17 : decode cX2_probablyWith 17 = .ok (.ifCond .eq 27, 3) := by decide +kernel
theorem dX2_probablyWith_20 : decode cX2_probablyWith 20 = .ok (.lload_n 3, 1) := by decide +kernel
theorem dX2_probablyWith_21 : decode cX2_probablyWith 21 = .ok (.aload_n 0, 1) := by decide +kernel
theorem dX2_probablyWith_22 : decode cX2_probablyWith 22 = .ok (.iload_n 1, 1) := by decide +kernel
theorem dX2_probablyWith_23 : decode cX2_probablyWith 23 = .ok (.iconst 0, 1) := by decide +kernel
theorem dX2_probablyWith_24 : decode cX2_probablyWith 24 = .ok (.iload_n 2, 1) := by decide +kernel
theorem dX2_probablyWith_25 : decode cX2_probablyWith 25 = .ok (.invokevirtual 57, 3) := by decide +kernel
theorem dX2_probablyWith_28 : decode cX2_probablyWith 28 = .ok (.i2l, 1) := by decide +kernel
theorem dX2_probablyWith_29 : decode cX2_probablyWith 29 = .ok (.lmul, 1) := by decide +kernel
theorem dX2_probablyWith_30 : decode cX2_probablyWith 30 = .ok (.lstore_n 3, 1) := by decide +kernel
theorem dX2_probablyWith_31 : decode cX2_probablyWith 31 = .ok (.lload 5, 2) := by decide +kernel
theorem dX2_probablyWith_33 : decode cX2_probablyWith 33 = .ok (.aload_n 0, 1) := by decide +kernel
theorem dX2_probablyWith_34 : decode cX2_probablyWith 34 = .ok (.iload_n 1, 1) := by decide +kernel
theorem dX2_probablyWith_35 : decode cX2_probablyWith 35 = .ok (.iconst 1, 1) := by decide +kernel
theorem dX2_probablyWith_36 : decode cX2_probablyWith 36 = .ok (.iload_n 2, 1) := by decide +kernel
theorem dX2_probablyWith_37 : decode cX2_probablyWith 37 = .ok (.invokevirtual 57, 3) := by decide +kernel
theorem dX2_probablyWith_40 : decode cX2_probablyWith 40 = .ok (.i2l, 1) := by decide +kernel
theorem dX2_probablyWith_41 : decode cX2_probablyWith 41 = .ok (.lmul, 1) := by decide +kernel
theorem dX2_probablyWith_42 : decode cX2_probablyWith 42 = .ok (.lstore 5, 2) := by decide +kernel
theorem dX2_probablyWith_44 : decode cX2_probablyWith 44 = .ok (.lload_n 3, 1) := by decide +kernel
theorem dX2_probablyWith_45 : decode cX2_probablyWith 45 = .ok (.lload 5, 2) := by decide +kernel
theorem dX2_probablyWith_47 : decode cX2_probablyWith 47 = .ok (.ladd, 1) := by decide +kernel
theorem dX2_probablyWith_48 : decode cX2_probablyWith 48 = .ok (.lstore 7, 2) := by decide +kernel
theorem dX2_probablyWith_50 : decode cX2_probablyWith 50 = .ok (.lload 7, 2) := by decide +kernel
theorem dX2_probablyWith_52 : decode cX2_probablyWith 52 = .ok (.lconst 0, 1) := by decide +kernel
theorem dX2_probablyWith_53 : decode cX2_probablyWith 53 = .ok (.lcmp, 1) := by decide +kernel
theorem dX2_probablyWith_54 : decode cX2_probablyWith 54 = .ok (.ifCond .gt 8, 3) := by decide +kernel
theorem dX2_probablyWith_57 : decode cX2_probablyWith 57 = .ok (.ldc 61, 2) := by decide +kernel
theorem dX2_probablyWith_59 : decode cX2_probablyWith 59 = .ok (.goto 12, 3) := by decide +kernel
theorem dX2_probablyWith_62 : decode cX2_probablyWith 62 = .ok (.lload_n 3, 1) := by decide +kernel
theorem dX2_probablyWith_63 : decode cX2_probablyWith 63 = .ok (.ldc2_w 62, 3) := by decide +kernel
theorem dX2_probablyWith_66 : decode cX2_probablyWith 66 = .ok (.lmul, 1) := by decide +kernel
theorem dX2_probablyWith_67 : decode cX2_probablyWith 67 = .ok (.lload 7, 2) := by decide +kernel
theorem dX2_probablyWith_69 : decode cX2_probablyWith 69 = .ok (.ldiv, 1) := by decide +kernel
theorem dX2_probablyWith_70 : decode cX2_probablyWith 70 = .ok (.l2i, 1) := by decide +kernel
theorem dX2_probablyWith_71 : decode cX2_probablyWith 71 = .ok (.ireturn, 1) := by decide +kernel
theorem dX2_partsOf_0 : decode cX2_partsOf 0 = .ok (.lconst 1, 1) := by decide +kernel
theorem dX2_partsOf_1 : decode cX2_partsOf 1 = .ok (.lstore_n 2, 1) := by decide +kernel
theorem dX2_partsOf_2 : decode cX2_partsOf 2 = .ok (.iconst 0, 1) := by decide +kernel
theorem dX2_partsOf_3 : decode cX2_partsOf 3 = .ok (.istore 4, 2) := by decide +kernel
theorem dX2_partsOf_5 : decode cX2_partsOf 5 = .ok (.iload 4, 2) := by decide +kernel
theorem dX2_partsOf_7 : decode cX2_partsOf 7 = .ok (.aload_n 0, 1) := by decide +kernel
theorem dX2_partsOf_8 : decode cX2_partsOf 8 = .ok (.getfield 15, 3) := by decide +kernel
theorem dX2_partsOf_11 : decode cX2_partsOf 11 = .ok (.getfield 64, 3) := by decide +kernel
theorem dX2_partsOf_14 : decode cX2_partsOf 14 = .ok (.if_icmp .ge 45, 3) := by decide +kernel
theorem dX2_partsOf_17 : decode cX2_partsOf 17 = .ok (.iload 4, 2) := by decide +kernel
theorem dX2_partsOf_19 : decode cX2_partsOf 19 = .ok (.bipush 8, 2) := by decide +kernel
theorem dX2_partsOf_21 : decode cX2_partsOf 21 = .ok (.if_icmp .ge 38, 3) := by decide +kernel
theorem dX2_partsOf_24 : decode cX2_partsOf 24 = .ok (.lload_n 2, 1) := by decide +kernel
theorem dX2_partsOf_25 : decode cX2_partsOf 25 = .ok (.aload_n 0, 1) := by decide +kernel
theorem dX2_partsOf_26 : decode cX2_partsOf 26 = .ok (.aload_n 0, 1) := by decide +kernel
theorem dX2_partsOf_27 : decode cX2_partsOf 27 = .ok (.getfield 15, 3) := by decide +kernel
theorem dX2_partsOf_30 : decode cX2_partsOf 30 = .ok (.getfield 67, 3) := by decide +kernel
theorem dX2_partsOf_33 : decode cX2_partsOf 33 = .ok (.iload 4, 2) := by decide +kernel
theorem dX2_partsOf_35 : decode cX2_partsOf 35 = .ok (.iaload, 1) := by decide +kernel
theorem dX2_partsOf_36 : decode cX2_partsOf 36 = .ok (.iload_n 1, 1) := by decide +kernel
theorem dX2_partsOf_37 : decode cX2_partsOf 37 = .ok (.aload_n 0, 1) := by decide +kernel
theorem dX2_partsOf_38 : decode cX2_partsOf 38 = .ok (.getfield 15, 3) := by decide +kernel
theorem dX2_partsOf_41 : decode cX2_partsOf 41 = .ok (.getfield 70, 3) := by decide +kernel
theorem dX2_partsOf_44 : decode cX2_partsOf 44 = .ok (.iload 4, 2) := by decide +kernel
theorem dX2_partsOf_46 : decode cX2_partsOf 46 = .ok (.iaload, 1) := by decide +kernel
theorem dX2_partsOf_47 : decode cX2_partsOf 47 = .ok (.invokevirtual 57, 3) := by decide +kernel
theorem dX2_partsOf_50 : decode cX2_partsOf 50 = .ok (.i2l, 1) := by decide +kernel
theorem dX2_partsOf_51 : decode cX2_partsOf 51 = .ok (.lmul, 1) := by decide +kernel
theorem dX2_partsOf_52 : decode cX2_partsOf 52 = .ok (.lstore_n 2, 1) := by decide +kernel
theorem dX2_partsOf_53 : decode cX2_partsOf 53 = .ok (.iinc 4 1, 3) := by decide +kernel
theorem dX2_partsOf_56 : decode cX2_partsOf 56 = .ok (.goto (-51), 3) := by decide +kernel
theorem dX2_partsOf_59 : decode cX2_partsOf 59 = .ok (.lload_n 2, 1) := by decide +kernel
theorem dX2_partsOf_60 : decode cX2_partsOf 60 = .ok (.lreturn, 1) := by decide +kernel
theorem dX2_partAt_0 : decode cX2_partAt 0 = .ok (.aload_n 0, 1) := by decide +kernel
theorem dX2_partAt_1 : decode cX2_partAt 1 = .ok (.getfield 15, 3) := by decide +kernel
theorem dX2_partAt_4 : decode cX2_partAt 4 = .ok (.getfield 73, 3) := by decide +kernel
theorem dX2_partAt_7 : decode cX2_partAt 7 = .ok (.iload_n 1, 1) := by decide +kernel
theorem dX2_partAt_8 : decode cX2_partAt 8 = .ok (.iload_n 2, 1) := by decide +kernel
theorem dX2_partAt_9 : decode cX2_partAt 9 = .ok (.invokestatic 46, 3) := by decide +kernel
theorem dX2_partAt_12 : decode cX2_partAt 12 = .ok (.iaload, 1) := by decide +kernel
theorem dX2_partAt_13 : decode cX2_partAt 13 = .ok (.istore 4, 2) := by decide +kernel
theorem dX2_partAt_15 : decode cX2_partAt 15 = .ok (.iload_n 3, 1) := by decide +kernel
theorem dX2_partAt_16 : decode cX2_partAt 16 = .ok (.iconst 1, 1) := by decide +kernel
theorem dX2_partAt_17 : decode cX2_partAt 17 = .ok (.if_icmp .ne 8, 3) := by decide +kernel
theorem dX2_partAt_20 : decode cX2_partAt 20 = .ok (.iload 4, 2) := by decide +kernel
theorem dX2_partAt_22 : decode cX2_partAt 22 = .ok (.goto 8, 3) := by decide +kernel
theorem dX2_partAt_25 : decode cX2_partAt 25 = .ok (.bipush 10, 2) := by decide +kernel
theorem dX2_partAt_27 : decode cX2_partAt 27 = .ok (.iload 4, 2) := by decide +kernel
theorem dX2_partAt_29 : decode cX2_partAt 29 = .ok (.isub, 1) := by decide +kernel
theorem dX2_partAt_30 : decode cX2_partAt 30 = .ok (.ireturn, 1) := by decide +kernel
theorem dX2_wordToAsk_0 : decode cX2_wordToAsk 0 = .ok (.iconst 0, 1) := by decide +kernel
theorem dX2_wordToAsk_1 : decode cX2_wordToAsk 1 = .ok (.istore_n 1, 1) := by decide +kernel
theorem dX2_wordToAsk_2 : decode cX2_wordToAsk 2 = .ok (.iconst 1, 1) := by decide +kernel
theorem dX2_wordToAsk_3 : decode cX2_wordToAsk 3 = .ok (.istore_n 2, 1) := by decide +kernel
theorem dX2_wordToAsk_4 : decode cX2_wordToAsk 4 = .ok (.iload_n 2, 1) := by decide +kernel
theorem dX2_wordToAsk_5 : decode cX2_wordToAsk 5 = .ok (.bipush 8, 2) := by decide +kernel
theorem dX2_wordToAsk_7 : decode cX2_wordToAsk 7 = .ok (.if_icmp .ge 24, 3) := by decide +kernel
theorem dX2_wordToAsk_10 : decode cX2_wordToAsk 10 = .ok (.aload_n 0, 1) := by decide +kernel
theorem dX2_wordToAsk_11 : decode cX2_wordToAsk 11 = .ok (.iload_n 2, 1) := by decide +kernel
theorem dX2_wordToAsk_12 : decode cX2_wordToAsk 12 = .ok (.invokevirtual 76, 3) := by decide +kernel
theorem dX2_wordToAsk_15 : decode cX2_wordToAsk 15 = .ok (.aload_n 0, 1) := by decide +kernel
theorem dX2_wordToAsk_16 : decode cX2_wordToAsk 16 = .ok (.iload_n 1, 1) := by decide +kernel
theorem dX2_wordToAsk_17 : decode cX2_wordToAsk 17 = .ok (.invokevirtual 76, 3) := by decide +kernel
theorem dX2_wordToAsk_20 : decode cX2_wordToAsk 20 = .ok (.if_icmp .le 5, 3) := by decide +kernel
theorem dX2_wordToAsk_23 : decode cX2_wordToAsk 23 = .ok (.iload_n 2, 1) := by decide +kernel
theorem dX2_wordToAsk_24 : decode cX2_wordToAsk 24 = .ok (.istore_n 1, 1) := by decide +kernel
theorem dX2_wordToAsk_25 : decode cX2_wordToAsk 25 = .ok (.iinc 2 1, 3) := by decide +kernel
theorem dX2_wordToAsk_28 : decode cX2_wordToAsk 28 = .ok (.goto (-24), 3) := by decide +kernel
theorem dX2_wordToAsk_31 : decode cX2_wordToAsk 31 = .ok (.iload_n 1, 1) := by decide +kernel
theorem dX2_wordToAsk_32 : decode cX2_wordToAsk 32 = .ok (.ireturn, 1) := by decide +kernel
theorem dX2_differenceAt_0 : decode cX2_differenceAt 0 = .ok (.aload_n 0, 1) := by decide +kernel
theorem dX2_differenceAt_1 : decode cX2_differenceAt 1 = .ok (.iload_n 1, 1) := by decide +kernel
theorem dX2_differenceAt_2 : decode cX2_differenceAt 2 = .ok (.iconst 1, 1) := by decide +kernel
theorem dX2_differenceAt_3 : decode cX2_differenceAt 3 = .ok (.invokevirtual 79, 3) := by decide +kernel
theorem dX2_differenceAt_6 : decode cX2_differenceAt 6 = .ok (.aload_n 0, 1) := by decide +kernel
theorem dX2_differenceAt_7 : decode cX2_differenceAt 7 = .ok (.iload_n 1, 1) := by decide +kernel
theorem dX2_differenceAt_8 : decode cX2_differenceAt 8 = .ok (.iconst 0, 1) := by decide +kernel
theorem dX2_differenceAt_9 : decode cX2_differenceAt 9 = .ok (.invokevirtual 79, 3) := by decide +kernel
theorem dX2_differenceAt_12 : decode cX2_differenceAt 12 = .ok (.isub, 1) := by decide +kernel
theorem dX2_differenceAt_13 : decode cX2_differenceAt 13 = .ok (.invokestatic 82, 3) := by decide +kernel
theorem dX2_differenceAt_16 : decode cX2_differenceAt 16 = .ok (.ireturn, 1) := by decide +kernel
theorem dX2_chainFrom_0 : decode cX2_chainFrom 0 = .ok (.iconst 0, 1) := by decide +kernel
theorem dX2_chainFrom_1 : decode cX2_chainFrom 1 = .ok (.istore 4, 2) := by decide +kernel
theorem dX2_chainFrom_3 : decode cX2_chainFrom 3 = .ok (.iload_n 1, 1) := by decide +kernel
theorem dX2_chainFrom_4 : decode cX2_chainFrom 4 = .ok (.istore 5, 2) := by decide +kernel
theorem dX2_chainFrom_6 : decode cX2_chainFrom 6 = .ok (.iload_n 2, 1) := by decide +kernel
theorem dX2_chainFrom_7 : decode cX2_chainFrom 7 = .ok (.istore 6, 2) := by decide +kernel
theorem dX2_chainFrom_9 : decode cX2_chainFrom 9 = .ok (.iconst 0, 1) := by decide +kernel
theorem dX2_chainFrom_10 : decode cX2_chainFrom 10 = .ok (.istore 7, 2) := by decide +kernel
theorem dX2_chainFrom_12 : decode cX2_chainFrom 12 = .ok (.iload 7, 2) := by decide +kernel
theorem dX2_chainFrom_14 : decode cX2_chainFrom 14 = .ok (.bipush 16, 2) := by decide +kernel
theorem dX2_chainFrom_16 : decode cX2_chainFrom 16 = .ok (.if_icmp .gt 87, 3) := by decide +kernel
theorem dX2_chainFrom_19 : decode cX2_chainFrom 19 = .ok (.iload 5, 2) := by decide +kernel
theorem dX2_chainFrom_21 : decode cX2_chainFrom 21 = .ok (.invokestatic 87, 3) := by decide +kernel
theorem dX2_chainFrom_24 : decode cX2_chainFrom 24 = .ok (.ifCond .eq 79, 3) := by decide +kernel
theorem dX2_chainFrom_27 : decode cX2_chainFrom 27 = .ok (.iconst 1, 1) := by decide +kernel
theorem dX2_chainFrom_28 : decode cX2_chainFrom 28 = .ok (.iload 5, 2) := by decide +kernel
theorem dX2_chainFrom_30 : decode cX2_chainFrom 30 = .ok (.iload 6, 2) := by decide +kernel
theorem dX2_chainFrom_32 : decode cX2_chainFrom 32 = .ok (.invokestatic 46, 3) := by decide +kernel
theorem dX2_chainFrom_35 : decode cX2_chainFrom 35 = .ok (.ishl, 1) := by decide +kernel
theorem dX2_chainFrom_36 : decode cX2_chainFrom 36 = .ok (.istore 8, 2) := by decide +kernel
theorem dX2_chainFrom_38 : decode cX2_chainFrom 38 = .ok (.iload 4, 2) := by decide +kernel
theorem dX2_chainFrom_40 : decode cX2_chainFrom 40 = .ok (.iload 8, 2) := by decide +kernel
theorem dX2_chainFrom_42 : decode cX2_chainFrom 42 = .ok (.iand, 1) := by decide +kernel
theorem dX2_chainFrom_43 : decode cX2_chainFrom 43 = .ok (.ifCond .eq 10, 3) := by decide +kernel
theorem dX2_chainFrom_46 : decode cX2_chainFrom 46 = .ok (.iload 4, 2) := by decide +kernel
theorem dX2_chainFrom_48 : decode cX2_chainFrom 48 = .ok (.invokestatic 23, 3) := by decide +kernel
theorem dX2_chainFrom_51 : decode cX2_chainFrom 51 = .ok (.ineg, 1) := by decide +kernel
theorem dX2_chainFrom_52 : decode cX2_chainFrom 52 = .ok (.ireturn, 1) := by decide +kernel
theorem dX2_chainFrom_53 : decode cX2_chainFrom 53 = .ok (.iload 4, 2) := by decide +kernel
theorem dX2_chainFrom_55 : decode cX2_chainFrom 55 = .ok (.iload 8, 2) := by decide +kernel
theorem dX2_chainFrom_57 : decode cX2_chainFrom 57 = .ok (.ior, 1) := by decide +kernel
theorem dX2_chainFrom_58 : decode cX2_chainFrom 58 = .ok (.istore 4, 2) := by decide +kernel
theorem dX2_chainFrom_60 : decode cX2_chainFrom 60 = .ok (.iload_n 3, 1) := by decide +kernel
theorem dX2_chainFrom_61 : decode cX2_chainFrom 61 = .ok (.iload 5, 2) := by decide +kernel
theorem dX2_chainFrom_63 : decode cX2_chainFrom 63 = .ok (.ishr, 1) := by decide +kernel
theorem dX2_chainFrom_64 : decode cX2_chainFrom 64 = .ok (.iconst 1, 1) := by decide +kernel
theorem dX2_chainFrom_65 : decode cX2_chainFrom 65 = .ok (.iand, 1) := by decide +kernel
theorem dX2_chainFrom_66 : decode cX2_chainFrom 66 = .ok (.iconst 1, 1) := by decide +kernel
theorem dX2_chainFrom_67 : decode cX2_chainFrom 67 = .ok (.if_icmp .ne 7, 3) := by decide +kernel
theorem dX2_chainFrom_70 : decode cX2_chainFrom 70 = .ok (.iconst (-1), 1) := by decide +kernel
theorem dX2_chainFrom_71 : decode cX2_chainFrom 71 = .ok (.goto 18, 3) := by decide +kernel
theorem dX2_chainFrom_74 : decode cX2_chainFrom 74 = .ok (.aload_n 0, 1) := by decide +kernel
theorem dX2_chainFrom_75 : decode cX2_chainFrom 75 = .ok (.getfield 15, 3) := by decide +kernel
theorem dX2_chainFrom_78 : decode cX2_chainFrom 78 = .ok (.getfield 90, 3) := by decide +kernel
theorem dX2_chainFrom_81 : decode cX2_chainFrom 81 = .ok (.iload 5, 2) := by decide +kernel
theorem dX2_chainFrom_83 : decode cX2_chainFrom 83 = .ok (.iload 6, 2) := by decide +kernel
theorem dX2_chainFrom_85 : decode cX2_chainFrom 85 = .ok (.invokestatic 46, 3) := by decide +kernel
theorem dX2_chainFrom_88 : decode cX2_chainFrom 88 = .ok (.iaload, 1) := by decide +kernel
theorem dX2_chainFrom_89 : decode cX2_chainFrom 89 = .ok (.istore 5, 2) := by decide +kernel
theorem dX2_chainFrom_91 : decode cX2_chainFrom 91 = .ok (.iconst 1, 1) := by decide +kernel
theorem dX2_chainFrom_92 : decode cX2_chainFrom 92 = .ok (.iload 6, 2) := by decide +kernel
theorem dX2_chainFrom_94 : decode cX2_chainFrom 94 = .ok (.isub, 1) := by decide +kernel
theorem dX2_chainFrom_95 : decode cX2_chainFrom 95 = .ok (.istore 6, 2) := by decide +kernel
theorem dX2_chainFrom_97 : decode cX2_chainFrom 97 = .ok (.iinc 7 1, 3) := by decide +kernel
theorem dX2_chainFrom_100 : decode cX2_chainFrom 100 = .ok (.goto (-88), 3) := by decide +kernel
theorem dX2_chainFrom_103 : decode cX2_chainFrom 103 = .ok (.iload 4, 2) := by decide +kernel
theorem dX2_chainFrom_105 : decode cX2_chainFrom 105 = .ok (.invokestatic 23, 3) := by decide +kernel
theorem dX2_chainFrom_108 : decode cX2_chainFrom 108 = .ok (.ireturn, 1) := by decide +kernel
theorem dX2_signsToStill_0 : decode cX2_signsToStill 0 = .ok (.iconst (-1), 1) := by decide +kernel
theorem dX2_signsToStill_1 : decode cX2_signsToStill 1 = .ok (.istore_n 1, 1) := by decide +kernel
theorem dX2_signsToStill_2 : decode cX2_signsToStill 2 = .ok (.iconst 0, 1) := by decide +kernel
theorem dX2_signsToStill_3 : decode cX2_signsToStill 3 = .ok (.istore_n 2, 1) := by decide +kernel
theorem dX2_signsToStill_4 : decode cX2_signsToStill 4 = .ok (.iload_n 2, 1) := by decide +kernel
theorem dX2_signsToStill_5 : decode cX2_signsToStill 5 = .ok (.sipush 256, 3) := by decide +kernel
theorem dX2_signsToStill_8 : decode cX2_signsToStill 8 = .ok (.if_icmp .ge 27, 3) := by decide +kernel
theorem dX2_signsToStill_11 : decode cX2_signsToStill 11 = .ok (.iload_n 2, 1) := by decide +kernel
theorem dX2_signsToStill_12 : decode cX2_signsToStill 12 = .ok (.iload_n 1, 1) := by decide +kernel
theorem dX2_signsToStill_13 : decode cX2_signsToStill 13 = .ok (.invokestatic 29, 3) := by decide +kernel
theorem dX2_signsToStill_16 : decode cX2_signsToStill 16 = .ok (.ifCond .eq 13, 3) := by decide +kernel
theorem dX2_signsToStill_19 : decode cX2_signsToStill 19 = .ok (.aload_n 0, 1) := by decide +kernel
theorem dX2_signsToStill_20 : decode cX2_signsToStill 20 = .ok (.iload_n 2, 1) := by decide +kernel
theorem dX2_signsToStill_21 : decode cX2_signsToStill 21 = .ok (.invokevirtual 93, 3) := by decide +kernel
theorem dX2_signsToStill_24 : decode cX2_signsToStill 24 = .ok (.ifCond .eq 5, 3) := by decide +kernel
theorem dX2_signsToStill_27 : decode cX2_signsToStill 27 = .ok (.iload_n 2, 1) := by decide +kernel
theorem dX2_signsToStill_28 : decode cX2_signsToStill 28 = .ok (.istore_n 1, 1) := by decide +kernel
theorem dX2_signsToStill_29 : decode cX2_signsToStill 29 = .ok (.iinc 2 1, 3) := by decide +kernel
theorem dX2_signsToStill_32 : decode cX2_signsToStill 32 = .ok (.goto (-28), 3) := by decide +kernel
theorem dX2_signsToStill_35 : decode cX2_signsToStill 35 = .ok (.iload_n 1, 1) := by decide +kernel
theorem dX2_signsToStill_36 : decode cX2_signsToStill 36 = .ok (.ireturn, 1) := by decide +kernel
theorem dX2_allChainsEnd_0 : decode cX2_allChainsEnd 0 = .ok (.iconst 0, 1) := by decide +kernel
theorem dX2_allChainsEnd_1 : decode cX2_allChainsEnd 1 = .ok (.istore_n 2, 1) := by decide +kernel
theorem dX2_allChainsEnd_2 : decode cX2_allChainsEnd 2 = .ok (.iload_n 2, 1) := by decide +kernel
theorem dX2_allChainsEnd_3 : decode cX2_allChainsEnd 3 = .ok (.bipush 8, 2) := by decide +kernel
theorem dX2_allChainsEnd_5 : decode cX2_allChainsEnd 5 = .ok (.if_icmp .ge 31, 3) := by decide +kernel
theorem dX2_allChainsEnd_8 : decode cX2_allChainsEnd 8 = .ok (.aload_n 0, 1) := by decide +kernel
theorem dX2_allChainsEnd_9 : decode cX2_allChainsEnd 9 = .ok (.iload_n 2, 1) := by decide +kernel
theorem dX2_allChainsEnd_10 : decode cX2_allChainsEnd 10 = .ok (.iconst 0, 1) := by decide +kernel
theorem dX2_allChainsEnd_11 : decode cX2_allChainsEnd 11 = .ok (.iload_n 1, 1) := by decide +kernel
theorem dX2_allChainsEnd_12 : decode cX2_allChainsEnd 12 = .ok (.invokevirtual 96, 3) := by decide +kernel
theorem dX2_allChainsEnd_15 : decode cX2_allChainsEnd 15 = .ok (.ifCond .lt 13, 3) := by decide +kernel
theorem dX2_allChainsEnd_18 : decode cX2_allChainsEnd 18 = .ok (.aload_n 0, 1) := by decide +kernel
theorem dX2_allChainsEnd_19 : decode cX2_allChainsEnd 19 = .ok (.iload_n 2, 1) := by decide +kernel
theorem dX2_allChainsEnd_20 : decode cX2_allChainsEnd 20 = .ok (.iconst 1, 1) := by decide +kernel
theorem dX2_allChainsEnd_21 : decode cX2_allChainsEnd 21 = .ok (.iload_n 1, 1) := by decide +kernel
theorem dX2_allChainsEnd_22 : decode cX2_allChainsEnd 22 = .ok (.invokevirtual 96, 3) := by decide +kernel
theorem dX2_allChainsEnd_25 : decode cX2_allChainsEnd 25 = .ok (.ifCond .ge 5, 3) := by decide +kernel
theorem dX2_allChainsEnd_28 : decode cX2_allChainsEnd 28 = .ok (.iconst 0, 1) := by decide +kernel
theorem dX2_allChainsEnd_29 : decode cX2_allChainsEnd 29 = .ok (.ireturn, 1) := by decide +kernel
theorem dX2_allChainsEnd_30 : decode cX2_allChainsEnd 30 = .ok (.iinc 2 1, 3) := by decide +kernel
theorem dX2_allChainsEnd_33 : decode cX2_allChainsEnd 33 = .ok (.goto (-31), 3) := by decide +kernel
theorem dX2_allChainsEnd_36 : decode cX2_allChainsEnd 36 = .ok (.iconst 1, 1) := by decide +kernel
theorem dX2_allChainsEnd_37 : decode cX2_allChainsEnd 37 = .ok (.ireturn, 1) := by decide +kernel
theorem dX2_columnsToPush_0 : decode cX2_columnsToPush 0 = .ok (.aload_n 0, 1) := by decide +kernel
theorem dX2_columnsToPush_1 : decode cX2_columnsToPush 1 = .ok (.getfield 15, 3) := by decide +kernel
theorem dX2_columnsToPush_4 : decode cX2_columnsToPush 4 = .ok (.getfield 99, 3) := by decide +kernel
theorem dX2_columnsToPush_7 : decode cX2_columnsToPush 7 = .ok (.astore_n 2, 1) := by decide +kernel
theorem dX2_columnsToPush_8 : decode cX2_columnsToPush 8 = .ok (.iconst 0, 1) := by decide +kernel
theorem dX2_columnsToPush_9 : decode cX2_columnsToPush 9 = .ok (.istore_n 3, 1) := by decide +kernel
theorem dX2_columnsToPush_10 : decode cX2_columnsToPush 10 = .ok (.iconst 0, 1) := by decide +kernel
theorem dX2_columnsToPush_11 : decode cX2_columnsToPush 11 = .ok (.istore 4, 2) := by decide +kernel
theorem dX2_columnsToPush_13 : decode cX2_columnsToPush 13 = .ok (.iload 4, 2) := by decide +kernel
theorem dX2_columnsToPush_15 : decode cX2_columnsToPush 15 = .ok (.bipush 8, 2) := by decide +kernel
theorem dX2_columnsToPush_17 : decode cX2_columnsToPush 17 = .ok (.if_icmp .ge 75, 3) := by decide +kernel
theorem dX2_columnsToPush_20 : decode cX2_columnsToPush 20 = .ok (.aload_n 0, 1) := by decide +kernel
theorem dX2_columnsToPush_21 : decode cX2_columnsToPush 21 = .ok (.getfield 9, 3) := by decide +kernel
theorem dX2_columnsToPush_24 : decode cX2_columnsToPush 24 = .ok (.iload 4, 2) := by decide +kernel
theorem dX2_columnsToPush_26 : decode cX2_columnsToPush 26 = .ok (.aload_n 0, 1) := by decide +kernel
theorem dX2_columnsToPush_27 : decode cX2_columnsToPush 27 = .ok (.getfield 19, 3) := by decide +kernel
theorem dX2_columnsToPush_30 : decode cX2_columnsToPush 30 = .ok (.aload_n 0, 1) := by decide +kernel
theorem dX2_columnsToPush_31 : decode cX2_columnsToPush 31 = .ok (.getfield 15, 3) := by decide +kernel
theorem dX2_columnsToPush_34 : decode cX2_columnsToPush 34 = .ok (.invokevirtual 103, 3) := by decide +kernel
theorem dX2_columnsToPush_37 : decode cX2_columnsToPush 37 = .ok (.aload_n 2, 1) := by decide +kernel
theorem dX2_columnsToPush_38 : decode cX2_columnsToPush 38 = .ok (.iload_n 1, 1) := by decide +kernel
theorem dX2_columnsToPush_39 : decode cX2_columnsToPush 39 = .ok (.iload 4, 2) := by decide +kernel
theorem dX2_columnsToPush_41 : decode cX2_columnsToPush 41 = .ok (.invokevirtual 107, 3) := by decide +kernel
theorem dX2_columnsToPush_44 : decode cX2_columnsToPush 44 = .ok (.iastore, 1) := by decide +kernel
theorem dX2_columnsToPush_45 : decode cX2_columnsToPush 45 = .ok (.aload_n 2, 1) := by decide +kernel
theorem dX2_columnsToPush_46 : decode cX2_columnsToPush 46 = .ok (.iload_n 1, 1) := by decide +kernel
theorem dX2_columnsToPush_47 : decode cX2_columnsToPush 47 = .ok (.iload 4, 2) := by decide +kernel
theorem dX2_columnsToPush_49 : decode cX2_columnsToPush 49 = .ok (.invokevirtual 113, 3) := by decide +kernel
theorem dX2_columnsToPush_52 : decode cX2_columnsToPush 52 = .ok (.ifCond .eq 34, 3) := by decide +kernel
theorem dX2_columnsToPush_55 : decode cX2_columnsToPush 55 = .ok (.aload_n 2, 1) := by decide +kernel
theorem dX2_columnsToPush_56 : decode cX2_columnsToPush 56 = .ok (.iload_n 1, 1) := by decide +kernel
theorem dX2_columnsToPush_57 : decode cX2_columnsToPush 57 = .ok (.iload 4, 2) := by decide +kernel
theorem dX2_columnsToPush_59 : decode cX2_columnsToPush 59 = .ok (.invokevirtual 118, 3) := by decide +kernel
theorem dX2_columnsToPush_62 : decode cX2_columnsToPush 62 = .ok (.ifCond .eq 24, 3) := by decide +kernel
theorem dX2_columnsToPush_65 : decode cX2_columnsToPush 65 = .ok (.aload_n 0, 1) := by decide +kernel
theorem dX2_columnsToPush_66 : decode cX2_columnsToPush 66 = .ok (.getfield 19, 3) := by decide +kernel
theorem dX2_columnsToPush_69 : decode cX2_columnsToPush 69 = .ok (.aload_n 2, 1) := by decide +kernel
theorem dX2_columnsToPush_70 : decode cX2_columnsToPush 70 = .ok (.iload_n 1, 1) := by decide +kernel
theorem dX2_columnsToPush_71 : decode cX2_columnsToPush 71 = .ok (.iload 4, 2) := by decide +kernel
theorem dX2_columnsToPush_73 : decode cX2_columnsToPush 73 = .ok (.invokevirtual 121, 3) := by decide +kernel
theorem dX2_columnsToPush_76 : decode cX2_columnsToPush 76 = .ok (.ifCond .ne 10, 3) := by decide +kernel
theorem dX2_columnsToPush_79 : decode cX2_columnsToPush 79 = .ok (.iload_n 3, 1) := by decide +kernel
theorem dX2_columnsToPush_80 : decode cX2_columnsToPush 80 = .ok (.iconst 1, 1) := by decide +kernel
theorem dX2_columnsToPush_81 : decode cX2_columnsToPush 81 = .ok (.iload 4, 2) := by decide +kernel
theorem dX2_columnsToPush_83 : decode cX2_columnsToPush 83 = .ok (.ishl, 1) := by decide +kernel
theorem dX2_columnsToPush_84 : decode cX2_columnsToPush 84 = .ok (.ior, 1) := by decide +kernel
theorem dX2_columnsToPush_85 : decode cX2_columnsToPush 85 = .ok (.istore_n 3, 1) := by decide +kernel
theorem dX2_columnsToPush_86 : decode cX2_columnsToPush 86 = .ok (.iinc 4 1, 3) := by decide +kernel
theorem dX2_columnsToPush_89 : decode cX2_columnsToPush 89 = .ok (.goto (-76), 3) := by decide +kernel
theorem dX2_columnsToPush_92 : decode cX2_columnsToPush 92 = .ok (.iconst 0, 1) := by decide +kernel
theorem dX2_columnsToPush_93 : decode cX2_columnsToPush 93 = .ok (.istore 4, 2) := by decide +kernel
theorem dX2_columnsToPush_95 : decode cX2_columnsToPush 95 = .ok (.iconst 1, 1) := by decide +kernel
theorem dX2_columnsToPush_96 : decode cX2_columnsToPush 96 = .ok (.istore 5, 2) := by decide +kernel
theorem dX2_columnsToPush_98 : decode cX2_columnsToPush 98 = .ok (.iload 5, 2) := by decide +kernel
theorem dX2_columnsToPush_100 : decode cX2_columnsToPush 100 = .ok (.sipush 256, 3) := by decide +kernel
theorem dX2_columnsToPush_103 : decode cX2_columnsToPush 103 = .ok (.if_icmp .ge 47, 3) := by decide +kernel
theorem dX2_columnsToPush_106 : decode cX2_columnsToPush 106 = .ok (.iload 5, 2) := by decide +kernel
theorem dX2_columnsToPush_108 : decode cX2_columnsToPush 108 = .ok (.iload_n 3, 1) := by decide +kernel
theorem dX2_columnsToPush_109 : decode cX2_columnsToPush 109 = .ok (.iconst (-1), 1) := by decide +kernel
theorem dX2_columnsToPush_110 : decode cX2_columnsToPush 110 = .ok (.ixor, 1) := by decide +kernel
theorem dX2_columnsToPush_111 : decode cX2_columnsToPush 111 = .ok (.iand, 1) := by decide +kernel
theorem dX2_columnsToPush_112 : decode cX2_columnsToPush 112 = .ok (.ifCond .ne 32, 3) := by decide +kernel
theorem dX2_columnsToPush_115 : decode cX2_columnsToPush 115 = .ok (.aload_n 0, 1) := by decide +kernel
theorem dX2_columnsToPush_116 : decode cX2_columnsToPush 116 = .ok (.iload 5, 2) := by decide +kernel
theorem dX2_columnsToPush_118 : decode cX2_columnsToPush 118 = .ok (.invokevirtual 125, 3) := by decide +kernel
theorem dX2_columnsToPush_121 : decode cX2_columnsToPush 121 = .ok (.aload_n 2, 1) := by decide +kernel
theorem dX2_columnsToPush_122 : decode cX2_columnsToPush 122 = .ok (.iload_n 1, 1) := by decide +kernel
theorem dX2_columnsToPush_123 : decode cX2_columnsToPush 123 = .ok (.invokevirtual 128, 3) := by decide +kernel
theorem dX2_columnsToPush_126 : decode cX2_columnsToPush 126 = .ok (.if_icmp .gt 18, 3) := by decide +kernel
theorem dX2_columnsToPush_129 : decode cX2_columnsToPush 129 = .ok (.aload_n 0, 1) := by decide +kernel
theorem dX2_columnsToPush_130 : decode cX2_columnsToPush 130 = .ok (.iload 5, 2) := by decide +kernel
theorem dX2_columnsToPush_132 : decode cX2_columnsToPush 132 = .ok (.iload 4, 2) := by decide +kernel
theorem dX2_columnsToPush_134 : decode cX2_columnsToPush 134 = .ok (.invokevirtual 131, 3) := by decide +kernel
theorem dX2_columnsToPush_137 : decode cX2_columnsToPush 137 = .ok (.ifCond .eq 7, 3) := by decide +kernel
theorem dX2_columnsToPush_140 : decode cX2_columnsToPush 140 = .ok (.iload 5, 2) := by decide +kernel
theorem dX2_columnsToPush_142 : decode cX2_columnsToPush 142 = .ok (.istore 4, 2) := by decide +kernel
theorem dX2_columnsToPush_144 : decode cX2_columnsToPush 144 = .ok (.iinc 5 1, 3) := by decide +kernel
theorem dX2_columnsToPush_147 : decode cX2_columnsToPush 147 = .ok (.goto (-49), 3) := by decide +kernel
theorem dX2_columnsToPush_150 : decode cX2_columnsToPush 150 = .ok (.iload 4, 2) := by decide +kernel
theorem dX2_columnsToPush_152 : decode cX2_columnsToPush 152 = .ok (.ireturn, 1) := by decide +kernel
theorem dX2_pushesMore_0 : decode cX2_pushesMore 0 = .ok (.iload_n 1, 1) := by decide +kernel
theorem dX2_pushesMore_1 : decode cX2_pushesMore 1 = .ok (.invokestatic 23, 3) := by decide +kernel
theorem dX2_pushesMore_4 : decode cX2_pushesMore 4 = .ok (.iload_n 2, 1) := by decide +kernel
theorem dX2_pushesMore_5 : decode cX2_pushesMore 5 = .ok (.invokestatic 23, 3) := by decide +kernel
theorem dX2_pushesMore_8 : decode cX2_pushesMore 8 = .ok (.isub, 1) := by decide +kernel
theorem dX2_pushesMore_9 : decode cX2_pushesMore 9 = .ok (.istore_n 3, 1) := by decide +kernel
theorem dX2_pushesMore_10 : decode cX2_pushesMore 10 = .ok (.iload_n 3, 1) := by decide +kernel
theorem dX2_pushesMore_11 : decode cX2_pushesMore 11 = .ok (.ifCond .gt 20, 3) := by decide +kernel
theorem dX2_pushesMore_14 : decode cX2_pushesMore 14 = .ok (.iload_n 3, 1) := by decide +kernel
theorem dX2_pushesMore_15 : decode cX2_pushesMore 15 = .ok (.ifCond .ne 20, 3) := by decide +kernel
theorem dX2_pushesMore_18 : decode cX2_pushesMore 18 = .ok (.aload_n 0, 1) := by decide +kernel
theorem dX2_pushesMore_19 : decode cX2_pushesMore 19 = .ok (.iload_n 1, 1) := by decide +kernel
theorem dX2_pushesMore_20 : decode cX2_pushesMore 20 = .ok (.invokevirtual 125, 3) := by decide +kernel
theorem dX2_pushesMore_23 : decode cX2_pushesMore 23 = .ok (.aload_n 0, 1) := by decide +kernel
theorem dX2_pushesMore_24 : decode cX2_pushesMore 24 = .ok (.iload_n 2, 1) := by decide +kernel
theorem dX2_pushesMore_25 : decode cX2_pushesMore 25 = .ok (.invokevirtual 125, 3) := by decide +kernel
theorem dX2_pushesMore_28 : decode cX2_pushesMore 28 = .ok (.if_icmp .ge 7, 3) := by decide +kernel
theorem dX2_pushesMore_31 : decode cX2_pushesMore 31 = .ok (.iconst 1, 1) := by decide +kernel
theorem dX2_pushesMore_32 : decode cX2_pushesMore 32 = .ok (.goto 4, 3) := by decide +kernel
theorem dX2_pushesMore_35 : decode cX2_pushesMore 35 = .ok (.iconst 0, 1) := by decide +kernel
theorem dX2_pushesMore_36 : decode cX2_pushesMore 36 = .ok (.ireturn, 1) := by decide +kernel
theorem dX2_costOfSet_0 : decode cX2_costOfSet 0 = .ok (.iconst 0, 1) := by decide +kernel
theorem dX2_costOfSet_1 : decode cX2_costOfSet 1 = .ok (.istore_n 2, 1) := by decide +kernel
theorem dX2_costOfSet_2 : decode cX2_costOfSet 2 = .ok (.iconst 0, 1) := by decide +kernel
theorem dX2_costOfSet_3 : decode cX2_costOfSet 3 = .ok (.istore_n 3, 1) := by decide +kernel
theorem dX2_costOfSet_4 : decode cX2_costOfSet 4 = .ok (.iload_n 3, 1) := by decide +kernel
theorem dX2_costOfSet_5 : decode cX2_costOfSet 5 = .ok (.bipush 8, 2) := by decide +kernel
theorem dX2_costOfSet_7 : decode cX2_costOfSet 7 = .ok (.if_icmp .ge 27, 3) := by decide +kernel
theorem dX2_costOfSet_10 : decode cX2_costOfSet 10 = .ok (.iload_n 1, 1) := by decide +kernel
theorem dX2_costOfSet_11 : decode cX2_costOfSet 11 = .ok (.iload_n 3, 1) := by decide +kernel
theorem dX2_costOfSet_12 : decode cX2_costOfSet 12 = .ok (.ishr, 1) := by decide +kernel
theorem dX2_costOfSet_13 : decode cX2_costOfSet 13 = .ok (.iconst 1, 1) := by decide +kernel
theorem dX2_costOfSet_14 : decode cX2_costOfSet 14 = .ok (.iand, 1) := by decide +kernel
theorem dX2_costOfSet_15 : decode cX2_costOfSet 15 = .ok (.iconst 1, 1) := by decide +kernel
theorem dX2_costOfSet_16 : decode cX2_costOfSet 16 = .ok (.if_icmp .ne 12, 3) := by decide +kernel
theorem dX2_costOfSet_19 : decode cX2_costOfSet 19 = .ok (.iload_n 2, 1) := by decide +kernel
theorem dX2_costOfSet_20 : decode cX2_costOfSet 20 = .ok (.aload_n 0, 1) := by decide +kernel
theorem dX2_costOfSet_21 : decode cX2_costOfSet 21 = .ok (.getfield 9, 3) := by decide +kernel
theorem dX2_costOfSet_24 : decode cX2_costOfSet 24 = .ok (.iload_n 3, 1) := by decide +kernel
theorem dX2_costOfSet_25 : decode cX2_costOfSet 25 = .ok (.iaload, 1) := by decide +kernel
theorem dX2_costOfSet_26 : decode cX2_costOfSet 26 = .ok (.iadd, 1) := by decide +kernel
theorem dX2_costOfSet_27 : decode cX2_costOfSet 27 = .ok (.istore_n 2, 1) := by decide +kernel
theorem dX2_costOfSet_28 : decode cX2_costOfSet 28 = .ok (.iinc 3 1, 3) := by decide +kernel
theorem dX2_costOfSet_31 : decode cX2_costOfSet 31 = .ok (.goto (-27), 3) := by decide +kernel
theorem dX2_costOfSet_34 : decode cX2_costOfSet 34 = .ok (.iload_n 2, 1) := by decide +kernel
theorem dX2_costOfSet_35 : decode cX2_costOfSet 35 = .ok (.ireturn, 1) := by decide +kernel
theorem dX2_menToLevel_0 : decode cX2_menToLevel 0 = .ok (.aload_n 0, 1) := by decide +kernel
theorem dX2_menToLevel_1 : decode cX2_menToLevel 1 = .ok (.getfield 15, 3) := by decide +kernel
theorem dX2_menToLevel_4 : decode cX2_menToLevel 4 = .ok (.getfield 99, 3) := by decide +kernel
theorem dX2_menToLevel_7 : decode cX2_menToLevel 7 = .ok (.iload_n 1, 1) := by decide +kernel
theorem dX2_menToLevel_8 : decode cX2_menToLevel 8 = .ok (.invokevirtual 134, 3) := by decide +kernel
theorem dX2_menToLevel_11 : decode cX2_menToLevel 11 = .ok (.istore_n 2, 1) := by decide +kernel
theorem dX2_menToLevel_12 : decode cX2_menToLevel 12 = .ok (.iconst 0, 1) := by decide +kernel
theorem dX2_menToLevel_13 : decode cX2_menToLevel 13 = .ok (.istore_n 3, 1) := by decide +kernel
theorem dX2_menToLevel_14 : decode cX2_menToLevel 14 = .ok (.iconst 0, 1) := by decide +kernel
theorem dX2_menToLevel_15 : decode cX2_menToLevel 15 = .ok (.istore 4, 2) := by decide +kernel
theorem dX2_menToLevel_17 : decode cX2_menToLevel 17 = .ok (.iconst 0, 1) := by decide +kernel
theorem dX2_menToLevel_18 : decode cX2_menToLevel 18 = .ok (.istore 5, 2) := by decide +kernel
theorem dX2_menToLevel_20 : decode cX2_menToLevel 20 = .ok (.iload 5, 2) := by decide +kernel
theorem dX2_menToLevel_22 : decode cX2_menToLevel 22 = .ok (.bipush 8, 2) := by decide +kernel
theorem dX2_menToLevel_24 : decode cX2_menToLevel 24 = .ok (.if_icmp .ge 59, 3) := by decide +kernel
theorem dX2_menToLevel_27 : decode cX2_menToLevel 27 = .ok (.iload_n 2, 1) := by decide +kernel
theorem dX2_menToLevel_28 : decode cX2_menToLevel 28 = .ok (.bipush 8, 2) := by decide +kernel
theorem dX2_menToLevel_30 : decode cX2_menToLevel 30 = .ok (.idiv, 1) := by decide +kernel
theorem dX2_menToLevel_31 : decode cX2_menToLevel 31 = .ok (.iload 5, 2) := by decide +kernel
theorem dX2_menToLevel_33 : decode cX2_menToLevel 33 = .ok (.iload_n 2, 1) := by decide +kernel
theorem dX2_menToLevel_34 : decode cX2_menToLevel 34 = .ok (.bipush 8, 2) := by decide +kernel
theorem dX2_menToLevel_36 : decode cX2_menToLevel 36 = .ok (.irem, 1) := by decide +kernel
theorem dX2_menToLevel_37 : decode cX2_menToLevel 37 = .ok (.if_icmp .ge 7, 3) := by decide +kernel
theorem dX2_menToLevel_40 : decode cX2_menToLevel 40 = .ok (.iconst 1, 1) := by decide +kernel
theorem dX2_menToLevel_41 : decode cX2_menToLevel 41 = .ok (.goto 4, 3) := by decide +kernel
theorem dX2_menToLevel_44 : decode cX2_menToLevel 44 = .ok (.iconst 0, 1) := by decide +kernel
theorem dX2_menToLevel_45 : decode cX2_menToLevel 45 = .ok (.iadd, 1) := by decide +kernel
theorem dX2_menToLevel_46 : decode cX2_menToLevel 46 = .ok (.istore 6, 2) := by decide +kernel
theorem dX2_menToLevel_48 : decode cX2_menToLevel 48 = .ok (.iload 4, 2) := by decide +kernel
theorem dX2_menToLevel_50 : decode cX2_menToLevel 50 = .ok (.aload_n 0, 1) := by decide +kernel
theorem dX2_menToLevel_51 : decode cX2_menToLevel 51 = .ok (.getfield 15, 3) := by decide +kernel
theorem dX2_menToLevel_54 : decode cX2_menToLevel 54 = .ok (.getfield 99, 3) := by decide +kernel
theorem dX2_menToLevel_57 : decode cX2_menToLevel 57 = .ok (.iload_n 1, 1) := by decide +kernel
theorem dX2_menToLevel_58 : decode cX2_menToLevel 58 = .ok (.iload 5, 2) := by decide +kernel
theorem dX2_menToLevel_60 : decode cX2_menToLevel 60 = .ok (.invokevirtual 137, 3) := by decide +kernel
theorem dX2_menToLevel_63 : decode cX2_menToLevel 63 = .ok (.iload 6, 2) := by decide +kernel
theorem dX2_menToLevel_65 : decode cX2_menToLevel 65 = .ok (.isub, 1) := by decide +kernel
theorem dX2_menToLevel_66 : decode cX2_menToLevel 66 = .ok (.iadd, 1) := by decide +kernel
theorem dX2_menToLevel_67 : decode cX2_menToLevel 67 = .ok (.istore 4, 2) := by decide +kernel
theorem dX2_menToLevel_69 : decode cX2_menToLevel 69 = .ok (.iload_n 3, 1) := by decide +kernel
theorem dX2_menToLevel_70 : decode cX2_menToLevel 70 = .ok (.iload 4, 2) := by decide +kernel
theorem dX2_menToLevel_72 : decode cX2_menToLevel 72 = .ok (.invokestatic 82, 3) := by decide +kernel
theorem dX2_menToLevel_75 : decode cX2_menToLevel 75 = .ok (.iadd, 1) := by decide +kernel
theorem dX2_menToLevel_76 : decode cX2_menToLevel 76 = .ok (.istore_n 3, 1) := by decide +kernel
theorem dX2_menToLevel_77 : decode cX2_menToLevel 77 = .ok (.iinc 5 1, 3) := by decide +kernel
theorem dX2_menToLevel_80 : decode cX2_menToLevel 80 = .ok (.goto (-60), 3) := by decide +kernel
theorem dX2_menToLevel_83 : decode cX2_menToLevel 83 = .ok (.iload_n 3, 1) := by decide +kernel
theorem dX2_menToLevel_84 : decode cX2_menToLevel 84 = .ok (.ireturn, 1) := by decide +kernel
theorem dX2_columnsForPosts_0 : decode cX2_columnsForPosts 0 = .ok (.iconst (-1), 1) := by decide +kernel
theorem dX2_columnsForPosts_1 : decode cX2_columnsForPosts 1 = .ok (.istore_n 2, 1) := by decide +kernel
theorem dX2_columnsForPosts_2 : decode cX2_columnsForPosts 2 = .ok (.iconst 0, 1) := by decide +kernel
theorem dX2_columnsForPosts_3 : decode cX2_columnsForPosts 3 = .ok (.istore_n 3, 1) := by decide +kernel
theorem dX2_columnsForPosts_4 : decode cX2_columnsForPosts 4 = .ok (.iload_n 3, 1) := by decide +kernel
theorem dX2_columnsForPosts_5 : decode cX2_columnsForPosts 5 = .ok (.sipush 256, 3) := by decide +kernel
theorem dX2_columnsForPosts_8 : decode cX2_columnsForPosts 8 = .ok (.if_icmp .ge 27, 3) := by decide +kernel
theorem dX2_columnsForPosts_11 : decode cX2_columnsForPosts 11 = .ok (.iload_n 3, 1) := by decide +kernel
theorem dX2_columnsForPosts_12 : decode cX2_columnsForPosts 12 = .ok (.iload_n 2, 1) := by decide +kernel
theorem dX2_columnsForPosts_13 : decode cX2_columnsForPosts 13 = .ok (.invokestatic 29, 3) := by decide +kernel
theorem dX2_columnsForPosts_16 : decode cX2_columnsForPosts 16 = .ok (.ifCond .eq 13, 3) := by decide +kernel
theorem dX2_columnsForPosts_19 : decode cX2_columnsForPosts 19 = .ok (.iload_n 3, 1) := by decide +kernel
theorem dX2_columnsForPosts_20 : decode cX2_columnsForPosts 20 = .ok (.iload_n 1, 1) := by decide +kernel
theorem dX2_columnsForPosts_21 : decode cX2_columnsForPosts 21 = .ok (.invokestatic 140, 3) := by decide +kernel
theorem dX2_columnsForPosts_24 : decode cX2_columnsForPosts 24 = .ok (.ifCond .eq 5, 3) := by decide +kernel
theorem dX2_columnsForPosts_27 : decode cX2_columnsForPosts 27 = .ok (.iload_n 3, 1) := by decide +kernel
theorem dX2_columnsForPosts_28 : decode cX2_columnsForPosts 28 = .ok (.istore_n 2, 1) := by decide +kernel
theorem dX2_columnsForPosts_29 : decode cX2_columnsForPosts 29 = .ok (.iinc 3 1, 3) := by decide +kernel
theorem dX2_columnsForPosts_32 : decode cX2_columnsForPosts 32 = .ok (.goto (-28), 3) := by decide +kernel
theorem dX2_columnsForPosts_35 : decode cX2_columnsForPosts 35 = .ok (.iload_n 2, 1) := by decide +kernel
theorem dX2_columnsForPosts_36 : decode cX2_columnsForPosts 36 = .ok (.ireturn, 1) := by decide +kernel
theorem dX2_seesAll_0 : decode cX2_seesAll 0 = .ok (.iconst 0, 1) := by decide +kernel
theorem dX2_seesAll_1 : decode cX2_seesAll 1 = .ok (.istore_n 2, 1) := by decide +kernel
theorem dX2_seesAll_2 : decode cX2_seesAll 2 = .ok (.iconst 0, 1) := by decide +kernel
theorem dX2_seesAll_3 : decode cX2_seesAll 3 = .ok (.istore_n 3, 1) := by decide +kernel
theorem dX2_seesAll_4 : decode cX2_seesAll 4 = .ok (.iload_n 3, 1) := by decide +kernel
theorem dX2_seesAll_5 : decode cX2_seesAll 5 = .ok (.bipush 8, 2) := by decide +kernel
theorem dX2_seesAll_7 : decode cX2_seesAll 7 = .ok (.if_icmp .ge 52, 3) := by decide +kernel
theorem dX2_seesAll_10 : decode cX2_seesAll 10 = .ok (.iconst 0, 1) := by decide +kernel
theorem dX2_seesAll_11 : decode cX2_seesAll 11 = .ok (.istore 4, 2) := by decide +kernel
theorem dX2_seesAll_13 : decode cX2_seesAll 13 = .ok (.iload 4, 2) := by decide +kernel
theorem dX2_seesAll_15 : decode cX2_seesAll 15 = .ok (.bipush 8, 2) := by decide +kernel
theorem dX2_seesAll_17 : decode cX2_seesAll 17 = .ok (.if_icmp .ge 36, 3) := by decide +kernel
theorem dX2_seesAll_20 : decode cX2_seesAll 20 = .ok (.iload_n 0, 1) := by decide +kernel
theorem dX2_seesAll_21 : decode cX2_seesAll 21 = .ok (.iload_n 3, 1) := by decide +kernel
theorem dX2_seesAll_22 : decode cX2_seesAll 22 = .ok (.ishr, 1) := by decide +kernel
theorem dX2_seesAll_23 : decode cX2_seesAll 23 = .ok (.iconst 1, 1) := by decide +kernel
theorem dX2_seesAll_24 : decode cX2_seesAll 24 = .ok (.iand, 1) := by decide +kernel
theorem dX2_seesAll_25 : decode cX2_seesAll 25 = .ok (.iconst 1, 1) := by decide +kernel
theorem dX2_seesAll_26 : decode cX2_seesAll 26 = .ok (.if_icmp .ne 21, 3) := by decide +kernel
theorem dX2_seesAll_29 : decode cX2_seesAll 29 = .ok (.iload_n 3, 1) := by decide +kernel
theorem dX2_seesAll_30 : decode cX2_seesAll 30 = .ok (.iload 4, 2) := by decide +kernel
theorem dX2_seesAll_32 : decode cX2_seesAll 32 = .ok (.isub, 1) := by decide +kernel
theorem dX2_seesAll_33 : decode cX2_seesAll 33 = .ok (.invokestatic 82, 3) := by decide +kernel
theorem dX2_seesAll_36 : decode cX2_seesAll 36 = .ok (.iload_n 1, 1) := by decide +kernel
theorem dX2_seesAll_37 : decode cX2_seesAll 37 = .ok (.if_icmp .gt 10, 3) := by decide +kernel
theorem dX2_seesAll_40 : decode cX2_seesAll 40 = .ok (.iload_n 2, 1) := by decide +kernel
theorem dX2_seesAll_41 : decode cX2_seesAll 41 = .ok (.iconst 1, 1) := by decide +kernel
theorem dX2_seesAll_42 : decode cX2_seesAll 42 = .ok (.iload 4, 2) := by decide +kernel
theorem dX2_seesAll_44 : decode cX2_seesAll 44 = .ok (.ishl, 1) := by decide +kernel
theorem dX2_seesAll_45 : decode cX2_seesAll 45 = .ok (.ior, 1) := by decide +kernel
theorem dX2_seesAll_46 : decode cX2_seesAll 46 = .ok (.istore_n 2, 1) := by decide +kernel
theorem dX2_seesAll_47 : decode cX2_seesAll 47 = .ok (.iinc 4 1, 3) := by decide +kernel
theorem dX2_seesAll_50 : decode cX2_seesAll 50 = .ok (.goto (-37), 3) := by decide +kernel
theorem dX2_seesAll_53 : decode cX2_seesAll 53 = .ok (.iinc 3 1, 3) := by decide +kernel
theorem dX2_seesAll_56 : decode cX2_seesAll 56 = .ok (.goto (-52), 3) := by decide +kernel
theorem dX2_seesAll_59 : decode cX2_seesAll 59 = .ok (.iload_n 2, 1) := by decide +kernel
theorem dX2_seesAll_60 : decode cX2_seesAll 60 = .ok (.sipush 255, 3) := by decide +kernel
theorem dX2_seesAll_63 : decode cX2_seesAll 63 = .ok (.if_icmp .ne 7, 3) := by decide +kernel
theorem dX2_seesAll_66 : decode cX2_seesAll 66 = .ok (.iconst 1, 1) := by decide +kernel
theorem dX2_seesAll_67 : decode cX2_seesAll 67 = .ok (.goto 4, 3) := by decide +kernel
theorem dX2_seesAll_70 : decode cX2_seesAll 70 = .ok (.iconst 0, 1) := by decide +kernel
theorem dX2_seesAll_71 : decode cX2_seesAll 71 = .ok (.ireturn, 1) := by decide +kernel
theorem dX2_foesOnWay_0 : decode cX2_foesOnWay 0 = .ok (.iconst 0, 1) := by decide +kernel
theorem dX2_foesOnWay_1 : decode cX2_foesOnWay 1 = .ok (.istore 5, 2) := by decide +kernel
theorem dX2_foesOnWay_3 : decode cX2_foesOnWay 3 = .ok (.iload_n 2, 1) := by decide +kernel
theorem dX2_foesOnWay_4 : decode cX2_foesOnWay 4 = .ok (.istore 6, 2) := by decide +kernel
theorem dX2_foesOnWay_6 : decode cX2_foesOnWay 6 = .ok (.iconst 0, 1) := by decide +kernel
theorem dX2_foesOnWay_7 : decode cX2_foesOnWay 7 = .ok (.istore 7, 2) := by decide +kernel
theorem dX2_foesOnWay_9 : decode cX2_foesOnWay 9 = .ok (.iload 7, 2) := by decide +kernel
theorem dX2_foesOnWay_11 : decode cX2_foesOnWay 11 = .ok (.bipush 8, 2) := by decide +kernel
theorem dX2_foesOnWay_13 : decode cX2_foesOnWay 13 = .ok (.if_icmp .ge 47, 3) := by decide +kernel
theorem dX2_foesOnWay_16 : decode cX2_foesOnWay 16 = .ok (.iload 6, 2) := by decide +kernel
theorem dX2_foesOnWay_18 : decode cX2_foesOnWay 18 = .ok (.iload_n 3, 1) := by decide +kernel
theorem dX2_foesOnWay_19 : decode cX2_foesOnWay 19 = .ok (.if_icmp .eq 41, 3) := by decide +kernel
theorem dX2_foesOnWay_22 : decode cX2_foesOnWay 22 = .ok (.iload 6, 2) := by decide +kernel
theorem dX2_foesOnWay_24 : decode cX2_foesOnWay 24 = .ok (.iload 4, 2) := by decide +kernel
theorem dX2_foesOnWay_26 : decode cX2_foesOnWay 26 = .ok (.iadd, 1) := by decide +kernel
theorem dX2_foesOnWay_27 : decode cX2_foesOnWay 27 = .ok (.bipush 8, 2) := by decide +kernel
theorem dX2_foesOnWay_29 : decode cX2_foesOnWay 29 = .ok (.invokestatic 143, 3) := by decide +kernel
theorem dX2_foesOnWay_32 : decode cX2_foesOnWay 32 = .ok (.istore 6, 2) := by decide +kernel
theorem dX2_foesOnWay_34 : decode cX2_foesOnWay 34 = .ok (.iload 5, 2) := by decide +kernel
theorem dX2_foesOnWay_36 : decode cX2_foesOnWay 36 = .ok (.aload_n 0, 1) := by decide +kernel
theorem dX2_foesOnWay_37 : decode cX2_foesOnWay 37 = .ok (.getfield 15, 3) := by decide +kernel
theorem dX2_foesOnWay_40 : decode cX2_foesOnWay 40 = .ok (.getfield 99, 3) := by decide +kernel
theorem dX2_foesOnWay_43 : decode cX2_foesOnWay 43 = .ok (.iconst 1, 1) := by decide +kernel
theorem dX2_foesOnWay_44 : decode cX2_foesOnWay 44 = .ok (.iload_n 1, 1) := by decide +kernel
theorem dX2_foesOnWay_45 : decode cX2_foesOnWay 45 = .ok (.isub, 1) := by decide +kernel
theorem dX2_foesOnWay_46 : decode cX2_foesOnWay 46 = .ok (.iload 6, 2) := by decide +kernel
theorem dX2_foesOnWay_48 : decode cX2_foesOnWay 48 = .ok (.invokevirtual 137, 3) := by decide +kernel
theorem dX2_foesOnWay_51 : decode cX2_foesOnWay 51 = .ok (.iadd, 1) := by decide +kernel
theorem dX2_foesOnWay_52 : decode cX2_foesOnWay 52 = .ok (.istore 5, 2) := by decide +kernel
theorem dX2_foesOnWay_54 : decode cX2_foesOnWay 54 = .ok (.iinc 7 1, 3) := by decide +kernel
theorem dX2_foesOnWay_57 : decode cX2_foesOnWay 57 = .ok (.goto (-48), 3) := by decide +kernel
theorem dX2_foesOnWay_60 : decode cX2_foesOnWay 60 = .ok (.iload 5, 2) := by decide +kernel
theorem dX2_foesOnWay_62 : decode cX2_foesOnWay 62 = .ok (.ireturn, 1) := by decide +kernel
theorem dX2_chanceToHold_0 : decode cX2_chanceToHold 0 = .ok (.ldc2_w 146, 3) := by decide +kernel
theorem dX2_chanceToHold_3 : decode cX2_chanceToHold 3 = .ok (.lstore_n 2, 1) := by decide +kernel
theorem dX2_chanceToHold_4 : decode cX2_chanceToHold 4 = .ok (.iconst 0, 1) := by decide +kernel
theorem dX2_chanceToHold_5 : decode cX2_chanceToHold 5 = .ok (.istore 4, 2) := by decide +kernel
theorem dX2_chanceToHold_7 : decode cX2_chanceToHold 7 = .ok (.iload 4, 2) := by decide +kernel
theorem dX2_chanceToHold_9 : decode cX2_chanceToHold 9 = .ok (.iload_n 1, 1) := by decide +kernel
theorem dX2_chanceToHold_10 : decode cX2_chanceToHold 10 = .ok (.if_icmp .ge 53, 3) := by decide +kernel
theorem dX2_chanceToHold_13 : decode cX2_chanceToHold 13 = .ok (.lload_n 2, 1) := by decide +kernel
theorem dX2_chanceToHold_14 : decode cX2_chanceToHold 14 = .ok (.bipush 100, 2) := by decide +kernel
theorem dX2_chanceToHold_16 : decode cX2_chanceToHold 16 = .ok (.aload_n 0, 1) := by decide +kernel
theorem dX2_chanceToHold_17 : decode cX2_chanceToHold 17 = .ok (.getfield 15, 3) := by decide +kernel
theorem dX2_chanceToHold_20 : decode cX2_chanceToHold 20 = .ok (.getfield 99, 3) := by decide +kernel
theorem dX2_chanceToHold_23 : decode cX2_chanceToHold 23 = .ok (.iconst 0, 1) := by decide +kernel
theorem dX2_chanceToHold_24 : decode cX2_chanceToHold 24 = .ok (.invokevirtual 148, 3) := by decide +kernel
theorem dX2_chanceToHold_27 : decode cX2_chanceToHold 27 = .ok (.isub, 1) := by decide +kernel
theorem dX2_chanceToHold_28 : decode cX2_chanceToHold 28 = .ok (.i2l, 1) := by decide +kernel
theorem dX2_chanceToHold_29 : decode cX2_chanceToHold 29 = .ok (.lmul, 1) := by decide +kernel
theorem dX2_chanceToHold_30 : decode cX2_chanceToHold 30 = .ok (.ldc2_w 151, 3) := by decide +kernel
theorem dX2_chanceToHold_33 : decode cX2_chanceToHold 33 = .ok (.ldiv, 1) := by decide +kernel
theorem dX2_chanceToHold_34 : decode cX2_chanceToHold 34 = .ok (.lstore_n 2, 1) := by decide +kernel
theorem dX2_chanceToHold_35 : decode cX2_chanceToHold 35 = .ok (.lload_n 2, 1) := by decide +kernel
theorem dX2_chanceToHold_36 : decode cX2_chanceToHold 36 = .ok (.bipush 100, 2) := by decide +kernel
theorem dX2_chanceToHold_38 : decode cX2_chanceToHold 38 = .ok (.aload_n 0, 1) := by decide +kernel
theorem dX2_chanceToHold_39 : decode cX2_chanceToHold 39 = .ok (.getfield 15, 3) := by decide +kernel
theorem dX2_chanceToHold_42 : decode cX2_chanceToHold 42 = .ok (.getfield 99, 3) := by decide +kernel
theorem dX2_chanceToHold_45 : decode cX2_chanceToHold 45 = .ok (.iconst 1, 1) := by decide +kernel
theorem dX2_chanceToHold_46 : decode cX2_chanceToHold 46 = .ok (.invokevirtual 148, 3) := by decide +kernel
theorem dX2_chanceToHold_49 : decode cX2_chanceToHold 49 = .ok (.isub, 1) := by decide +kernel
theorem dX2_chanceToHold_50 : decode cX2_chanceToHold 50 = .ok (.i2l, 1) := by decide +kernel
theorem dX2_chanceToHold_51 : decode cX2_chanceToHold 51 = .ok (.lmul, 1) := by decide +kernel
theorem dX2_chanceToHold_52 : decode cX2_chanceToHold 52 = .ok (.ldc2_w 151, 3) := by decide +kernel
theorem dX2_chanceToHold_55 : decode cX2_chanceToHold 55 = .ok (.ldiv, 1) := by decide +kernel
theorem dX2_chanceToHold_56 : decode cX2_chanceToHold 56 = .ok (.lstore_n 2, 1) := by decide +kernel
theorem dX2_chanceToHold_57 : decode cX2_chanceToHold 57 = .ok (.iinc 4 1, 3) := by decide +kernel
theorem dX2_chanceToHold_60 : decode cX2_chanceToHold 60 = .ok (.goto (-53), 3) := by decide +kernel
theorem dX2_chanceToHold_63 : decode cX2_chanceToHold 63 = .ok (.lload_n 2, 1) := by decide +kernel
theorem dX2_chanceToHold_64 : decode cX2_chanceToHold 64 = .ok (.lreturn, 1) := by decide +kernel
theorem dX2_signsThatFit_0 : decode cX2_signsThatFit 0 = .ok (.iconst 0, 1) := by decide +kernel
theorem dX2_signsThatFit_1 : decode cX2_signsThatFit 1 = .ok (.istore_n 1, 1) := by decide +kernel
theorem dX2_signsThatFit_2 : decode cX2_signsThatFit 2 = .ok (.iconst 0, 1) := by decide +kernel
theorem dX2_signsThatFit_3 : decode cX2_signsThatFit 3 = .ok (.istore_n 2, 1) := by decide +kernel
theorem dX2_signsThatFit_4 : decode cX2_signsThatFit 4 = .ok (.iload_n 2, 1) := by decide +kernel
theorem dX2_signsThatFit_5 : decode cX2_signsThatFit 5 = .ok (.bipush 8, 2) := by decide +kernel
theorem dX2_signsThatFit_7 : decode cX2_signsThatFit 7 = .ok (.if_icmp .ge 23, 3) := by decide +kernel
theorem dX2_signsThatFit_10 : decode cX2_signsThatFit 10 = .ok (.aload_n 0, 1) := by decide +kernel
theorem dX2_signsThatFit_11 : decode cX2_signsThatFit 11 = .ok (.iload_n 2, 1) := by decide +kernel
theorem dX2_signsThatFit_12 : decode cX2_signsThatFit 12 = .ok (.invokevirtual 153, 3) := by decide +kernel
theorem dX2_signsThatFit_15 : decode cX2_signsThatFit 15 = .ok (.ifCond .eq 9, 3) := by decide +kernel
theorem dX2_signsThatFit_18 : decode cX2_signsThatFit 18 = .ok (.iload_n 1, 1) := by decide +kernel
theorem dX2_signsThatFit_19 : decode cX2_signsThatFit 19 = .ok (.iconst 1, 1) := by decide +kernel
theorem dX2_signsThatFit_20 : decode cX2_signsThatFit 20 = .ok (.iload_n 2, 1) := by decide +kernel
theorem dX2_signsThatFit_21 : decode cX2_signsThatFit 21 = .ok (.ishl, 1) := by decide +kernel
theorem dX2_signsThatFit_22 : decode cX2_signsThatFit 22 = .ok (.ior, 1) := by decide +kernel
theorem dX2_signsThatFit_23 : decode cX2_signsThatFit 23 = .ok (.istore_n 1, 1) := by decide +kernel
theorem dX2_signsThatFit_24 : decode cX2_signsThatFit 24 = .ok (.iinc 2 1, 3) := by decide +kernel
theorem dX2_signsThatFit_27 : decode cX2_signsThatFit 27 = .ok (.goto (-23), 3) := by decide +kernel
theorem dX2_signsThatFit_30 : decode cX2_signsThatFit 30 = .ok (.iload_n 1, 1) := by decide +kernel
theorem dX2_signsThatFit_31 : decode cX2_signsThatFit 31 = .ok (.ireturn, 1) := by decide +kernel
theorem dX2_isAsTold_0 : decode cX2_isAsTold 0 = .ok (.iconst 0, 1) := by decide +kernel
theorem dX2_isAsTold_1 : decode cX2_isAsTold 1 = .ok (.istore_n 2, 1) := by decide +kernel
theorem dX2_isAsTold_2 : decode cX2_isAsTold 2 = .ok (.iload_n 2, 1) := by decide +kernel
theorem dX2_isAsTold_3 : decode cX2_isAsTold 3 = .ok (.aload_n 0, 1) := by decide +kernel
theorem dX2_isAsTold_4 : decode cX2_isAsTold 4 = .ok (.getfield 15, 3) := by decide +kernel
theorem dX2_isAsTold_7 : decode cX2_isAsTold 7 = .ok (.getfield 156, 3) := by decide +kernel
theorem dX2_isAsTold_10 : decode cX2_isAsTold 10 = .ok (.if_icmp .ge 53, 3) := by decide +kernel
theorem dX2_isAsTold_13 : decode cX2_isAsTold 13 = .ok (.iload_n 2, 1) := by decide +kernel
theorem dX2_isAsTold_14 : decode cX2_isAsTold 14 = .ok (.bipush 6, 2) := by decide +kernel
theorem dX2_isAsTold_16 : decode cX2_isAsTold 16 = .ok (.if_icmp .ge 47, 3) := by decide +kernel
theorem dX2_isAsTold_19 : decode cX2_isAsTold 19 = .ok (.aload_n 0, 1) := by decide +kernel
theorem dX2_isAsTold_20 : decode cX2_isAsTold 20 = .ok (.getfield 19, 3) := by decide +kernel
theorem dX2_isAsTold_23 : decode cX2_isAsTold 23 = .ok (.aload_n 0, 1) := by decide +kernel
theorem dX2_isAsTold_24 : decode cX2_isAsTold 24 = .ok (.getfield 15, 3) := by decide +kernel
theorem dX2_isAsTold_27 : decode cX2_isAsTold 27 = .ok (.getfield 99, 3) := by decide +kernel
theorem dX2_isAsTold_30 : decode cX2_isAsTold 30 = .ok (.iload_n 1, 1) := by decide +kernel
theorem dX2_isAsTold_31 : decode cX2_isAsTold 31 = .ok (.aload_n 0, 1) := by decide +kernel
theorem dX2_isAsTold_32 : decode cX2_isAsTold 32 = .ok (.getfield 15, 3) := by decide +kernel
theorem dX2_isAsTold_35 : decode cX2_isAsTold 35 = .ok (.getfield 159, 3) := by decide +kernel
theorem dX2_isAsTold_38 : decode cX2_isAsTold 38 = .ok (.iload_n 2, 1) := by decide +kernel
theorem dX2_isAsTold_39 : decode cX2_isAsTold 39 = .ok (.iaload, 1) := by decide +kernel
theorem dX2_isAsTold_40 : decode cX2_isAsTold 40 = .ok (.invokevirtual 162, 3) := by decide +kernel
theorem dX2_isAsTold_43 : decode cX2_isAsTold 43 = .ok (.aload_n 0, 1) := by decide +kernel
theorem dX2_isAsTold_44 : decode cX2_isAsTold 44 = .ok (.getfield 15, 3) := by decide +kernel
theorem dX2_isAsTold_47 : decode cX2_isAsTold 47 = .ok (.getfield 166, 3) := by decide +kernel
theorem dX2_isAsTold_50 : decode cX2_isAsTold 50 = .ok (.iload_n 2, 1) := by decide +kernel
theorem dX2_isAsTold_51 : decode cX2_isAsTold 51 = .ok (.iaload, 1) := by decide +kernel
theorem dX2_isAsTold_52 : decode cX2_isAsTold 52 = .ok (.if_icmp .eq 5, 3) := by decide +kernel
theorem dX2_isAsTold_55 : decode cX2_isAsTold 55 = .ok (.iconst 0, 1) := by decide +kernel
theorem dX2_isAsTold_56 : decode cX2_isAsTold 56 = .ok (.ireturn, 1) := by decide +kernel
theorem dX2_isAsTold_57 : decode cX2_isAsTold 57 = .ok (.iinc 2 1, 3) := by decide +kernel
theorem dX2_isAsTold_60 : decode cX2_isAsTold 60 = .ok (.goto (-58), 3) := by decide +kernel
theorem dX2_isAsTold_63 : decode cX2_isAsTold 63 = .ok (.iconst 1, 1) := by decide +kernel
theorem dX2_isAsTold_64 : decode cX2_isAsTold 64 = .ok (.ireturn, 1) := by decide +kernel
theorem dX2_costOfAll_0 : decode cX2_costOfAll 0 = .ok (.iconst 0, 1) := by decide +kernel
theorem dX2_costOfAll_1 : decode cX2_costOfAll 1 = .ok (.istore_n 2, 1) := by decide +kernel
theorem dX2_costOfAll_2 : decode cX2_costOfAll 2 = .ok (.iconst 0, 1) := by decide +kernel
theorem dX2_costOfAll_3 : decode cX2_costOfAll 3 = .ok (.istore_n 3, 1) := by decide +kernel
theorem dX2_costOfAll_4 : decode cX2_costOfAll 4 = .ok (.iload_n 3, 1) := by decide +kernel
theorem dX2_costOfAll_5 : decode cX2_costOfAll 5 = .ok (.iconst 2, 1) := by decide +kernel
theorem dX2_costOfAll_6 : decode cX2_costOfAll 6 = .ok (.if_icmp .ge 46, 3) := by decide +kernel
theorem dX2_costOfAll_9 : decode cX2_costOfAll 9 = .ok (.iconst 0, 1) := by decide +kernel
theorem dX2_costOfAll_10 : decode cX2_costOfAll 10 = .ok (.istore 4, 2) := by decide +kernel
theorem dX2_costOfAll_12 : decode cX2_costOfAll 12 = .ok (.iload 4, 2) := by decide +kernel
theorem dX2_costOfAll_14 : decode cX2_costOfAll 14 = .ok (.bipush 8, 2) := by decide +kernel
theorem dX2_costOfAll_16 : decode cX2_costOfAll 16 = .ok (.if_icmp .ge 30, 3) := by decide +kernel
theorem dX2_costOfAll_19 : decode cX2_costOfAll 19 = .ok (.iload_n 2, 1) := by decide +kernel
theorem dX2_costOfAll_20 : decode cX2_costOfAll 20 = .ok (.aload_n 0, 1) := by decide +kernel
theorem dX2_costOfAll_21 : decode cX2_costOfAll 21 = .ok (.getfield 19, 3) := by decide +kernel
theorem dX2_costOfAll_24 : decode cX2_costOfAll 24 = .ok (.aload_n 1, 1) := by decide +kernel
theorem dX2_costOfAll_25 : decode cX2_costOfAll 25 = .ok (.aload_n 0, 1) := by decide +kernel
theorem dX2_costOfAll_26 : decode cX2_costOfAll 26 = .ok (.getfield 15, 3) := by decide +kernel
theorem dX2_costOfAll_29 : decode cX2_costOfAll 29 = .ok (.getfield 99, 3) := by decide +kernel
theorem dX2_costOfAll_32 : decode cX2_costOfAll 32 = .ok (.iload_n 3, 1) := by decide +kernel
theorem dX2_costOfAll_33 : decode cX2_costOfAll 33 = .ok (.iload 4, 2) := by decide +kernel
theorem dX2_costOfAll_35 : decode cX2_costOfAll 35 = .ok (.invokevirtual 107, 3) := by decide +kernel
theorem dX2_costOfAll_38 : decode cX2_costOfAll 38 = .ok (.iadd, 1) := by decide +kernel
theorem dX2_costOfAll_39 : decode cX2_costOfAll 39 = .ok (.istore_n 2, 1) := by decide +kernel
theorem dX2_costOfAll_40 : decode cX2_costOfAll 40 = .ok (.iinc 4 1, 3) := by decide +kernel
theorem dX2_costOfAll_43 : decode cX2_costOfAll 43 = .ok (.goto (-31), 3) := by decide +kernel
theorem dX2_costOfAll_46 : decode cX2_costOfAll 46 = .ok (.iinc 3 1, 3) := by decide +kernel
theorem dX2_costOfAll_49 : decode cX2_costOfAll 49 = .ok (.goto (-45), 3) := by decide +kernel
theorem dX2_costOfAll_52 : decode cX2_costOfAll 52 = .ok (.iload_n 2, 1) := by decide +kernel
theorem dX2_costOfAll_53 : decode cX2_costOfAll 53 = .ok (.ireturn, 1) := by decide +kernel
