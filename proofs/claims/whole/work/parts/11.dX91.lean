/-! ===== what each instruction is (printed rows) ===== -/
theorem dX9_inner_0 : decode cX9_inner 0 = .ok (.iconst (-1), 1) := by decide +kernel
theorem dX9_inner_1 : decode cX9_inner 1 = .ok (.istore_n 1, 1) := by decide +kernel
theorem dX9_inner_2 : decode cX9_inner 2 = .ok (.iconst 0, 1) := by decide +kernel
theorem dX9_inner_3 : decode cX9_inner 3 = .ok (.istore_n 2, 1) := by decide +kernel
theorem dX9_inner_4 : decode cX9_inner 4 = .ok (.iload_n 2, 1) := by decide +kernel
theorem dX9_inner_5 : decode cX9_inner 5 = .ok (.aload_n 0, 1) := by decide +kernel
theorem dX9_inner_6 : decode cX9_inner 6 = .ok (.getfield 261, 3) := by decide +kernel
theorem dX9_inner_9 : decode cX9_inner 9 = .ok (.if_icmp .ge 31, 3) := by decide +kernel
theorem dX9_inner_12 : decode cX9_inner 12 = .ok (.aload_n 0, 1) := by decide +kernel
theorem dX9_inner_13 : decode cX9_inner 13 = .ok (.getfield 51, 3) := by decide +kernel
theorem dX9_inner_16 : decode cX9_inner 16 = .ok (.iload_n 2, 1) := by decide +kernel
theorem dX9_inner_17 : decode cX9_inner 17 = .ok (.iaload, 1) := by decide +kernel
theorem dX9_inner_18 : decode cX9_inner 18 = .ok (.bipush 31, 2) := by decide +kernel
theorem dX9_inner_20 : decode cX9_inner 20 = .ok (.if_icmp .lt 12, 3) := by decide +kernel
theorem dX9_inner_23 : decode cX9_inner 23 = .ok (.aload_n 0, 1) := by decide +kernel
theorem dX9_inner_24 : decode cX9_inner 24 = .ok (.getfield 51, 3) := by decide +kernel
theorem dX9_inner_27 : decode cX9_inner 27 = .ok (.iload_n 2, 1) := by decide +kernel
theorem dX9_inner_28 : decode cX9_inner 28 = .ok (.iaload, 1) := by decide +kernel
theorem dX9_inner_29 : decode cX9_inner 29 = .ok (.goto 4, 3) := by decide +kernel
theorem dX9_inner_32 : decode cX9_inner 32 = .ok (.iload_n 1, 1) := by decide +kernel
theorem dX9_inner_33 : decode cX9_inner 33 = .ok (.istore_n 1, 1) := by decide +kernel
theorem dX9_inner_34 : decode cX9_inner 34 = .ok (.iinc 2 1, 3) := by decide +kernel
theorem dX9_inner_37 : decode cX9_inner 37 = .ok (.goto (-33), 3) := by decide +kernel
theorem dX9_inner_40 : decode cX9_inner 40 = .ok (.iload_n 1, 1) := by decide +kernel
theorem dX9_inner_41 : decode cX9_inner 41 = .ok (.ireturn, 1) := by decide +kernel
theorem dX9_isCompared_0 : decode cX9_isCompared 0 = .ok (.aload_n 0, 1) := by decide +kernel
theorem dX9_isCompared_1 : decode cX9_isCompared 1 = .ok (.getfield 261, 3) := by decide +kernel
theorem dX9_isCompared_4 : decode cX9_isCompared 4 = .ok (.iconst 1, 1) := by decide +kernel
theorem dX9_isCompared_5 : decode cX9_isCompared 5 = .ok (.isub, 1) := by decide +kernel
theorem dX9_isCompared_6 : decode cX9_isCompared 6 = .ok (.istore_n 1, 1) := by decide +kernel
theorem dX9_isCompared_7 : decode cX9_isCompared 7 = .ok (.iload_n 1, 1) := by decide +kernel
theorem dX9_isCompared_8 : decode cX9_isCompared 8 = .ok (.ifCond .lt 28, 3) := by decide +kernel
theorem dX9_isCompared_11 : decode cX9_isCompared 11 = .ok (.aload_n 0, 1) := by decide +kernel
theorem dX9_isCompared_12 : decode cX9_isCompared 12 = .ok (.getfield 51, 3) := by decide +kernel
theorem dX9_isCompared_15 : decode cX9_isCompared 15 = .ok (.iload_n 1, 1) := by decide +kernel
theorem dX9_isCompared_16 : decode cX9_isCompared 16 = .ok (.iaload, 1) := by decide +kernel
theorem dX9_isCompared_17 : decode cX9_isCompared 17 = .ok (.i2l, 1) := by decide +kernel
theorem dX9_isCompared_18 : decode cX9_isCompared 18 = .ok (.ldc2_w 194, 3) := by decide +kernel
theorem dX9_isCompared_21 : decode cX9_isCompared 21 = .ok (.ldc2_w 271, 3) := by decide +kernel
theorem dX9_isCompared_24 : decode cX9_isCompared 24 = .ok (.invokestatic 154, 3) := by decide +kernel
theorem dX9_isCompared_27 : decode cX9_isCompared 27 = .ok (.ifCond .eq 9, 3) := by decide +kernel
theorem dX9_isCompared_30 : decode cX9_isCompared 30 = .ok (.iinc 1 (-1), 3) := by decide +kernel
theorem dX9_isCompared_33 : decode cX9_isCompared 33 = .ok (.goto (-26), 3) := by decide +kernel
theorem dX9_isCompared_36 : decode cX9_isCompared 36 = .ok (.iload_n 1, 1) := by decide +kernel
theorem dX9_isCompared_37 : decode cX9_isCompared 37 = .ok (.ifCond .lt 26, 3) := by decide +kernel
theorem dX9_isCompared_40 : decode cX9_isCompared 40 = .ok (.aload_n 0, 1) := by decide +kernel
theorem dX9_isCompared_41 : decode cX9_isCompared 41 = .ok (.getfield 51, 3) := by decide +kernel
theorem dX9_isCompared_44 : decode cX9_isCompared 44 = .ok (.iload_n 1, 1) := by decide +kernel
theorem dX9_isCompared_45 : decode cX9_isCompared 45 = .ok (.iaload, 1) := by decide +kernel
theorem dX9_isCompared_46 : decode cX9_isCompared 46 = .ok (.i2l, 1) := by decide +kernel
theorem dX9_isCompared_47 : decode cX9_isCompared 47 = .ok (.ldc2_w 273, 3) := by decide +kernel
theorem dX9_isCompared_50 : decode cX9_isCompared 50 = .ok (.ldc2_w 275, 3) := by decide +kernel
theorem dX9_isCompared_53 : decode cX9_isCompared 53 = .ok (.invokestatic 154, 3) := by decide +kernel
theorem dX9_isCompared_56 : decode cX9_isCompared 56 = .ok (.ifCond .eq 7, 3) := by decide +kernel
theorem dX9_isCompared_59 : decode cX9_isCompared 59 = .ok (.iconst 1, 1) := by decide +kernel
theorem dX9_isCompared_60 : decode cX9_isCompared 60 = .ok (.goto 4, 3) := by decide +kernel
theorem dX9_isCompared_63 : decode cX9_isCompared 63 = .ok (.iconst 0, 1) := by decide +kernel
theorem dX9_isCompared_64 : decode cX9_isCompared 64 = .ok (.ireturn, 1) := by decide +kernel
theorem dX9_partAt_0 : decode cX9_partAt 0 = .ok (.iconst (-1), 1) := by decide +kernel
theorem dX9_partAt_1 : decode cX9_partAt 1 = .ok (.istore_n 1, 1) := by decide +kernel
theorem dX9_partAt_2 : decode cX9_partAt 2 = .ok (.iconst 0, 1) := by decide +kernel
theorem dX9_partAt_3 : decode cX9_partAt 3 = .ok (.istore_n 2, 1) := by decide +kernel
theorem dX9_partAt_4 : decode cX9_partAt 4 = .ok (.iload_n 2, 1) := by decide +kernel
theorem dX9_partAt_5 : decode cX9_partAt 5 = .ok (.bipush 10, 2) := by decide +kernel
theorem dX9_partAt_7 : decode cX9_partAt 7 = .ok (.if_icmp .ge 30, 3) := by decide +kernel
theorem dX9_partAt_10 : decode cX9_partAt 10 = .ok (.aload_n 0, 1) := by decide +kernel
theorem dX9_partAt_11 : decode cX9_partAt 11 = .ok (.aload_n 0, 1) := by decide +kernel
theorem dX9_partAt_12 : decode cX9_partAt 12 = .ok (.getfield 77, 3) := by decide +kernel
theorem dX9_partAt_15 : decode cX9_partAt 15 = .ok (.iload_n 2, 1) := by decide +kernel
theorem dX9_partAt_16 : decode cX9_partAt 16 = .ok (.laload, 1) := by decide +kernel
theorem dX9_partAt_17 : decode cX9_partAt 17 = .ok (.invokevirtual 277, 3) := by decide +kernel
theorem dX9_partAt_20 : decode cX9_partAt 20 = .ok (.ifCond .eq 9, 3) := by decide +kernel
theorem dX9_partAt_23 : decode cX9_partAt 23 = .ok (.iload_n 2, 1) := by decide +kernel
theorem dX9_partAt_24 : decode cX9_partAt 24 = .ok (.iconst 1, 1) := by decide +kernel
theorem dX9_partAt_25 : decode cX9_partAt 25 = .ok (.iadd, 1) := by decide +kernel
theorem dX9_partAt_26 : decode cX9_partAt 26 = .ok (.goto 4, 3) := by decide +kernel
theorem dX9_partAt_29 : decode cX9_partAt 29 = .ok (.iload_n 1, 1) := by decide +kernel
theorem dX9_partAt_30 : decode cX9_partAt 30 = .ok (.istore_n 1, 1) := by decide +kernel
theorem dX9_partAt_31 : decode cX9_partAt 31 = .ok (.iinc 2 1, 3) := by decide +kernel
theorem dX9_partAt_34 : decode cX9_partAt 34 = .ok (.goto (-30), 3) := by decide +kernel
theorem dX9_partAt_37 : decode cX9_partAt 37 = .ok (.iload_n 1, 1) := by decide +kernel
theorem dX9_partAt_38 : decode cX9_partAt 38 = .ok (.ireturn, 1) := by decide +kernel
theorem dX9_orderPartAt_0 : decode cX9_orderPartAt 0 = .ok (.iconst (-1), 1) := by decide +kernel
theorem dX9_orderPartAt_1 : decode cX9_orderPartAt 1 = .ok (.istore_n 1, 1) := by decide +kernel
theorem dX9_orderPartAt_2 : decode cX9_orderPartAt 2 = .ok (.iconst 0, 1) := by decide +kernel
theorem dX9_orderPartAt_3 : decode cX9_orderPartAt 3 = .ok (.istore_n 2, 1) := by decide +kernel
theorem dX9_orderPartAt_4 : decode cX9_orderPartAt 4 = .ok (.iload_n 2, 1) := by decide +kernel
theorem dX9_orderPartAt_5 : decode cX9_orderPartAt 5 = .ok (.bipush 6, 2) := by decide +kernel
theorem dX9_orderPartAt_7 : decode cX9_orderPartAt 7 = .ok (.if_icmp .ge 30, 3) := by decide +kernel
theorem dX9_orderPartAt_10 : decode cX9_orderPartAt 10 = .ok (.aload_n 0, 1) := by decide +kernel
theorem dX9_orderPartAt_11 : decode cX9_orderPartAt 11 = .ok (.aload_n 0, 1) := by decide +kernel
theorem dX9_orderPartAt_12 : decode cX9_orderPartAt 12 = .ok (.getfield 85, 3) := by decide +kernel
theorem dX9_orderPartAt_15 : decode cX9_orderPartAt 15 = .ok (.iload_n 2, 1) := by decide +kernel
theorem dX9_orderPartAt_16 : decode cX9_orderPartAt 16 = .ok (.laload, 1) := by decide +kernel
theorem dX9_orderPartAt_17 : decode cX9_orderPartAt 17 = .ok (.invokevirtual 277, 3) := by decide +kernel
theorem dX9_orderPartAt_20 : decode cX9_orderPartAt 20 = .ok (.ifCond .eq 9, 3) := by decide +kernel
theorem dX9_orderPartAt_23 : decode cX9_orderPartAt 23 = .ok (.iload_n 2, 1) := by decide +kernel
theorem dX9_orderPartAt_24 : decode cX9_orderPartAt 24 = .ok (.iconst 1, 1) := by decide +kernel
theorem dX9_orderPartAt_25 : decode cX9_orderPartAt 25 = .ok (.iadd, 1) := by decide +kernel
theorem dX9_orderPartAt_26 : decode cX9_orderPartAt 26 = .ok (.goto 4, 3) := by decide +kernel
theorem dX9_orderPartAt_29 : decode cX9_orderPartAt 29 = .ok (.iload_n 1, 1) := by decide +kernel
theorem dX9_orderPartAt_30 : decode cX9_orderPartAt 30 = .ok (.istore_n 1, 1) := by decide +kernel
theorem dX9_orderPartAt_31 : decode cX9_orderPartAt 31 = .ok (.iinc 2 1, 3) := by decide +kernel
theorem dX9_orderPartAt_34 : decode cX9_orderPartAt 34 = .ok (.goto (-30), 3) := by decide +kernel
theorem dX9_orderPartAt_37 : decode cX9_orderPartAt 37 = .ok (.iload_n 1, 1) := by decide +kernel
theorem dX9_orderPartAt_38 : decode cX9_orderPartAt 38 = .ok (.ireturn, 1) := by decide +kernel
theorem dX9_openBracket_0 : decode cX9_openBracket 0 = .ok (.aload_n 0, 1) := by decide +kernel
theorem dX9_openBracket_1 : decode cX9_openBracket 1 = .ok (.aload_n 0, 1) := by decide +kernel
theorem dX9_openBracket_2 : decode cX9_openBracket 2 = .ok (.getfield 281, 3) := by decide +kernel
theorem dX9_openBracket_5 : decode cX9_openBracket 5 = .ok (.bipush 8, 2) := by decide +kernel
theorem dX9_openBracket_7 : decode cX9_openBracket 7 = .ok (.if_icmp .ge 7, 3) := by decide +kernel
theorem dX9_openBracket_10 : decode cX9_openBracket 10 = .ok (.iconst 1, 1) := by decide +kernel
theorem dX9_openBracket_11 : decode cX9_openBracket 11 = .ok (.goto 4, 3) := by decide +kernel
theorem dX9_openBracket_14 : decode cX9_openBracket 14 = .ok (.iconst 0, 1) := by decide +kernel
theorem dX9_openBracket_15 : decode cX9_openBracket 15 = .ok (.invokevirtual 254, 3) := by decide +kernel
theorem dX9_openBracket_18 : decode cX9_openBracket 18 = .ok (.aload_n 0, 1) := by decide +kernel
theorem dX9_openBracket_19 : decode cX9_openBracket 19 = .ok (.getfield 223, 3) := by decide +kernel
theorem dX9_openBracket_22 : decode cX9_openBracket 22 = .ok (.ifCond .ne 19, 3) := by decide +kernel
theorem dX9_openBracket_25 : decode cX9_openBracket 25 = .ok (.aload_n 0, 1) := by decide +kernel
theorem dX9_openBracket_26 : decode cX9_openBracket 26 = .ok (.dup, 1) := by decide +kernel
theorem dX9_openBracket_27 : decode cX9_openBracket 27 = .ok (.getfield 281, 3) := by decide +kernel
theorem dX9_openBracket_30 : decode cX9_openBracket 30 = .ok (.iconst 1, 1) := by decide +kernel
theorem dX9_openBracket_31 : decode cX9_openBracket 31 = .ok (.iadd, 1) := by decide +kernel
theorem dX9_openBracket_32 : decode cX9_openBracket 32 = .ok (.putfield 281, 3) := by decide +kernel
theorem dX9_openBracket_35 : decode cX9_openBracket 35 = .ok (.aload_n 0, 1) := by decide +kernel
theorem dX9_openBracket_36 : decode cX9_openBracket 36 = .ok (.iload_n 1, 1) := by decide +kernel
theorem dX9_openBracket_37 : decode cX9_openBracket 37 = .ok (.iconst 0, 1) := by decide +kernel
theorem dX9_openBracket_38 : decode cX9_openBracket 38 = .ok (.invokevirtual 284, 3) := by decide +kernel
theorem dX9_openBracket_41 : decode cX9_openBracket 41 = .ok (.return_, 1) := by decide +kernel
theorem dX9_leaf_0 : decode cX9_leaf 0 = .ok (.aload_n 0, 1) := by decide +kernel
theorem dX9_leaf_1 : decode cX9_leaf 1 = .ok (.iload_n 1, 1) := by decide +kernel
theorem dX9_leaf_2 : decode cX9_leaf 2 = .ok (.ifCond .eq 16, 3) := by decide +kernel
theorem dX9_leaf_5 : decode cX9_leaf 5 = .ok (.aload_n 0, 1) := by decide +kernel
theorem dX9_leaf_6 : decode cX9_leaf 6 = .ok (.getfield 287, 3) := by decide +kernel
theorem dX9_leaf_9 : decode cX9_leaf 9 = .ok (.bipush 50, 2) := by decide +kernel
theorem dX9_leaf_11 : decode cX9_leaf 11 = .ok (.if_icmp .ge 7, 3) := by decide +kernel
theorem dX9_leaf_14 : decode cX9_leaf 14 = .ok (.iconst 1, 1) := by decide +kernel
theorem dX9_leaf_15 : decode cX9_leaf 15 = .ok (.goto 4, 3) := by decide +kernel
theorem dX9_leaf_18 : decode cX9_leaf 18 = .ok (.iconst 0, 1) := by decide +kernel
theorem dX9_leaf_19 : decode cX9_leaf 19 = .ok (.invokevirtual 254, 3) := by decide +kernel
theorem dX9_leaf_22 : decode cX9_leaf 22 = .ok (.aload_n 0, 1) := by decide +kernel
theorem dX9_leaf_23 : decode cX9_leaf 23 = .ok (.getfield 223, 3) := by decide +kernel
theorem dX9_leaf_26 : decode cX9_leaf 26 = .ok (.ifCond .ne 19, 3) := by decide +kernel
theorem dX9_leaf_29 : decode cX9_leaf 29 = .ok (.aload_n 0, 1) := by decide +kernel
theorem dX9_leaf_30 : decode cX9_leaf 30 = .ok (.iload_n 2, 1) := by decide +kernel
theorem dX9_leaf_31 : decode cX9_leaf 31 = .ok (.iload_n 3, 1) := by decide +kernel
theorem dX9_leaf_32 : decode cX9_leaf 32 = .ok (.invokevirtual 267, 3) := by decide +kernel
theorem dX9_leaf_35 : decode cX9_leaf 35 = .ok (.aload_n 0, 1) := by decide +kernel
theorem dX9_leaf_36 : decode cX9_leaf 36 = .ok (.dup, 1) := by decide +kernel
theorem dX9_leaf_37 : decode cX9_leaf 37 = .ok (.getfield 287, 3) := by decide +kernel
theorem dX9_leaf_40 : decode cX9_leaf 40 = .ok (.iconst 1, 1) := by decide +kernel
theorem dX9_leaf_41 : decode cX9_leaf 41 = .ok (.iadd, 1) := by decide +kernel
theorem dX9_leaf_42 : decode cX9_leaf 42 = .ok (.putfield 287, 3) := by decide +kernel
theorem dX9_leaf_45 : decode cX9_leaf 45 = .ok (.return_, 1) := by decide +kernel
theorem dX9_readPart_0 : decode cX9_readPart 0 = .ok (.aload_n 0, 1) := by decide +kernel
theorem dX9_readPart_1 : decode cX9_readPart 1 = .ok (.bipush 91, 2) := by decide +kernel
theorem dX9_readPart_3 : decode cX9_readPart 3 = .ok (.invokevirtual 290, 3) := by decide +kernel
theorem dX9_readPart_6 : decode cX9_readPart 6 = .ok (.ifCond .eq 11, 3) := by decide +kernel
theorem dX9_readPart_9 : decode cX9_readPart 9 = .ok (.aload_n 0, 1) := by decide +kernel
theorem dX9_readPart_10 : decode cX9_readPart 10 = .ok (.bipush 32, 2) := by decide +kernel
theorem dX9_readPart_12 : decode cX9_readPart 12 = .ok (.invokevirtual 293, 3) := by decide +kernel
theorem dX9_readPart_15 : decode cX9_readPart 15 = .ok (.iconst 1, 1) := by decide +kernel
theorem dX9_readPart_16 : decode cX9_readPart 16 = .ok (.ireturn, 1) := by decide +kernel
theorem dX9_readPart_17 : decode cX9_readPart 17 = .ok (.aload_n 0, 1) := by decide +kernel
theorem dX9_readPart_18 : decode cX9_readPart 18 = .ok (.getfield 296, 3) := by decide +kernel
theorem dX9_readPart_21 : decode cX9_readPart 21 = .ok (.ifCond .eq 10, 3) := by decide +kernel
theorem dX9_readPart_24 : decode cX9_readPart 24 = .ok (.aload_n 0, 1) := by decide +kernel
theorem dX9_readPart_25 : decode cX9_readPart 25 = .ok (.invokevirtual 299, 3) := by decide +kernel
theorem dX9_readPart_28 : decode cX9_readPart 28 = .ok (.goto 7, 3) := by decide +kernel
theorem dX9_readPart_31 : decode cX9_readPart 31 = .ok (.aload_n 0, 1) := by decide +kernel
theorem dX9_readPart_32 : decode cX9_readPart 32 = .ok (.invokevirtual 303, 3) := by decide +kernel
theorem dX9_readPart_35 : decode cX9_readPart 35 = .ok (.istore_n 1, 1) := by decide +kernel
theorem dX9_readPart_36 : decode cX9_readPart 36 = .ok (.aload_n 0, 1) := by decide +kernel
theorem dX9_readPart_37 : decode cX9_readPart 37 = .ok (.getfield 243, 3) := by decide +kernel
theorem dX9_readPart_40 : decode cX9_readPart 40 = .ok (.iconst 2, 1) := by decide +kernel
theorem dX9_readPart_41 : decode cX9_readPart 41 = .ok (.if_icmp .ne 18, 3) := by decide +kernel
theorem dX9_readPart_44 : decode cX9_readPart 44 = .ok (.aload_n 0, 1) := by decide +kernel
theorem dX9_readPart_45 : decode cX9_readPart 45 = .ok (.getfield 233, 3) := by decide +kernel
theorem dX9_readPart_48 : decode cX9_readPart 48 = .ok (.ldc2_w 306, 3) := by decide +kernel
theorem dX9_readPart_51 : decode cX9_readPart 51 = .ok (.lcmp, 1) := by decide +kernel
theorem dX9_readPart_52 : decode cX9_readPart 52 = .ok (.ifCond .gt 7, 3) := by decide +kernel
theorem dX9_readPart_55 : decode cX9_readPart 55 = .ok (.iconst 1, 1) := by decide +kernel
theorem dX9_readPart_56 : decode cX9_readPart 56 = .ok (.goto 4, 3) := by decide +kernel
theorem dX9_readPart_59 : decode cX9_readPart 59 = .ok (.iconst 0, 1) := by decide +kernel
theorem dX9_readPart_60 : decode cX9_readPart 60 = .ok (.istore_n 2, 1) := by decide +kernel
theorem dX9_readPart_61 : decode cX9_readPart 61 = .ok (.aload_n 0, 1) := by decide +kernel
theorem dX9_readPart_62 : decode cX9_readPart 62 = .ok (.iload_n 1, 1) := by decide +kernel
theorem dX9_readPart_63 : decode cX9_readPart 63 = .ok (.iconst (-1), 1) := by decide +kernel
theorem dX9_readPart_64 : decode cX9_readPart 64 = .ok (.if_icmp .ne 7, 3) := by decide +kernel
theorem dX9_readPart_67 : decode cX9_readPart 67 = .ok (.iload_n 2, 1) := by decide +kernel
theorem dX9_readPart_68 : decode cX9_readPart 68 = .ok (.ifCond .eq 7, 3) := by decide +kernel
theorem dX9_readPart_71 : decode cX9_readPart 71 = .ok (.iconst 1, 1) := by decide +kernel
theorem dX9_readPart_72 : decode cX9_readPart 72 = .ok (.goto 4, 3) := by decide +kernel
theorem dX9_readPart_75 : decode cX9_readPart 75 = .ok (.iconst 0, 1) := by decide +kernel
theorem dX9_readPart_76 : decode cX9_readPart 76 = .ok (.iload_n 1, 1) := by decide +kernel
theorem dX9_readPart_77 : decode cX9_readPart 77 = .ok (.iconst (-1), 1) := by decide +kernel
theorem dX9_readPart_78 : decode cX9_readPart 78 = .ok (.if_icmp .ne 7, 3) := by decide +kernel
theorem dX9_readPart_81 : decode cX9_readPart 81 = .ok (.iconst 0, 1) := by decide +kernel
theorem dX9_readPart_82 : decode cX9_readPart 82 = .ok (.goto 4, 3) := by decide +kernel
theorem dX9_readPart_85 : decode cX9_readPart 85 = .ok (.iload_n 1, 1) := by decide +kernel
theorem dX9_readPart_86 : decode cX9_readPart 86 = .ok (.iload_n 2, 1) := by decide +kernel
theorem dX9_readPart_87 : decode cX9_readPart 87 = .ok (.ifCond .eq 11, 3) := by decide +kernel
theorem dX9_readPart_90 : decode cX9_readPart 90 = .ok (.aload_n 0, 1) := by decide +kernel
theorem dX9_readPart_91 : decode cX9_readPart 91 = .ok (.getfield 233, 3) := by decide +kernel
theorem dX9_readPart_94 : decode cX9_readPart 94 = .ok (.l2i, 1) := by decide +kernel
theorem dX9_readPart_95 : decode cX9_readPart 95 = .ok (.goto 4, 3) := by decide +kernel
theorem dX9_readPart_98 : decode cX9_readPart 98 = .ok (.iconst 0, 1) := by decide +kernel
theorem dX9_readPart_99 : decode cX9_readPart 99 = .ok (.invokevirtual 308, 3) := by decide +kernel
theorem dX9_readPart_102 : decode cX9_readPart 102 = .ok (.aload_n 0, 1) := by decide +kernel
theorem dX9_readPart_103 : decode cX9_readPart 103 = .ok (.getfield 296, 3) := by decide +kernel
theorem dX9_readPart_106 : decode cX9_readPart 106 = .ok (.ifCond .eq 45, 3) := by decide +kernel
theorem dX9_readPart_109 : decode cX9_readPart 109 = .ok (.iload_n 1, 1) := by decide +kernel
theorem dX9_readPart_110 : decode cX9_readPart 110 = .ok (.iconst 4, 1) := by decide +kernel
theorem dX9_readPart_111 : decode cX9_readPart 111 = .ok (.if_icmp .lt 40, 3) := by decide +kernel
theorem dX9_readPart_114 : decode cX9_readPart 114 = .ok (.aload_n 0, 1) := by decide +kernel
theorem dX9_readPart_115 : decode cX9_readPart 115 = .ok (.getfield 223, 3) := by decide +kernel
theorem dX9_readPart_118 : decode cX9_readPart 118 = .ok (.ifCond .ne 33, 3) := by decide +kernel
theorem dX9_readPart_121 : decode cX9_readPart 121 = .ok (.aload_n 0, 1) := by decide +kernel
theorem dX9_readPart_122 : decode cX9_readPart 122 = .ok (.getfield 258, 3) := by decide +kernel
theorem dX9_readPart_125 : decode cX9_readPart 125 = .ok (.iconst 1, 1) := by decide +kernel
theorem dX9_readPart_126 : decode cX9_readPart 126 = .ok (.isub, 1) := by decide +kernel
theorem dX9_readPart_127 : decode cX9_readPart 127 = .ok (.istore_n 3, 1) := by decide +kernel
theorem dX9_readPart_128 : decode cX9_readPart 128 = .ok (.aload_n 0, 1) := by decide +kernel
theorem dX9_readPart_129 : decode cX9_readPart 129 = .ok (.getfield 48, 3) := by decide +kernel
theorem dX9_readPart_132 : decode cX9_readPart 132 = .ok (.iload_n 3, 1) := by decide +kernel
theorem dX9_readPart_133 : decode cX9_readPart 133 = .ok (.aload_n 0, 1) := by decide +kernel
theorem dX9_readPart_134 : decode cX9_readPart 134 = .ok (.lconst 0, 1) := by decide +kernel
theorem dX9_readPart_135 : decode cX9_readPart 135 = .ok (.iload_n 1, 1) := by decide +kernel
theorem dX9_readPart_136 : decode cX9_readPart 136 = .ok (.iconst 4, 1) := by decide +kernel
theorem dX9_readPart_137 : decode cX9_readPart 137 = .ok (.if_icmp .ne 9, 3) := by decide +kernel
theorem dX9_readPart_140 : decode cX9_readPart 140 = .ok (.ldc2_w 161, 3) := by decide +kernel
theorem dX9_readPart_143 : decode cX9_readPart 143 = .ok (.goto 4, 3) := by decide +kernel
theorem dX9_readPart_146 : decode cX9_readPart 146 = .ok (.lconst 1, 1) := by decide +kernel
theorem dX9_readPart_147 : decode cX9_readPart 147 = .ok (.invokevirtual 312, 3) := by decide +kernel
theorem dX9_readPart_150 : decode cX9_readPart 150 = .ok (.iastore, 1) := by decide +kernel
theorem dX9_readPart_151 : decode cX9_readPart 151 = .ok (.iconst 3, 1) := by decide +kernel
theorem dX9_readPart_152 : decode cX9_readPart 152 = .ok (.ireturn, 1) := by decide +kernel
theorem dX9_readPlain_0 : decode cX9_readPlain 0 = .ok (.aload_n 0, 1) := by decide +kernel
theorem dX9_readPlain_1 : decode cX9_readPlain 1 = .ok (.ldc2_w 316, 3) := by decide +kernel
theorem dX9_readPlain_4 : decode cX9_readPlain 4 = .ok (.invokevirtual 277, 3) := by decide +kernel
theorem dX9_readPlain_7 : decode cX9_readPlain 7 = .ok (.ifCond .eq 16, 3) := by decide +kernel
theorem dX9_readPlain_10 : decode cX9_readPlain 10 = .ok (.aload_n 0, 1) := by decide +kernel
theorem dX9_readPlain_11 : decode cX9_readPlain 11 = .ok (.bipush 28, 2) := by decide +kernel
theorem dX9_readPlain_13 : decode cX9_readPlain 13 = .ok (.iconst 0, 1) := by decide +kernel
theorem dX9_readPlain_14 : decode cX9_readPlain 14 = .ok (.invokevirtual 284, 3) := by decide +kernel
theorem dX9_readPlain_17 : decode cX9_readPlain 17 = .ok (.aload_n 0, 1) := by decide +kernel
theorem dX9_readPlain_18 : decode cX9_readPlain 18 = .ok (.invokevirtual 227, 3) := by decide +kernel
theorem dX9_readPlain_21 : decode cX9_readPlain 21 = .ok (.iconst 0, 1) := by decide +kernel
theorem dX9_readPlain_22 : decode cX9_readPlain 22 = .ok (.ireturn, 1) := by decide +kernel
theorem dX9_readPlain_23 : decode cX9_readPlain 23 = .ok (.aload_n 0, 1) := by decide +kernel
theorem dX9_readPlain_24 : decode cX9_readPlain 24 = .ok (.bipush 40, 2) := by decide +kernel
theorem dX9_readPlain_26 : decode cX9_readPlain 26 = .ok (.invokevirtual 290, 3) := by decide +kernel
theorem dX9_readPlain_29 : decode cX9_readPlain 29 = .ok (.ifCond .eq 11, 3) := by decide +kernel
theorem dX9_readPlain_32 : decode cX9_readPlain 32 = .ok (.aload_n 0, 1) := by decide +kernel
theorem dX9_readPlain_33 : decode cX9_readPlain 33 = .ok (.bipush 31, 2) := by decide +kernel
theorem dX9_readPlain_35 : decode cX9_readPlain 35 = .ok (.invokevirtual 293, 3) := by decide +kernel
theorem dX9_readPlain_38 : decode cX9_readPlain 38 = .ok (.iconst 0, 1) := by decide +kernel
theorem dX9_readPlain_39 : decode cX9_readPlain 39 = .ok (.ireturn, 1) := by decide +kernel
theorem dX9_readPlain_40 : decode cX9_readPlain 40 = .ok (.aload_n 0, 1) := by decide +kernel
theorem dX9_readPlain_41 : decode cX9_readPlain 41 = .ok (.invokevirtual 318, 3) := by decide +kernel
theorem dX9_readPlain_44 : decode cX9_readPlain 44 = .ok (.ireturn, 1) := by decide +kernel
theorem dX9_behindSum_0 : decode cX9_behindSum 0 = .ok (.aload_n 0, 1) := by decide +kernel
theorem dX9_behindSum_1 : decode cX9_behindSum 1 = .ok (.bipush 43, 2) := by decide +kernel
theorem dX9_behindSum_3 : decode cX9_behindSum 3 = .ok (.invokevirtual 290, 3) := by decide +kernel
theorem dX9_behindSum_6 : decode cX9_behindSum 6 = .ok (.ifCond .eq 8, 3) := by decide +kernel
theorem dX9_behindSum_9 : decode cX9_behindSum 9 = .ok (.bipush 20, 2) := by decide +kernel
theorem dX9_behindSum_11 : decode cX9_behindSum 11 = .ok (.goto 60, 3) := by decide +kernel
theorem dX9_behindSum_14 : decode cX9_behindSum 14 = .ok (.aload_n 0, 1) := by decide +kernel
theorem dX9_behindSum_15 : decode cX9_behindSum 15 = .ok (.bipush 45, 2) := by decide +kernel
theorem dX9_behindSum_17 : decode cX9_behindSum 17 = .ok (.invokevirtual 290, 3) := by decide +kernel
theorem dX9_behindSum_20 : decode cX9_behindSum 20 = .ok (.ifCond .eq 8, 3) := by decide +kernel
theorem dX9_behindSum_23 : decode cX9_behindSum 23 = .ok (.bipush 21, 2) := by decide +kernel
theorem dX9_behindSum_25 : decode cX9_behindSum 25 = .ok (.goto 46, 3) := by decide +kernel
theorem dX9_behindSum_28 : decode cX9_behindSum 28 = .ok (.aload_n 0, 1) := by decide +kernel
theorem dX9_behindSum_29 : decode cX9_behindSum 29 = .ok (.bipush 42, 2) := by decide +kernel
theorem dX9_behindSum_31 : decode cX9_behindSum 31 = .ok (.invokevirtual 290, 3) := by decide +kernel
theorem dX9_behindSum_34 : decode cX9_behindSum 34 = .ok (.ifCond .eq 8, 3) := by decide +kernel
theorem dX9_behindSum_37 : decode cX9_behindSum 37 = .ok (.bipush 22, 2) := by decide +kernel
theorem dX9_behindSum_39 : decode cX9_behindSum 39 = .ok (.goto 32, 3) := by decide +kernel
theorem dX9_behindSum_42 : decode cX9_behindSum 42 = .ok (.aload_n 0, 1) := by decide +kernel
theorem dX9_behindSum_43 : decode cX9_behindSum 43 = .ok (.bipush 47, 2) := by decide +kernel
theorem dX9_behindSum_45 : decode cX9_behindSum 45 = .ok (.invokevirtual 290, 3) := by decide +kernel
theorem dX9_behindSum_48 : decode cX9_behindSum 48 = .ok (.ifCond .eq 8, 3) := by decide +kernel
theorem dX9_behindSum_51 : decode cX9_behindSum 51 = .ok (.bipush 23, 2) := by decide +kernel
theorem dX9_behindSum_53 : decode cX9_behindSum 53 = .ok (.goto 18, 3) := by decide +kernel
theorem dX9_behindSum_56 : decode cX9_behindSum 56 = .ok (.aload_n 0, 1) := by decide +kernel
theorem dX9_behindSum_57 : decode cX9_behindSum 57 = .ok (.bipush 37, 2) := by decide +kernel
theorem dX9_behindSum_59 : decode cX9_behindSum 59 = .ok (.invokevirtual 290, 3) := by decide +kernel
theorem dX9_behindSum_62 : decode cX9_behindSum 62 = .ok (.ifCond .eq 8, 3) := by decide +kernel
theorem dX9_behindSum_65 : decode cX9_behindSum 65 = .ok (.bipush 24, 2) := by decide +kernel
theorem dX9_behindSum_67 : decode cX9_behindSum 67 = .ok (.goto 4, 3) := by decide +kernel
theorem dX9_behindSum_70 : decode cX9_behindSum 70 = .ok (.iconst (-1), 1) := by decide +kernel
theorem dX9_behindSum_71 : decode cX9_behindSum 71 = .ok (.istore_n 2, 1) := by decide +kernel
theorem dX9_behindSum_72 : decode cX9_behindSum 72 = .ok (.iload_n 2, 1) := by decide +kernel
theorem dX9_behindSum_73 : decode cX9_behindSum 73 = .ok (.iconst (-1), 1) := by decide +kernel
theorem dX9_behindSum_74 : decode cX9_behindSum 74 = .ok (.if_icmp .eq 23, 3) := by decide +kernel
theorem dX9_behindSum_77 : decode cX9_behindSum 77 = .ok (.aload_n 0, 1) := by decide +kernel
theorem dX9_behindSum_78 : decode cX9_behindSum 78 = .ok (.iload_n 2, 1) := by decide +kernel
theorem dX9_behindSum_79 : decode cX9_behindSum 79 = .ok (.invokestatic 264, 3) := by decide +kernel
theorem dX9_behindSum_82 : decode cX9_behindSum 82 = .ok (.invokevirtual 321, 3) := by decide +kernel
theorem dX9_behindSum_85 : decode cX9_behindSum 85 = .ok (.aload_n 0, 1) := by decide +kernel
theorem dX9_behindSum_86 : decode cX9_behindSum 86 = .ok (.iload_n 2, 1) := by decide +kernel
theorem dX9_behindSum_87 : decode cX9_behindSum 87 = .ok (.iconst 0, 1) := by decide +kernel
theorem dX9_behindSum_88 : decode cX9_behindSum 88 = .ok (.invokevirtual 284, 3) := by decide +kernel
theorem dX9_behindSum_91 : decode cX9_behindSum 91 = .ok (.aload_n 0, 1) := by decide +kernel
theorem dX9_behindSum_92 : decode cX9_behindSum 92 = .ok (.invokevirtual 227, 3) := by decide +kernel
theorem dX9_behindSum_95 : decode cX9_behindSum 95 = .ok (.iconst 1, 1) := by decide +kernel
theorem dX9_behindSum_96 : decode cX9_behindSum 96 = .ok (.ireturn, 1) := by decide +kernel
theorem dX9_behindSum_97 : decode cX9_behindSum 97 = .ok (.aload_n 0, 1) := by decide +kernel
theorem dX9_behindSum_98 : decode cX9_behindSum 98 = .ok (.invokevirtual 324, 3) := by decide +kernel
theorem dX9_behindSum_101 : decode cX9_behindSum 101 = .ok (.istore_n 3, 1) := by decide +kernel
theorem dX9_behindSum_102 : decode cX9_behindSum 102 = .ok (.iload_n 3, 1) := by decide +kernel
theorem dX9_behindSum_103 : decode cX9_behindSum 103 = .ok (.bipush 32, 2) := by decide +kernel
theorem dX9_behindSum_105 : decode cX9_behindSum 105 = .ok (.if_icmp .ne 47, 3) := by decide +kernel
theorem dX9_behindSum_108 : decode cX9_behindSum 108 = .ok (.aload_n 0, 1) := by decide +kernel
theorem dX9_behindSum_109 : decode cX9_behindSum 109 = .ok (.aload_n 0, 1) := by decide +kernel
theorem dX9_behindSum_110 : decode cX9_behindSum 110 = .ok (.bipush 93, 2) := by decide +kernel
theorem dX9_behindSum_112 : decode cX9_behindSum 112 = .ok (.invokevirtual 290, 3) := by decide +kernel
theorem dX9_behindSum_115 : decode cX9_behindSum 115 = .ok (.invokevirtual 254, 3) := by decide +kernel
theorem dX9_behindSum_118 : decode cX9_behindSum 118 = .ok (.aload_n 0, 1) := by decide +kernel
theorem dX9_behindSum_119 : decode cX9_behindSum 119 = .ok (.getfield 223, 3) := by decide +kernel
theorem dX9_behindSum_122 : decode cX9_behindSum 122 = .ok (.ifCond .ne 28, 3) := by decide +kernel
theorem dX9_behindSum_125 : decode cX9_behindSum 125 = .ok (.aload_n 0, 1) := by decide +kernel
theorem dX9_behindSum_126 : decode cX9_behindSum 126 = .ok (.iconst 5, 1) := by decide +kernel
theorem dX9_behindSum_127 : decode cX9_behindSum 127 = .ok (.invokevirtual 321, 3) := by decide +kernel
theorem dX9_behindSum_130 : decode cX9_behindSum 130 = .ok (.aload_n 0, 1) := by decide +kernel
theorem dX9_behindSum_131 : decode cX9_behindSum 131 = .ok (.dup, 1) := by decide +kernel
theorem dX9_behindSum_132 : decode cX9_behindSum 132 = .ok (.getfield 261, 3) := by decide +kernel
theorem dX9_behindSum_135 : decode cX9_behindSum 135 = .ok (.iconst 1, 1) := by decide +kernel
theorem dX9_behindSum_136 : decode cX9_behindSum 136 = .ok (.isub, 1) := by decide +kernel
theorem dX9_behindSum_137 : decode cX9_behindSum 137 = .ok (.putfield 261, 3) := by decide +kernel
theorem dX9_behindSum_140 : decode cX9_behindSum 140 = .ok (.aload_n 0, 1) := by decide +kernel
theorem dX9_behindSum_141 : decode cX9_behindSum 141 = .ok (.dup, 1) := by decide +kernel
theorem dX9_behindSum_142 : decode cX9_behindSum 142 = .ok (.getfield 281, 3) := by decide +kernel
theorem dX9_behindSum_145 : decode cX9_behindSum 145 = .ok (.iconst 1, 1) := by decide +kernel
theorem dX9_behindSum_146 : decode cX9_behindSum 146 = .ok (.isub, 1) := by decide +kernel
theorem dX9_behindSum_147 : decode cX9_behindSum 147 = .ok (.putfield 281, 3) := by decide +kernel
theorem dX9_behindSum_150 : decode cX9_behindSum 150 = .ok (.iconst 3, 1) := by decide +kernel
theorem dX9_behindSum_151 : decode cX9_behindSum 151 = .ok (.ireturn, 1) := by decide +kernel
theorem dX9_behindSum_152 : decode cX9_behindSum 152 = .ok (.iload_n 3, 1) := by decide +kernel
theorem dX9_behindSum_153 : decode cX9_behindSum 153 = .ok (.iconst (-1), 1) := by decide +kernel
theorem dX9_behindSum_154 : decode cX9_behindSum 154 = .ok (.if_icmp .ne 9, 3) := by decide +kernel
theorem dX9_behindSum_157 : decode cX9_behindSum 157 = .ok (.iload_n 1, 1) := by decide +kernel
theorem dX9_behindSum_158 : decode cX9_behindSum 158 = .ok (.ifCond .ne 5, 3) := by decide +kernel
theorem dX9_behindSum_161 : decode cX9_behindSum 161 = .ok (.iconst 4, 1) := by decide +kernel
theorem dX9_behindSum_162 : decode cX9_behindSum 162 = .ok (.ireturn, 1) := by decide +kernel
theorem dX9_behindSum_163 : decode cX9_behindSum 163 = .ok (.aload_n 0, 1) := by decide +kernel
theorem dX9_behindSum_164 : decode cX9_behindSum 164 = .ok (.invokevirtual 327, 3) := by decide +kernel
theorem dX9_behindSum_167 : decode cX9_behindSum 167 = .ok (.ifCond .eq 5, 3) := by decide +kernel
theorem dX9_behindSum_170 : decode cX9_behindSum 170 = .ok (.iconst 2, 1) := by decide +kernel
theorem dX9_behindSum_171 : decode cX9_behindSum 171 = .ok (.ireturn, 1) := by decide +kernel
theorem dX9_behindSum_172 : decode cX9_behindSum 172 = .ok (.aload_n 0, 1) := by decide +kernel
theorem dX9_behindSum_173 : decode cX9_behindSum 173 = .ok (.bipush 60, 2) := by decide +kernel
theorem dX9_behindSum_175 : decode cX9_behindSum 175 = .ok (.invokevirtual 290, 3) := by decide +kernel
theorem dX9_behindSum_178 : decode cX9_behindSum 178 = .ok (.ifCond .eq 8, 3) := by decide +kernel
theorem dX9_behindSum_181 : decode cX9_behindSum 181 = .ok (.bipush 25, 2) := by decide +kernel
theorem dX9_behindSum_183 : decode cX9_behindSum 183 = .ok (.goto 19, 3) := by decide +kernel
theorem dX9_behindSum_186 : decode cX9_behindSum 186 = .ok (.aload_n 0, 1) := by decide +kernel
theorem dX9_behindSum_187 : decode cX9_behindSum 187 = .ok (.bipush 62, 2) := by decide +kernel
theorem dX9_behindSum_189 : decode cX9_behindSum 189 = .ok (.invokevirtual 290, 3) := by decide +kernel
theorem dX9_behindSum_192 : decode cX9_behindSum 192 = .ok (.ifCond .eq 8, 3) := by decide +kernel
theorem dX9_behindSum_195 : decode cX9_behindSum 195 = .ok (.bipush 26, 2) := by decide +kernel
theorem dX9_behindSum_197 : decode cX9_behindSum 197 = .ok (.goto 5, 3) := by decide +kernel
theorem dX9_behindSum_200 : decode cX9_behindSum 200 = .ok (.bipush 27, 2) := by decide +kernel
theorem dX9_behindSum_202 : decode cX9_behindSum 202 = .ok (.istore_n 2, 1) := by decide +kernel
theorem dX9_behindSum_203 : decode cX9_behindSum 203 = .ok (.aload_n 0, 1) := by decide +kernel
theorem dX9_behindSum_204 : decode cX9_behindSum 204 = .ok (.iload_n 2, 1) := by decide +kernel
theorem dX9_behindSum_205 : decode cX9_behindSum 205 = .ok (.bipush 27, 2) := by decide +kernel
theorem dX9_behindSum_207 : decode cX9_behindSum 207 = .ok (.if_icmp .ne 12, 3) := by decide +kernel
theorem dX9_behindSum_210 : decode cX9_behindSum 210 = .ok (.aload_n 0, 1) := by decide +kernel
theorem dX9_behindSum_211 : decode cX9_behindSum 211 = .ok (.bipush 61, 2) := by decide +kernel
theorem dX9_behindSum_213 : decode cX9_behindSum 213 = .ok (.invokevirtual 290, 3) := by decide +kernel
theorem dX9_behindSum_216 : decode cX9_behindSum 216 = .ok (.ifCond .eq 7, 3) := by decide +kernel
theorem dX9_behindSum_219 : decode cX9_behindSum 219 = .ok (.iconst 1, 1) := by decide +kernel
theorem dX9_behindSum_220 : decode cX9_behindSum 220 = .ok (.goto 4, 3) := by decide +kernel
theorem dX9_behindSum_223 : decode cX9_behindSum 223 = .ok (.iconst 0, 1) := by decide +kernel
theorem dX9_behindSum_224 : decode cX9_behindSum 224 = .ok (.invokevirtual 254, 3) := by decide +kernel
theorem dX9_behindSum_227 : decode cX9_behindSum 227 = .ok (.aload_n 0, 1) := by decide +kernel
theorem dX9_behindSum_228 : decode cX9_behindSum 228 = .ok (.getfield 223, 3) := by decide +kernel
theorem dX9_behindSum_231 : decode cX9_behindSum 231 = .ok (.ifCond .ne 14, 3) := by decide +kernel
theorem dX9_behindSum_234 : decode cX9_behindSum 234 = .ok (.aload_n 0, 1) := by decide +kernel
theorem dX9_behindSum_235 : decode cX9_behindSum 235 = .ok (.iconst 5, 1) := by decide +kernel
theorem dX9_behindSum_236 : decode cX9_behindSum 236 = .ok (.invokevirtual 321, 3) := by decide +kernel
theorem dX9_behindSum_239 : decode cX9_behindSum 239 = .ok (.aload_n 0, 1) := by decide +kernel
theorem dX9_behindSum_240 : decode cX9_behindSum 240 = .ok (.iload_n 2, 1) := by decide +kernel
theorem dX9_behindSum_241 : decode cX9_behindSum 241 = .ok (.iconst 0, 1) := by decide +kernel
theorem dX9_behindSum_242 : decode cX9_behindSum 242 = .ok (.invokevirtual 284, 3) := by decide +kernel
theorem dX9_behindSum_245 : decode cX9_behindSum 245 = .ok (.iconst 1, 1) := by decide +kernel
theorem dX9_behindSum_246 : decode cX9_behindSum 246 = .ok (.ireturn, 1) := by decide +kernel
theorem dX9_behindTest_0 : decode cX9_behindTest 0 = .ok (.aload_n 0, 1) := by decide +kernel
theorem dX9_behindTest_1 : decode cX9_behindTest 1 = .ok (.ldc2_w 331, 3) := by decide +kernel
theorem dX9_behindTest_4 : decode cX9_behindTest 4 = .ok (.invokevirtual 277, 3) := by decide +kernel
theorem dX9_behindTest_7 : decode cX9_behindTest 7 = .ok (.istore_n 1, 1) := by decide +kernel
theorem dX9_behindTest_8 : decode cX9_behindTest 8 = .ok (.iload_n 1, 1) := by decide +kernel
theorem dX9_behindTest_9 : decode cX9_behindTest 9 = .ok (.ifCond .ne 13, 3) := by decide +kernel
theorem dX9_behindTest_12 : decode cX9_behindTest 12 = .ok (.aload_n 0, 1) := by decide +kernel
theorem dX9_behindTest_13 : decode cX9_behindTest 13 = .ok (.ldc2_w 333, 3) := by decide +kernel
theorem dX9_behindTest_16 : decode cX9_behindTest 16 = .ok (.invokevirtual 277, 3) := by decide +kernel
theorem dX9_behindTest_19 : decode cX9_behindTest 19 = .ok (.ifCond .eq 57, 3) := by decide +kernel
theorem dX9_behindTest_22 : decode cX9_behindTest 22 = .ok (.aload_n 0, 1) := by decide +kernel
theorem dX9_behindTest_23 : decode cX9_behindTest 23 = .ok (.iload_n 1, 1) := by decide +kernel
theorem dX9_behindTest_24 : decode cX9_behindTest 24 = .ok (.ifCond .eq 7, 3) := by decide +kernel
theorem dX9_behindTest_27 : decode cX9_behindTest 27 = .ok (.iconst 2, 1) := by decide +kernel
theorem dX9_behindTest_28 : decode cX9_behindTest 28 = .ok (.goto 4, 3) := by decide +kernel
theorem dX9_behindTest_31 : decode cX9_behindTest 31 = .ok (.iconst 1, 1) := by decide +kernel
theorem dX9_behindTest_32 : decode cX9_behindTest 32 = .ok (.invokevirtual 321, 3) := by decide +kernel
theorem dX9_behindTest_35 : decode cX9_behindTest 35 = .ok (.aload_n 0, 1) := by decide +kernel
theorem dX9_behindTest_36 : decode cX9_behindTest 36 = .ok (.iload_n 1, 1) := by decide +kernel
theorem dX9_behindTest_37 : decode cX9_behindTest 37 = .ok (.ifCond .eq 8, 3) := by decide +kernel
theorem dX9_behindTest_40 : decode cX9_behindTest 40 = .ok (.bipush 29, 2) := by decide +kernel
theorem dX9_behindTest_42 : decode cX9_behindTest 42 = .ok (.goto 5, 3) := by decide +kernel
theorem dX9_behindTest_45 : decode cX9_behindTest 45 = .ok (.bipush 30, 2) := by decide +kernel
theorem dX9_behindTest_47 : decode cX9_behindTest 47 = .ok (.aload_n 0, 1) := by decide +kernel
theorem dX9_behindTest_48 : decode cX9_behindTest 48 = .ok (.getfield 258, 3) := by decide +kernel
theorem dX9_behindTest_51 : decode cX9_behindTest 51 = .ok (.invokevirtual 284, 3) := by decide +kernel
theorem dX9_behindTest_54 : decode cX9_behindTest 54 = .ok (.aload_n 0, 1) := by decide +kernel
theorem dX9_behindTest_55 : decode cX9_behindTest 55 = .ok (.iload_n 1, 1) := by decide +kernel
theorem dX9_behindTest_56 : decode cX9_behindTest 56 = .ok (.ifCond .eq 8, 3) := by decide +kernel
theorem dX9_behindTest_59 : decode cX9_behindTest 59 = .ok (.bipush 29, 2) := by decide +kernel
theorem dX9_behindTest_61 : decode cX9_behindTest 61 = .ok (.goto 5, 3) := by decide +kernel
theorem dX9_behindTest_64 : decode cX9_behindTest 64 = .ok (.bipush 30, 2) := by decide +kernel
theorem dX9_behindTest_66 : decode cX9_behindTest 66 = .ok (.iconst 0, 1) := by decide +kernel
theorem dX9_behindTest_67 : decode cX9_behindTest 67 = .ok (.invokevirtual 267, 3) := by decide +kernel
theorem dX9_behindTest_70 : decode cX9_behindTest 70 = .ok (.aload_n 0, 1) := by decide +kernel
theorem dX9_behindTest_71 : decode cX9_behindTest 71 = .ok (.invokevirtual 227, 3) := by decide +kernel
theorem dX9_behindTest_74 : decode cX9_behindTest 74 = .ok (.iconst 0, 1) := by decide +kernel
theorem dX9_behindTest_75 : decode cX9_behindTest 75 = .ok (.ireturn, 1) := by decide +kernel
theorem dX9_behindTest_76 : decode cX9_behindTest 76 = .ok (.aload_n 0, 1) := by decide +kernel
theorem dX9_behindTest_77 : decode cX9_behindTest 77 = .ok (.invokevirtual 324, 3) := by decide +kernel
theorem dX9_behindTest_80 : decode cX9_behindTest 80 = .ok (.iconst (-1), 1) := by decide +kernel
theorem dX9_behindTest_81 : decode cX9_behindTest 81 = .ok (.if_icmp .ne 5, 3) := by decide +kernel
theorem dX9_behindTest_84 : decode cX9_behindTest 84 = .ok (.iconst 4, 1) := by decide +kernel
theorem dX9_behindTest_85 : decode cX9_behindTest 85 = .ok (.ireturn, 1) := by decide +kernel
theorem dX9_behindTest_86 : decode cX9_behindTest 86 = .ok (.aload_n 0, 1) := by decide +kernel
theorem dX9_behindTest_87 : decode cX9_behindTest 87 = .ok (.aload_n 0, 1) := by decide +kernel
theorem dX9_behindTest_88 : decode cX9_behindTest 88 = .ok (.bipush 41, 2) := by decide +kernel
theorem dX9_behindTest_90 : decode cX9_behindTest 90 = .ok (.invokevirtual 290, 3) := by decide +kernel
theorem dX9_behindTest_93 : decode cX9_behindTest 93 = .ok (.invokevirtual 254, 3) := by decide +kernel
theorem dX9_behindTest_96 : decode cX9_behindTest 96 = .ok (.aload_n 0, 1) := by decide +kernel
theorem dX9_behindTest_97 : decode cX9_behindTest 97 = .ok (.getfield 223, 3) := by decide +kernel
theorem dX9_behindTest_100 : decode cX9_behindTest 100 = .ok (.ifCond .ne 28, 3) := by decide +kernel
theorem dX9_behindTest_103 : decode cX9_behindTest 103 = .ok (.aload_n 0, 1) := by decide +kernel
theorem dX9_behindTest_104 : decode cX9_behindTest 104 = .ok (.iconst 1, 1) := by decide +kernel
theorem dX9_behindTest_105 : decode cX9_behindTest 105 = .ok (.invokevirtual 321, 3) := by decide +kernel
theorem dX9_behindTest_108 : decode cX9_behindTest 108 = .ok (.aload_n 0, 1) := by decide +kernel
theorem dX9_behindTest_109 : decode cX9_behindTest 109 = .ok (.dup, 1) := by decide +kernel
theorem dX9_behindTest_110 : decode cX9_behindTest 110 = .ok (.getfield 261, 3) := by decide +kernel
theorem dX9_behindTest_113 : decode cX9_behindTest 113 = .ok (.iconst 1, 1) := by decide +kernel
theorem dX9_behindTest_114 : decode cX9_behindTest 114 = .ok (.isub, 1) := by decide +kernel
theorem dX9_behindTest_115 : decode cX9_behindTest 115 = .ok (.putfield 261, 3) := by decide +kernel
theorem dX9_behindTest_118 : decode cX9_behindTest 118 = .ok (.aload_n 0, 1) := by decide +kernel
theorem dX9_behindTest_119 : decode cX9_behindTest 119 = .ok (.dup, 1) := by decide +kernel
theorem dX9_behindTest_120 : decode cX9_behindTest 120 = .ok (.getfield 281, 3) := by decide +kernel
theorem dX9_behindTest_123 : decode cX9_behindTest 123 = .ok (.iconst 1, 1) := by decide +kernel
theorem dX9_behindTest_124 : decode cX9_behindTest 124 = .ok (.isub, 1) := by decide +kernel
theorem dX9_behindTest_125 : decode cX9_behindTest 125 = .ok (.putfield 281, 3) := by decide +kernel
theorem dX9_behindTest_128 : decode cX9_behindTest 128 = .ok (.iconst 2, 1) := by decide +kernel
theorem dX9_behindTest_129 : decode cX9_behindTest 129 = .ok (.ireturn, 1) := by decide +kernel
theorem dX9_readExpression_0 : decode cX9_readExpression 0 = .ok (.aload_n 0, 1) := by decide +kernel
theorem dX9_readExpression_1 : decode cX9_readExpression 1 = .ok (.iconst 0, 1) := by decide +kernel
theorem dX9_readExpression_2 : decode cX9_readExpression 2 = .ok (.putfield 261, 3) := by decide +kernel
theorem dX9_readExpression_5 : decode cX9_readExpression 5 = .ok (.aload_n 0, 1) := by decide +kernel
theorem dX9_readExpression_6 : decode cX9_readExpression 6 = .ok (.iconst 0, 1) := by decide +kernel
theorem dX9_readExpression_7 : decode cX9_readExpression 7 = .ok (.putfield 281, 3) := by decide +kernel
theorem dX9_readExpression_10 : decode cX9_readExpression 10 = .ok (.iload_n 1, 1) := by decide +kernel
theorem dX9_readExpression_11 : decode cX9_readExpression 11 = .ok (.ifCond .eq 7, 3) := by decide +kernel
theorem dX9_readExpression_14 : decode cX9_readExpression 14 = .ok (.iconst 0, 1) := by decide +kernel
theorem dX9_readExpression_15 : decode cX9_readExpression 15 = .ok (.goto 4, 3) := by decide +kernel
theorem dX9_readExpression_18 : decode cX9_readExpression 18 = .ok (.iconst 1, 1) := by decide +kernel
theorem dX9_readExpression_19 : decode cX9_readExpression 19 = .ok (.istore_n 2, 1) := by decide +kernel
theorem dX9_readExpression_20 : decode cX9_readExpression 20 = .ok (.aload_n 0, 1) := by decide +kernel
theorem dX9_readExpression_21 : decode cX9_readExpression 21 = .ok (.getfield 223, 3) := by decide +kernel
theorem dX9_readExpression_24 : decode cX9_readExpression 24 = .ok (.ifCond .ne 52, 3) := by decide +kernel
theorem dX9_readExpression_27 : decode cX9_readExpression 27 = .ok (.iload_n 2, 1) := by decide +kernel
theorem dX9_readExpression_28 : decode cX9_readExpression 28 = .ok (.iconst 4, 1) := by decide +kernel
theorem dX9_readExpression_29 : decode cX9_readExpression 29 = .ok (.if_icmp .eq 47, 3) := by decide +kernel
theorem dX9_readExpression_32 : decode cX9_readExpression 32 = .ok (.iload_n 2, 1) := by decide +kernel
theorem dX9_readExpression_33 : decode cX9_readExpression 33 = .ok (.ifCond .ne 10, 3) := by decide +kernel
theorem dX9_readExpression_36 : decode cX9_readExpression 36 = .ok (.aload_n 0, 1) := by decide +kernel
theorem dX9_readExpression_37 : decode cX9_readExpression 37 = .ok (.invokevirtual 335, 3) := by decide +kernel
theorem dX9_readExpression_40 : decode cX9_readExpression 40 = .ok (.goto 32, 3) := by decide +kernel
theorem dX9_readExpression_43 : decode cX9_readExpression 43 = .ok (.iload_n 2, 1) := by decide +kernel
theorem dX9_readExpression_44 : decode cX9_readExpression 44 = .ok (.iconst 1, 1) := by decide +kernel
theorem dX9_readExpression_45 : decode cX9_readExpression 45 = .ok (.if_icmp .ne 10, 3) := by decide +kernel
theorem dX9_readExpression_48 : decode cX9_readExpression 48 = .ok (.aload_n 0, 1) := by decide +kernel
theorem dX9_readExpression_49 : decode cX9_readExpression 49 = .ok (.invokevirtual 318, 3) := by decide +kernel
theorem dX9_readExpression_52 : decode cX9_readExpression 52 = .ok (.goto 20, 3) := by decide +kernel
theorem dX9_readExpression_55 : decode cX9_readExpression 55 = .ok (.iload_n 2, 1) := by decide +kernel
theorem dX9_readExpression_56 : decode cX9_readExpression 56 = .ok (.iconst 3, 1) := by decide +kernel
theorem dX9_readExpression_57 : decode cX9_readExpression 57 = .ok (.if_icmp .ne 11, 3) := by decide +kernel
theorem dX9_readExpression_60 : decode cX9_readExpression 60 = .ok (.aload_n 0, 1) := by decide +kernel
theorem dX9_readExpression_61 : decode cX9_readExpression 61 = .ok (.iload_n 1, 1) := by decide +kernel
theorem dX9_readExpression_62 : decode cX9_readExpression 62 = .ok (.invokevirtual 338, 3) := by decide +kernel
theorem dX9_readExpression_65 : decode cX9_readExpression 65 = .ok (.goto 7, 3) := by decide +kernel
theorem dX9_readExpression_68 : decode cX9_readExpression 68 = .ok (.aload_n 0, 1) := by decide +kernel
theorem dX9_readExpression_69 : decode cX9_readExpression 69 = .ok (.invokevirtual 342, 3) := by decide +kernel
theorem dX9_readExpression_72 : decode cX9_readExpression 72 = .ok (.istore_n 2, 1) := by decide +kernel
theorem dX9_readExpression_73 : decode cX9_readExpression 73 = .ok (.goto (-53), 3) := by decide +kernel
theorem dX9_readExpression_76 : decode cX9_readExpression 76 = .ok (.aload_n 0, 1) := by decide +kernel
theorem dX9_readExpression_77 : decode cX9_readExpression 77 = .ok (.iconst 1, 1) := by decide +kernel
theorem dX9_readExpression_78 : decode cX9_readExpression 78 = .ok (.invokevirtual 321, 3) := by decide +kernel
theorem dX9_readExpression_81 : decode cX9_readExpression 81 = .ok (.return_, 1) := by decide +kernel
theorem dX9_beginText_0 : decode cX9_beginText 0 = .ok (.aload_n 0, 1) := by decide +kernel
theorem dX9_beginText_1 : decode cX9_beginText 1 = .ok (.iload_n 1, 1) := by decide +kernel
theorem dX9_beginText_2 : decode cX9_beginText 2 = .ok (.putfield 296, 3) := by decide +kernel
theorem dX9_beginText_5 : decode cX9_beginText 5 = .ok (.aload_n 0, 1) := by decide +kernel
theorem dX9_beginText_6 : decode cX9_beginText 6 = .ok (.invokevirtual 345, 3) := by decide +kernel
theorem dX9_beginText_9 : decode cX9_beginText 9 = .ok (.aload_n 0, 1) := by decide +kernel
theorem dX9_beginText_10 : decode cX9_beginText 10 = .ok (.iconst 0, 1) := by decide +kernel
theorem dX9_beginText_11 : decode cX9_beginText 11 = .ok (.putfield 348, 3) := by decide +kernel
theorem dX9_beginText_14 : decode cX9_beginText 14 = .ok (.aload_n 0, 1) := by decide +kernel
theorem dX9_beginText_15 : decode cX9_beginText 15 = .ok (.iconst 0, 1) := by decide +kernel
theorem dX9_beginText_16 : decode cX9_beginText 16 = .ok (.putfield 258, 3) := by decide +kernel
theorem dX9_beginText_19 : decode cX9_beginText 19 = .ok (.aload_n 0, 1) := by decide +kernel
theorem dX9_beginText_20 : decode cX9_beginText 20 = .ok (.iconst 0, 1) := by decide +kernel
theorem dX9_beginText_21 : decode cX9_beginText 21 = .ok (.putfield 287, 3) := by decide +kernel
theorem dX9_beginText_24 : decode cX9_beginText 24 = .ok (.return_, 1) := by decide +kernel
theorem dX9_endText_0 : decode cX9_endText 0 = .ok (.aload_n 0, 1) := by decide +kernel
theorem dX9_endText_1 : decode cX9_endText 1 = .ok (.getfield 223, 3) := by decide +kernel
theorem dX9_endText_4 : decode cX9_endText 4 = .ok (.ifCond .ne 15, 3) := by decide +kernel
theorem dX9_endText_7 : decode cX9_endText 7 = .ok (.aload_n 0, 1) := by decide +kernel
theorem dX9_endText_8 : decode cX9_endText 8 = .ok (.getfield 243, 3) := by decide +kernel
theorem dX9_endText_11 : decode cX9_endText 11 = .ok (.ifCond .eq 8, 3) := by decide +kernel
theorem dX9_endText_14 : decode cX9_endText 14 = .ok (.aload_n 0, 1) := by decide +kernel
theorem dX9_endText_15 : decode cX9_endText 15 = .ok (.iconst 0, 1) := by decide +kernel
theorem dX9_endText_16 : decode cX9_endText 16 = .ok (.invokevirtual 254, 3) := by decide +kernel
theorem dX9_endText_19 : decode cX9_endText 19 = .ok (.aload_n 0, 1) := by decide +kernel
theorem dX9_endText_20 : decode cX9_endText 20 = .ok (.iconst 0, 1) := by decide +kernel
theorem dX9_endText_21 : decode cX9_endText 21 = .ok (.putfield 296, 3) := by decide +kernel
theorem dX9_endText_24 : decode cX9_endText 24 = .ok (.aload_n 0, 1) := by decide +kernel
theorem dX9_endText_25 : decode cX9_endText 25 = .ok (.iconst 0, 1) := by decide +kernel
theorem dX9_endText_26 : decode cX9_endText 26 = .ok (.putfield 211, 3) := by decide +kernel
theorem dX9_endText_29 : decode cX9_endText 29 = .ok (.return_, 1) := by decide +kernel
theorem dX9_readLaw_0 : decode cX9_readLaw 0 = .ok (.iconst (-1), 1) := by decide +kernel
theorem dX9_readLaw_1 : decode cX9_readLaw 1 = .ok (.istore_n 1, 1) := by decide +kernel
theorem dX9_readLaw_2 : decode cX9_readLaw 2 = .ok (.iconst 0, 1) := by decide +kernel
theorem dX9_readLaw_3 : decode cX9_readLaw 3 = .ok (.istore_n 2, 1) := by decide +kernel
theorem dX9_readLaw_4 : decode cX9_readLaw 4 = .ok (.iload_n 2, 1) := by decide +kernel
theorem dX9_readLaw_5 : decode cX9_readLaw 5 = .ok (.iconst 4, 1) := by decide +kernel
theorem dX9_readLaw_6 : decode cX9_readLaw 6 = .ok (.if_icmp .ge 28, 3) := by decide +kernel
theorem dX9_readLaw_9 : decode cX9_readLaw 9 = .ok (.aload_n 0, 1) := by decide +kernel
theorem dX9_readLaw_10 : decode cX9_readLaw 10 = .ok (.aload_n 0, 1) := by decide +kernel
theorem dX9_readLaw_11 : decode cX9_readLaw 11 = .ok (.getfield 96, 3) := by decide +kernel
theorem dX9_readLaw_14 : decode cX9_readLaw 14 = .ok (.iload_n 2, 1) := by decide +kernel
theorem dX9_readLaw_15 : decode cX9_readLaw 15 = .ok (.laload, 1) := by decide +kernel
theorem dX9_readLaw_16 : decode cX9_readLaw 16 = .ok (.invokevirtual 277, 3) := by decide +kernel
theorem dX9_readLaw_19 : decode cX9_readLaw 19 = .ok (.ifCond .eq 7, 3) := by decide +kernel
theorem dX9_readLaw_22 : decode cX9_readLaw 22 = .ok (.iload_n 2, 1) := by decide +kernel
theorem dX9_readLaw_23 : decode cX9_readLaw 23 = .ok (.goto 4, 3) := by decide +kernel
theorem dX9_readLaw_26 : decode cX9_readLaw 26 = .ok (.iload_n 1, 1) := by decide +kernel
theorem dX9_readLaw_27 : decode cX9_readLaw 27 = .ok (.istore_n 1, 1) := by decide +kernel
theorem dX9_readLaw_28 : decode cX9_readLaw 28 = .ok (.iinc 2 1, 3) := by decide +kernel
theorem dX9_readLaw_31 : decode cX9_readLaw 31 = .ok (.goto (-27), 3) := by decide +kernel
theorem dX9_readLaw_34 : decode cX9_readLaw 34 = .ok (.aload_n 0, 1) := by decide +kernel
theorem dX9_readLaw_35 : decode cX9_readLaw 35 = .ok (.iload_n 1, 1) := by decide +kernel
theorem dX9_readLaw_36 : decode cX9_readLaw 36 = .ok (.iconst (-1), 1) := by decide +kernel
theorem dX9_readLaw_37 : decode cX9_readLaw 37 = .ok (.if_icmp .eq 16, 3) := by decide +kernel
theorem dX9_readLaw_40 : decode cX9_readLaw 40 = .ok (.aload_n 0, 1) := by decide +kernel
theorem dX9_readLaw_41 : decode cX9_readLaw 41 = .ok (.getfield 348, 3) := by decide +kernel
theorem dX9_readLaw_44 : decode cX9_readLaw 44 = .ok (.bipush 12, 2) := by decide +kernel
theorem dX9_readLaw_46 : decode cX9_readLaw 46 = .ok (.if_icmp .ge 7, 3) := by decide +kernel
theorem dX9_readLaw_49 : decode cX9_readLaw 49 = .ok (.iconst 1, 1) := by decide +kernel
theorem dX9_readLaw_50 : decode cX9_readLaw 50 = .ok (.goto 4, 3) := by decide +kernel
theorem dX9_readLaw_53 : decode cX9_readLaw 53 = .ok (.iconst 0, 1) := by decide +kernel
theorem dX9_readLaw_54 : decode cX9_readLaw 54 = .ok (.invokevirtual 254, 3) := by decide +kernel
theorem dX9_readLaw_57 : decode cX9_readLaw 57 = .ok (.aload_n 0, 1) := by decide +kernel
theorem dX9_readLaw_58 : decode cX9_readLaw 58 = .ok (.getfield 223, 3) := by decide +kernel
theorem dX9_readLaw_61 : decode cX9_readLaw 61 = .ok (.ifCond .eq 4, 3) := by decide +kernel
theorem dX9_readLaw_64 : decode cX9_readLaw 64 = .ok (.return_, 1) := by decide +kernel
theorem dX9_readLaw_65 : decode cX9_readLaw 65 = .ok (.bipush 8, 2) := by decide +kernel
theorem dX9_readLaw_67 : decode cX9_readLaw 67 = .ok (.aload_n 0, 1) := by decide +kernel
theorem dX9_readLaw_68 : decode cX9_readLaw 68 = .ok (.getfield 348, 3) := by decide +kernel
theorem dX9_readLaw_71 : decode cX9_readLaw 71 = .ok (.imul, 1) := by decide +kernel
theorem dX9_readLaw_72 : decode cX9_readLaw 72 = .ok (.istore_n 2, 1) := by decide +kernel
theorem dX9_readLaw_73 : decode cX9_readLaw 73 = .ok (.iconst 0, 1) := by decide +kernel
theorem dX9_readLaw_74 : decode cX9_readLaw 74 = .ok (.istore_n 3, 1) := by decide +kernel
theorem dX9_readLaw_75 : decode cX9_readLaw 75 = .ok (.iload_n 3, 1) := by decide +kernel
theorem dX9_readLaw_76 : decode cX9_readLaw 76 = .ok (.bipush 8, 2) := by decide +kernel
theorem dX9_readLaw_78 : decode cX9_readLaw 78 = .ok (.if_icmp .ge 18, 3) := by decide +kernel
theorem dX9_readLaw_81 : decode cX9_readLaw 81 = .ok (.aload_n 0, 1) := by decide +kernel
theorem dX9_readLaw_82 : decode cX9_readLaw 82 = .ok (.getfield 42, 3) := by decide +kernel
theorem dX9_readLaw_85 : decode cX9_readLaw 85 = .ok (.iload_n 2, 1) := by decide +kernel
theorem dX9_readLaw_86 : decode cX9_readLaw 86 = .ok (.iload_n 3, 1) := by decide +kernel
theorem dX9_readLaw_87 : decode cX9_readLaw 87 = .ok (.iadd, 1) := by decide +kernel
theorem dX9_readLaw_88 : decode cX9_readLaw 88 = .ok (.iconst 0, 1) := by decide +kernel
theorem dX9_readLaw_89 : decode cX9_readLaw 89 = .ok (.iastore, 1) := by decide +kernel
theorem dX9_readLaw_90 : decode cX9_readLaw 90 = .ok (.iinc 3 1, 3) := by decide +kernel
theorem dX9_readLaw_93 : decode cX9_readLaw 93 = .ok (.goto (-18), 3) := by decide +kernel
theorem dX9_readLaw_96 : decode cX9_readLaw 96 = .ok (.aload_n 0, 1) := by decide +kernel
theorem dX9_readLaw_97 : decode cX9_readLaw 97 = .ok (.getfield 42, 3) := by decide +kernel
theorem dX9_readLaw_100 : decode cX9_readLaw 100 = .ok (.iload_n 2, 1) := by decide +kernel
theorem dX9_readLaw_101 : decode cX9_readLaw 101 = .ok (.iload_n 1, 1) := by decide +kernel
theorem dX9_readLaw_102 : decode cX9_readLaw 102 = .ok (.iastore, 1) := by decide +kernel
theorem dX9_readLaw_103 : decode cX9_readLaw 103 = .ok (.aload_n 0, 1) := by decide +kernel
theorem dX9_readLaw_104 : decode cX9_readLaw 104 = .ok (.dup, 1) := by decide +kernel
theorem dX9_readLaw_105 : decode cX9_readLaw 105 = .ok (.getfield 348, 3) := by decide +kernel
theorem dX9_readLaw_108 : decode cX9_readLaw 108 = .ok (.iconst 1, 1) := by decide +kernel
theorem dX9_readLaw_109 : decode cX9_readLaw 109 = .ok (.iadd, 1) := by decide +kernel
theorem dX9_readLaw_110 : decode cX9_readLaw 110 = .ok (.putfield 348, 3) := by decide +kernel
theorem dX9_readLaw_113 : decode cX9_readLaw 113 = .ok (.aload_n 0, 1) := by decide +kernel
theorem dX9_readLaw_114 : decode cX9_readLaw 114 = .ok (.getfield 42, 3) := by decide +kernel
theorem dX9_readLaw_117 : decode cX9_readLaw 117 = .ok (.iload_n 2, 1) := by decide +kernel
theorem dX9_readLaw_118 : decode cX9_readLaw 118 = .ok (.iconst 3, 1) := by decide +kernel
theorem dX9_readLaw_119 : decode cX9_readLaw 119 = .ok (.iadd, 1) := by decide +kernel
theorem dX9_readLaw_120 : decode cX9_readLaw 120 = .ok (.aload_n 0, 1) := by decide +kernel
theorem dX9_readLaw_121 : decode cX9_readLaw 121 = .ok (.getfield 258, 3) := by decide +kernel
theorem dX9_readLaw_124 : decode cX9_readLaw 124 = .ok (.iastore, 1) := by decide +kernel
theorem dX9_readLaw_125 : decode cX9_readLaw 125 = .ok (.iload_n 1, 1) := by decide +kernel
theorem dX9_readLaw_126 : decode cX9_readLaw 126 = .ok (.iconst 3, 1) := by decide +kernel
theorem dX9_readLaw_127 : decode cX9_readLaw 127 = .ok (.if_icmp .eq 8, 3) := by decide +kernel
theorem dX9_readLaw_130 : decode cX9_readLaw 130 = .ok (.aload_n 0, 1) := by decide +kernel
theorem dX9_readLaw_131 : decode cX9_readLaw 131 = .ok (.iconst 0, 1) := by decide +kernel
theorem dX9_readLaw_132 : decode cX9_readLaw 132 = .ok (.invokevirtual 351, 3) := by decide +kernel
theorem dX9_readLaw_135 : decode cX9_readLaw 135 = .ok (.aload_n 0, 1) := by decide +kernel
theorem dX9_readLaw_136 : decode cX9_readLaw 136 = .ok (.getfield 42, 3) := by decide +kernel
theorem dX9_readLaw_139 : decode cX9_readLaw 139 = .ok (.iload_n 2, 1) := by decide +kernel
theorem dX9_readLaw_140 : decode cX9_readLaw 140 = .ok (.iconst 4, 1) := by decide +kernel
theorem dX9_readLaw_141 : decode cX9_readLaw 141 = .ok (.iadd, 1) := by decide +kernel
theorem dX9_readLaw_142 : decode cX9_readLaw 142 = .ok (.aload_n 0, 1) := by decide +kernel
theorem dX9_readLaw_143 : decode cX9_readLaw 143 = .ok (.getfield 258, 3) := by decide +kernel
theorem dX9_readLaw_146 : decode cX9_readLaw 146 = .ok (.iastore, 1) := by decide +kernel
theorem dX9_readLaw_147 : decode cX9_readLaw 147 = .ok (.aload_n 0, 1) := by decide +kernel
theorem dX9_readLaw_148 : decode cX9_readLaw 148 = .ok (.getfield 42, 3) := by decide +kernel
theorem dX9_readLaw_151 : decode cX9_readLaw 151 = .ok (.iload_n 2, 1) := by decide +kernel
theorem dX9_readLaw_152 : decode cX9_readLaw 152 = .ok (.iconst 5, 1) := by decide +kernel
theorem dX9_readLaw_153 : decode cX9_readLaw 153 = .ok (.iadd, 1) := by decide +kernel
theorem dX9_readLaw_154 : decode cX9_readLaw 154 = .ok (.aload_n 0, 1) := by decide +kernel
theorem dX9_readLaw_155 : decode cX9_readLaw 155 = .ok (.getfield 258, 3) := by decide +kernel
theorem dX9_readLaw_158 : decode cX9_readLaw 158 = .ok (.iastore, 1) := by decide +kernel
theorem dX9_readLaw_159 : decode cX9_readLaw 159 = .ok (.aload_n 0, 1) := by decide +kernel
theorem dX9_readLaw_160 : decode cX9_readLaw 160 = .ok (.getfield 223, 3) := by decide +kernel
theorem dX9_readLaw_163 : decode cX9_readLaw 163 = .ok (.ifCond .ne 22, 3) := by decide +kernel
theorem dX9_readLaw_166 : decode cX9_readLaw 166 = .ok (.aload_n 0, 1) := by decide +kernel
theorem dX9_readLaw_167 : decode cX9_readLaw 167 = .ok (.ldc2_w 354, 3) := by decide +kernel
theorem dX9_readLaw_170 : decode cX9_readLaw 170 = .ok (.invokevirtual 277, 3) := by decide +kernel
theorem dX9_readLaw_173 : decode cX9_readLaw 173 = .ok (.ifCond .eq 12, 3) := by decide +kernel
theorem dX9_readLaw_176 : decode cX9_readLaw 176 = .ok (.aload_n 0, 1) := by decide +kernel
theorem dX9_readLaw_177 : decode cX9_readLaw 177 = .ok (.invokevirtual 227, 3) := by decide +kernel
theorem dX9_readLaw_180 : decode cX9_readLaw 180 = .ok (.aload_n 0, 1) := by decide +kernel
theorem dX9_readLaw_181 : decode cX9_readLaw 181 = .ok (.iconst 1, 1) := by decide +kernel
theorem dX9_readLaw_182 : decode cX9_readLaw 182 = .ok (.invokevirtual 351, 3) := by decide +kernel
theorem dX9_readLaw_185 : decode cX9_readLaw 185 = .ok (.aload_n 0, 1) := by decide +kernel
theorem dX9_readLaw_186 : decode cX9_readLaw 186 = .ok (.getfield 42, 3) := by decide +kernel
theorem dX9_readLaw_189 : decode cX9_readLaw 189 = .ok (.iload_n 2, 1) := by decide +kernel
theorem dX9_readLaw_190 : decode cX9_readLaw 190 = .ok (.bipush 6, 2) := by decide +kernel
theorem dX9_readLaw_192 : decode cX9_readLaw 192 = .ok (.iadd, 1) := by decide +kernel
theorem dX9_readLaw_193 : decode cX9_readLaw 193 = .ok (.aload_n 0, 1) := by decide +kernel
theorem dX9_readLaw_194 : decode cX9_readLaw 194 = .ok (.getfield 258, 3) := by decide +kernel
theorem dX9_readLaw_197 : decode cX9_readLaw 197 = .ok (.iastore, 1) := by decide +kernel
theorem dX9_readLaw_198 : decode cX9_readLaw 198 = .ok (.return_, 1) := by decide +kernel
theorem dX9_law_0 : decode cX9_law 0 = .ok (.aload_n 0, 1) := by decide +kernel
theorem dX9_law_1 : decode cX9_law 1 = .ok (.iconst 0, 1) := by decide +kernel
theorem dX9_law_2 : decode cX9_law 2 = .ok (.putfield 134, 3) := by decide +kernel
theorem dX9_law_5 : decode cX9_law 5 = .ok (.aload_n 0, 1) := by decide +kernel
theorem dX9_law_6 : decode cX9_law 6 = .ok (.getfield 13, 3) := by decide +kernel
theorem dX9_law_9 : decode cX9_law 9 = .ok (.iconst 2, 1) := by decide +kernel
theorem dX9_law_10 : decode cX9_law 10 = .ok (.iaload, 1) := by decide +kernel
theorem dX9_law_11 : decode cX9_law 11 = .ok (.bipush 6, 2) := by decide +kernel
theorem dX9_law_13 : decode cX9_law 13 = .ok (.if_icmp .ne 15, 3) := by decide +kernel
theorem dX9_law_16 : decode cX9_law 16 = .ok (.aload_n 0, 1) := by decide +kernel
theorem dX9_law_17 : decode cX9_law 17 = .ok (.iconst 0, 1) := by decide +kernel
theorem dX9_law_18 : decode cX9_law 18 = .ok (.putfield 211, 3) := by decide +kernel
theorem dX9_law_21 : decode cX9_law 21 = .ok (.aload_n 0, 1) := by decide +kernel
theorem dX9_law_22 : decode cX9_law 22 = .ok (.bipush (-5), 2) := by decide +kernel
theorem dX9_law_24 : decode cX9_law 24 = .ok (.invokevirtual 143, 3) := by decide +kernel
theorem dX9_law_27 : decode cX9_law 27 = .ok (.ireturn, 1) := by decide +kernel
theorem dX9_law_28 : decode cX9_law 28 = .ok (.aload_n 0, 1) := by decide +kernel
theorem dX9_law_29 : decode cX9_law 29 = .ok (.iconst 0, 1) := by decide +kernel
theorem dX9_law_30 : decode cX9_law 30 = .ok (.invokevirtual 356, 3) := by decide +kernel
theorem dX9_law_33 : decode cX9_law 33 = .ok (.aload_n 0, 1) := by decide +kernel
theorem dX9_law_34 : decode cX9_law 34 = .ok (.invokevirtual 359, 3) := by decide +kernel
theorem dX9_law_37 : decode cX9_law 37 = .ok (.aload_n 0, 1) := by decide +kernel
theorem dX9_law_38 : decode cX9_law 38 = .ok (.getfield 223, 3) := by decide +kernel
theorem dX9_law_41 : decode cX9_law 41 = .ok (.ifCond .ne 23, 3) := by decide +kernel
theorem dX9_law_44 : decode cX9_law 44 = .ok (.aload_n 0, 1) := by decide +kernel
theorem dX9_law_45 : decode cX9_law 45 = .ok (.bipush 59, 2) := by decide +kernel
theorem dX9_law_47 : decode cX9_law 47 = .ok (.invokevirtual 290, 3) := by decide +kernel
theorem dX9_law_50 : decode cX9_law 50 = .ok (.ifCond .eq 14, 3) := by decide +kernel
theorem dX9_law_53 : decode cX9_law 53 = .ok (.aload_n 0, 1) := by decide +kernel
theorem dX9_law_54 : decode cX9_law 54 = .ok (.invokevirtual 227, 3) := by decide +kernel
theorem dX9_law_57 : decode cX9_law 57 = .ok (.aload_n 0, 1) := by decide +kernel
theorem dX9_law_58 : decode cX9_law 58 = .ok (.invokevirtual 359, 3) := by decide +kernel
theorem dX9_law_61 : decode cX9_law 61 = .ok (.goto (-24), 3) := by decide +kernel
theorem dX9_law_64 : decode cX9_law 64 = .ok (.aload_n 0, 1) := by decide +kernel
theorem dX9_law_65 : decode cX9_law 65 = .ok (.invokevirtual 362, 3) := by decide +kernel
theorem dX9_law_68 : decode cX9_law 68 = .ok (.aload_n 0, 1) := by decide +kernel
theorem dX9_law_69 : decode cX9_law 69 = .ok (.getfield 223, 3) := by decide +kernel
theorem dX9_law_72 : decode cX9_law 72 = .ok (.ifCond .eq 10, 3) := by decide +kernel
theorem dX9_law_75 : decode cX9_law 75 = .ok (.aload_n 0, 1) := by decide +kernel
theorem dX9_law_76 : decode cX9_law 76 = .ok (.bipush (-6), 2) := by decide +kernel
theorem dX9_law_78 : decode cX9_law 78 = .ok (.invokevirtual 143, 3) := by decide +kernel
theorem dX9_law_81 : decode cX9_law 81 = .ok (.ireturn, 1) := by decide +kernel
theorem dX9_law_82 : decode cX9_law 82 = .ok (.sipush 130, 3) := by decide +kernel
theorem dX9_law_85 : decode cX9_law 85 = .ok (.sipush 900, 3) := by decide +kernel
theorem dX9_law_88 : decode cX9_law 88 = .ok (.aload_n 0, 1) := by decide +kernel
theorem dX9_law_89 : decode cX9_law 89 = .ok (.getfield 13, 3) := by decide +kernel
theorem dX9_law_92 : decode cX9_law 92 = .ok (.iconst 2, 1) := by decide +kernel
theorem dX9_law_93 : decode cX9_law 93 = .ok (.iaload, 1) := by decide +kernel
theorem dX9_law_94 : decode cX9_law 94 = .ok (.imul, 1) := by decide +kernel
theorem dX9_law_95 : decode cX9_law 95 = .ok (.iadd, 1) := by decide +kernel
theorem dX9_law_96 : decode cX9_law 96 = .ok (.istore_n 1, 1) := by decide +kernel
theorem dX9_law_97 : decode cX9_law 97 = .ok (.aload_n 0, 1) := by decide +kernel
theorem dX9_law_98 : decode cX9_law 98 = .ok (.getfield 13, 3) := by decide +kernel
theorem dX9_law_101 : decode cX9_law 101 = .ok (.iload_n 1, 1) := by decide +kernel
theorem dX9_law_102 : decode cX9_law 102 = .ok (.iconst 1, 1) := by decide +kernel
theorem dX9_law_103 : decode cX9_law 103 = .ok (.iadd, 1) := by decide +kernel
theorem dX9_law_104 : decode cX9_law 104 = .ok (.aload_n 0, 1) := by decide +kernel
theorem dX9_law_105 : decode cX9_law 105 = .ok (.getfield 348, 3) := by decide +kernel
theorem dX9_law_108 : decode cX9_law 108 = .ok (.iastore, 1) := by decide +kernel
theorem dX9_law_109 : decode cX9_law 109 = .ok (.iconst 0, 1) := by decide +kernel
theorem dX9_law_110 : decode cX9_law 110 = .ok (.istore_n 2, 1) := by decide +kernel
theorem dX9_law_111 : decode cX9_law 111 = .ok (.iload_n 2, 1) := by decide +kernel
theorem dX9_law_112 : decode cX9_law 112 = .ok (.bipush 8, 2) := by decide +kernel
theorem dX9_law_114 : decode cX9_law 114 = .ok (.aload_n 0, 1) := by decide +kernel
theorem dX9_law_115 : decode cX9_law 115 = .ok (.getfield 348, 3) := by decide +kernel
theorem dX9_law_118 : decode cX9_law 118 = .ok (.imul, 1) := by decide +kernel
theorem dX9_law_119 : decode cX9_law 119 = .ok (.if_icmp .ge 25, 3) := by decide +kernel
theorem dX9_law_122 : decode cX9_law 122 = .ok (.aload_n 0, 1) := by decide +kernel
theorem dX9_law_123 : decode cX9_law 123 = .ok (.getfield 13, 3) := by decide +kernel
theorem dX9_law_126 : decode cX9_law 126 = .ok (.iload_n 1, 1) := by decide +kernel
theorem dX9_law_127 : decode cX9_law 127 = .ok (.iconst 2, 1) := by decide +kernel
theorem dX9_law_128 : decode cX9_law 128 = .ok (.iadd, 1) := by decide +kernel
theorem dX9_law_129 : decode cX9_law 129 = .ok (.iload_n 2, 1) := by decide +kernel
theorem dX9_law_130 : decode cX9_law 130 = .ok (.iadd, 1) := by decide +kernel
theorem dX9_law_131 : decode cX9_law 131 = .ok (.aload_n 0, 1) := by decide +kernel
theorem dX9_law_132 : decode cX9_law 132 = .ok (.getfield 42, 3) := by decide +kernel
theorem dX9_law_135 : decode cX9_law 135 = .ok (.iload_n 2, 1) := by decide +kernel
theorem dX9_law_136 : decode cX9_law 136 = .ok (.iaload, 1) := by decide +kernel
theorem dX9_law_137 : decode cX9_law 137 = .ok (.iastore, 1) := by decide +kernel
theorem dX9_law_138 : decode cX9_law 138 = .ok (.iinc 2 1, 3) := by decide +kernel
theorem dX9_law_141 : decode cX9_law 141 = .ok (.goto (-30), 3) := by decide +kernel
theorem dX9_law_144 : decode cX9_law 144 = .ok (.iconst 0, 1) := by decide +kernel
theorem dX9_law_145 : decode cX9_law 145 = .ok (.istore_n 2, 1) := by decide +kernel
theorem dX9_law_146 : decode cX9_law 146 = .ok (.iload_n 2, 1) := by decide +kernel
theorem dX9_law_147 : decode cX9_law 147 = .ok (.aload_n 0, 1) := by decide +kernel
theorem dX9_law_148 : decode cX9_law 148 = .ok (.getfield 258, 3) := by decide +kernel
theorem dX9_law_151 : decode cX9_law 151 = .ok (.if_icmp .ge 49, 3) := by decide +kernel
theorem dX9_law_154 : decode cX9_law 154 = .ok (.aload_n 0, 1) := by decide +kernel
theorem dX9_law_155 : decode cX9_law 155 = .ok (.getfield 13, 3) := by decide +kernel
theorem dX9_law_158 : decode cX9_law 158 = .ok (.iload_n 1, 1) := by decide +kernel
theorem dX9_law_159 : decode cX9_law 159 = .ok (.bipush 98, 2) := by decide +kernel
theorem dX9_law_161 : decode cX9_law 161 = .ok (.iadd, 1) := by decide +kernel
theorem dX9_law_162 : decode cX9_law 162 = .ok (.iconst 2, 1) := by decide +kernel
theorem dX9_law_163 : decode cX9_law 163 = .ok (.iload_n 2, 1) := by decide +kernel
theorem dX9_law_164 : decode cX9_law 164 = .ok (.imul, 1) := by decide +kernel
theorem dX9_law_165 : decode cX9_law 165 = .ok (.iadd, 1) := by decide +kernel
theorem dX9_law_166 : decode cX9_law 166 = .ok (.aload_n 0, 1) := by decide +kernel
theorem dX9_law_167 : decode cX9_law 167 = .ok (.getfield 45, 3) := by decide +kernel
theorem dX9_law_170 : decode cX9_law 170 = .ok (.iload_n 2, 1) := by decide +kernel
theorem dX9_law_171 : decode cX9_law 171 = .ok (.iaload, 1) := by decide +kernel
theorem dX9_law_172 : decode cX9_law 172 = .ok (.iastore, 1) := by decide +kernel
theorem dX9_law_173 : decode cX9_law 173 = .ok (.aload_n 0, 1) := by decide +kernel
theorem dX9_law_174 : decode cX9_law 174 = .ok (.getfield 13, 3) := by decide +kernel
theorem dX9_law_177 : decode cX9_law 177 = .ok (.iload_n 1, 1) := by decide +kernel
theorem dX9_law_178 : decode cX9_law 178 = .ok (.bipush 98, 2) := by decide +kernel
theorem dX9_law_180 : decode cX9_law 180 = .ok (.iadd, 1) := by decide +kernel
theorem dX9_law_181 : decode cX9_law 181 = .ok (.iconst 2, 1) := by decide +kernel
theorem dX9_law_182 : decode cX9_law 182 = .ok (.iload_n 2, 1) := by decide +kernel
theorem dX9_law_183 : decode cX9_law 183 = .ok (.imul, 1) := by decide +kernel
theorem dX9_law_184 : decode cX9_law 184 = .ok (.iadd, 1) := by decide +kernel
theorem dX9_law_185 : decode cX9_law 185 = .ok (.iconst 1, 1) := by decide +kernel
theorem dX9_law_186 : decode cX9_law 186 = .ok (.iadd, 1) := by decide +kernel
theorem dX9_law_187 : decode cX9_law 187 = .ok (.aload_n 0, 1) := by decide +kernel
theorem dX9_law_188 : decode cX9_law 188 = .ok (.getfield 48, 3) := by decide +kernel
theorem dX9_law_191 : decode cX9_law 191 = .ok (.iload_n 2, 1) := by decide +kernel
theorem dX9_law_192 : decode cX9_law 192 = .ok (.iaload, 1) := by decide +kernel
theorem dX9_law_193 : decode cX9_law 193 = .ok (.iastore, 1) := by decide +kernel
theorem dX9_law_194 : decode cX9_law 194 = .ok (.iinc 2 1, 3) := by decide +kernel
theorem dX9_law_197 : decode cX9_law 197 = .ok (.goto (-51), 3) := by decide +kernel
theorem dX9_law_200 : decode cX9_law 200 = .ok (.aload_n 0, 1) := by decide +kernel
theorem dX9_law_201 : decode cX9_law 201 = .ok (.getfield 13, 3) := by decide +kernel
theorem dX9_law_204 : decode cX9_law 204 = .ok (.iconst 2, 1) := by decide +kernel
theorem dX9_law_205 : decode cX9_law 205 = .ok (.dup2, 1) := by decide +kernel
theorem dX9_law_206 : decode cX9_law 206 = .ok (.iaload, 1) := by decide +kernel
theorem dX9_law_207 : decode cX9_law 207 = .ok (.iconst 1, 1) := by decide +kernel
theorem dX9_law_208 : decode cX9_law 208 = .ok (.iadd, 1) := by decide +kernel
theorem dX9_law_209 : decode cX9_law 209 = .ok (.iastore, 1) := by decide +kernel
theorem dX9_law_210 : decode cX9_law 210 = .ok (.aload_n 0, 1) := by decide +kernel
theorem dX9_law_211 : decode cX9_law 211 = .ok (.aload_n 0, 1) := by decide +kernel
theorem dX9_law_212 : decode cX9_law 212 = .ok (.getfield 13, 3) := by decide +kernel
theorem dX9_law_215 : decode cX9_law 215 = .ok (.iconst 2, 1) := by decide +kernel
theorem dX9_law_216 : decode cX9_law 216 = .ok (.iaload, 1) := by decide +kernel
theorem dX9_law_217 : decode cX9_law 217 = .ok (.iconst 1, 1) := by decide +kernel
theorem dX9_law_218 : decode cX9_law 218 = .ok (.isub, 1) := by decide +kernel
theorem dX9_law_219 : decode cX9_law 219 = .ok (.invokevirtual 143, 3) := by decide +kernel
theorem dX9_law_222 : decode cX9_law 222 = .ok (.ireturn, 1) := by decide +kernel
theorem dX9_isLaw_0 : decode cX9_isLaw 0 = .ok (.iload_n 1, 1) := by decide +kernel
theorem dX9_isLaw_1 : decode cX9_isLaw 1 = .ok (.iconst (-1), 1) := by decide +kernel
theorem dX9_isLaw_2 : decode cX9_isLaw 2 = .ok (.if_icmp .eq 21, 3) := by decide +kernel
theorem dX9_isLaw_5 : decode cX9_isLaw 5 = .ok (.iload_n 1, 1) := by decide +kernel
theorem dX9_isLaw_6 : decode cX9_isLaw 6 = .ok (.i2l, 1) := by decide +kernel
theorem dX9_isLaw_7 : decode cX9_isLaw 7 = .ok (.lconst 0, 1) := by decide +kernel
theorem dX9_isLaw_8 : decode cX9_isLaw 8 = .ok (.aload_n 0, 1) := by decide +kernel
theorem dX9_isLaw_9 : decode cX9_isLaw 9 = .ok (.getfield 13, 3) := by decide +kernel
theorem dX9_isLaw_12 : decode cX9_isLaw 12 = .ok (.iconst 2, 1) := by decide +kernel
theorem dX9_isLaw_13 : decode cX9_isLaw 13 = .ok (.iaload, 1) := by decide +kernel
theorem dX9_isLaw_14 : decode cX9_isLaw 14 = .ok (.i2l, 1) := by decide +kernel
theorem dX9_isLaw_15 : decode cX9_isLaw 15 = .ok (.lconst 1, 1) := by decide +kernel
theorem dX9_isLaw_16 : decode cX9_isLaw 16 = .ok (.lsub, 1) := by decide +kernel
theorem dX9_isLaw_17 : decode cX9_isLaw 17 = .ok (.invokestatic 154, 3) := by decide +kernel
theorem dX9_isLaw_20 : decode cX9_isLaw 20 = .ok (.ifCond .eq 7, 3) := by decide +kernel
theorem dX9_isLaw_23 : decode cX9_isLaw 23 = .ok (.iconst 1, 1) := by decide +kernel
theorem dX9_isLaw_24 : decode cX9_isLaw 24 = .ok (.goto 4, 3) := by decide +kernel
theorem dX9_isLaw_27 : decode cX9_isLaw 27 = .ok (.iconst 0, 1) := by decide +kernel
theorem dX9_isLaw_28 : decode cX9_isLaw 28 = .ok (.ireturn, 1) := by decide +kernel
theorem dX9_force_0 : decode cX9_force 0 = .ok (.aload_n 0, 1) := by decide +kernel
theorem dX9_force_1 : decode cX9_force 1 = .ok (.iconst 0, 1) := by decide +kernel
theorem dX9_force_2 : decode cX9_force 2 = .ok (.putfield 134, 3) := by decide +kernel
theorem dX9_force_5 : decode cX9_force 5 = .ok (.aload_n 0, 1) := by decide +kernel
theorem dX9_force_6 : decode cX9_force 6 = .ok (.iload_n 1, 1) := by decide +kernel
theorem dX9_force_7 : decode cX9_force 7 = .ok (.invokevirtual 365, 3) := by decide +kernel
theorem dX9_force_10 : decode cX9_force 10 = .ok (.ifCond .eq 12, 3) := by decide +kernel
theorem dX9_force_13 : decode cX9_force 13 = .ok (.aload_n 0, 1) := by decide +kernel
theorem dX9_force_14 : decode cX9_force 14 = .ok (.iconst 3, 1) := by decide +kernel
theorem dX9_force_15 : decode cX9_force 15 = .ok (.iload_n 1, 1) := by decide +kernel
theorem dX9_force_16 : decode cX9_force 16 = .ok (.invokevirtual 176, 3) := by decide +kernel
theorem dX9_force_19 : decode cX9_force 19 = .ok (.goto 9, 3) := by decide +kernel
theorem dX9_force_22 : decode cX9_force 22 = .ok (.aload_n 0, 1) := by decide +kernel
theorem dX9_force_23 : decode cX9_force 23 = .ok (.bipush (-2), 2) := by decide +kernel
theorem dX9_force_25 : decode cX9_force 25 = .ok (.invokevirtual 143, 3) := by decide +kernel
theorem dX9_force_28 : decode cX9_force 28 = .ok (.ireturn, 1) := by decide +kernel
theorem dX9_reckon_0 : decode cX9_reckon 0 = .ok (.iload_n 1, 1) := by decide +kernel
theorem dX9_reckon_1 : decode cX9_reckon 1 = .ok (.tableswitch 148 20 26 #[43, 48, 53, 58, 90, 122, 135], 43) := by decide +kernel
theorem dX9_reckon_44 : decode cX9_reckon 44 = .ok (.lload_n 2, 1) := by decide +kernel
theorem dX9_reckon_45 : decode cX9_reckon 45 = .ok (.lload 4, 2) := by decide +kernel
theorem dX9_reckon_47 : decode cX9_reckon 47 = .ok (.ladd, 1) := by decide +kernel
theorem dX9_reckon_48 : decode cX9_reckon 48 = .ok (.lreturn, 1) := by decide +kernel
theorem dX9_reckon_49 : decode cX9_reckon 49 = .ok (.lload_n 2, 1) := by decide +kernel
theorem dX9_reckon_50 : decode cX9_reckon 50 = .ok (.lload 4, 2) := by decide +kernel
theorem dX9_reckon_52 : decode cX9_reckon 52 = .ok (.lsub, 1) := by decide +kernel
theorem dX9_reckon_53 : decode cX9_reckon 53 = .ok (.lreturn, 1) := by decide +kernel
theorem dX9_reckon_54 : decode cX9_reckon 54 = .ok (.lload_n 2, 1) := by decide +kernel
theorem dX9_reckon_55 : decode cX9_reckon 55 = .ok (.lload 4, 2) := by decide +kernel
theorem dX9_reckon_57 : decode cX9_reckon 57 = .ok (.lmul, 1) := by decide +kernel
theorem dX9_reckon_58 : decode cX9_reckon 58 = .ok (.lreturn, 1) := by decide +kernel
theorem dX9_reckon_59 : decode cX9_reckon 59 = .ok (.aload_n 0, 1) := by decide +kernel
theorem dX9_reckon_60 : decode cX9_reckon 60 = .ok (.lload 4, 2) := by decide +kernel
theorem dX9_reckon_62 : decode cX9_reckon 62 = .ok (.lconst 0, 1) := by decide +kernel
theorem dX9_reckon_63 : decode cX9_reckon 63 = .ok (.lcmp, 1) := by decide +kernel
theorem dX9_reckon_64 : decode cX9_reckon 64 = .ok (.ifCond .ne 7, 3) := by decide +kernel
theorem dX9_reckon_67 : decode cX9_reckon 67 = .ok (.iconst 1, 1) := by decide +kernel
theorem dX9_reckon_68 : decode cX9_reckon 68 = .ok (.goto 4, 3) := by decide +kernel
theorem dX9_reckon_71 : decode cX9_reckon 71 = .ok (.iconst 0, 1) := by decide +kernel
theorem dX9_reckon_72 : decode cX9_reckon 72 = .ok (.putfield 368, 3) := by decide +kernel
theorem dX9_reckon_75 : decode cX9_reckon 75 = .ok (.aload_n 0, 1) := by decide +kernel
theorem dX9_reckon_76 : decode cX9_reckon 76 = .ok (.getfield 368, 3) := by decide +kernel
theorem dX9_reckon_79 : decode cX9_reckon 79 = .ok (.ifCond .eq 7, 3) := by decide +kernel
theorem dX9_reckon_82 : decode cX9_reckon 82 = .ok (.lconst 0, 1) := by decide +kernel
theorem dX9_reckon_83 : decode cX9_reckon 83 = .ok (.goto 7, 3) := by decide +kernel
theorem dX9_reckon_86 : decode cX9_reckon 86 = .ok (.lload_n 2, 1) := by decide +kernel
theorem dX9_reckon_87 : decode cX9_reckon 87 = .ok (.lload 4, 2) := by decide +kernel
theorem dX9_reckon_89 : decode cX9_reckon 89 = .ok (.ldiv, 1) := by decide +kernel
theorem dX9_reckon_90 : decode cX9_reckon 90 = .ok (.lreturn, 1) := by decide +kernel
theorem dX9_reckon_91 : decode cX9_reckon 91 = .ok (.aload_n 0, 1) := by decide +kernel
theorem dX9_reckon_92 : decode cX9_reckon 92 = .ok (.lload 4, 2) := by decide +kernel
theorem dX9_reckon_94 : decode cX9_reckon 94 = .ok (.lconst 0, 1) := by decide +kernel
theorem dX9_reckon_95 : decode cX9_reckon 95 = .ok (.lcmp, 1) := by decide +kernel
theorem dX9_reckon_96 : decode cX9_reckon 96 = .ok (.ifCond .ne 7, 3) := by decide +kernel
theorem dX9_reckon_99 : decode cX9_reckon 99 = .ok (.iconst 1, 1) := by decide +kernel
theorem dX9_reckon_100 : decode cX9_reckon 100 = .ok (.goto 4, 3) := by decide +kernel
theorem dX9_reckon_103 : decode cX9_reckon 103 = .ok (.iconst 0, 1) := by decide +kernel
theorem dX9_reckon_104 : decode cX9_reckon 104 = .ok (.putfield 368, 3) := by decide +kernel
theorem dX9_reckon_107 : decode cX9_reckon 107 = .ok (.aload_n 0, 1) := by decide +kernel
theorem dX9_reckon_108 : decode cX9_reckon 108 = .ok (.getfield 368, 3) := by decide +kernel
theorem dX9_reckon_111 : decode cX9_reckon 111 = .ok (.ifCond .eq 7, 3) := by decide +kernel
theorem dX9_reckon_114 : decode cX9_reckon 114 = .ok (.lconst 0, 1) := by decide +kernel
theorem dX9_reckon_115 : decode cX9_reckon 115 = .ok (.goto 7, 3) := by decide +kernel
theorem dX9_reckon_118 : decode cX9_reckon 118 = .ok (.lload_n 2, 1) := by decide +kernel
theorem dX9_reckon_119 : decode cX9_reckon 119 = .ok (.lload 4, 2) := by decide +kernel
theorem dX9_reckon_121 : decode cX9_reckon 121 = .ok (.lrem, 1) := by decide +kernel
theorem dX9_reckon_122 : decode cX9_reckon 122 = .ok (.lreturn, 1) := by decide +kernel
theorem dX9_reckon_123 : decode cX9_reckon 123 = .ok (.lload_n 2, 1) := by decide +kernel
theorem dX9_reckon_124 : decode cX9_reckon 124 = .ok (.lload 4, 2) := by decide +kernel
theorem dX9_reckon_126 : decode cX9_reckon 126 = .ok (.lcmp, 1) := by decide +kernel
theorem dX9_reckon_127 : decode cX9_reckon 127 = .ok (.ifCond .ge 7, 3) := by decide +kernel
theorem dX9_reckon_130 : decode cX9_reckon 130 = .ok (.lconst 1, 1) := by decide +kernel
theorem dX9_reckon_131 : decode cX9_reckon 131 = .ok (.goto 4, 3) := by decide +kernel
theorem dX9_reckon_134 : decode cX9_reckon 134 = .ok (.lconst 0, 1) := by decide +kernel
theorem dX9_reckon_135 : decode cX9_reckon 135 = .ok (.lreturn, 1) := by decide +kernel
theorem dX9_reckon_136 : decode cX9_reckon 136 = .ok (.lload_n 2, 1) := by decide +kernel
theorem dX9_reckon_137 : decode cX9_reckon 137 = .ok (.lload 4, 2) := by decide +kernel
theorem dX9_reckon_139 : decode cX9_reckon 139 = .ok (.lcmp, 1) := by decide +kernel
theorem dX9_reckon_140 : decode cX9_reckon 140 = .ok (.ifCond .le 7, 3) := by decide +kernel
theorem dX9_reckon_143 : decode cX9_reckon 143 = .ok (.lconst 1, 1) := by decide +kernel
theorem dX9_reckon_144 : decode cX9_reckon 144 = .ok (.goto 4, 3) := by decide +kernel
theorem dX9_reckon_147 : decode cX9_reckon 147 = .ok (.lconst 0, 1) := by decide +kernel
theorem dX9_reckon_148 : decode cX9_reckon 148 = .ok (.lreturn, 1) := by decide +kernel
theorem dX9_reckon_149 : decode cX9_reckon 149 = .ok (.lload_n 2, 1) := by decide +kernel
theorem dX9_reckon_150 : decode cX9_reckon 150 = .ok (.lload 4, 2) := by decide +kernel
theorem dX9_reckon_152 : decode cX9_reckon 152 = .ok (.lcmp, 1) := by decide +kernel
theorem dX9_reckon_153 : decode cX9_reckon 153 = .ok (.ifCond .ne 7, 3) := by decide +kernel
theorem dX9_reckon_156 : decode cX9_reckon 156 = .ok (.lconst 1, 1) := by decide +kernel
theorem dX9_reckon_157 : decode cX9_reckon 157 = .ok (.goto 4, 3) := by decide +kernel
theorem dX9_reckon_160 : decode cX9_reckon 160 = .ok (.lconst 0, 1) := by decide +kernel
theorem dX9_reckon_161 : decode cX9_reckon 161 = .ok (.lreturn, 1) := by decide +kernel
theorem dX9_reckonAll_0 : decode cX9_reckonAll 0 = .ok (.aload_n 0, 1) := by decide +kernel
theorem dX9_reckonAll_1 : decode cX9_reckonAll 1 = .ok (.iconst 0, 1) := by decide +kernel
theorem dX9_reckonAll_2 : decode cX9_reckonAll 2 = .ok (.putfield 368, 3) := by decide +kernel
theorem dX9_reckonAll_5 : decode cX9_reckonAll 5 = .ok (.iconst 0, 1) := by decide +kernel
theorem dX9_reckonAll_6 : decode cX9_reckonAll 6 = .ok (.istore_n 3, 1) := by decide +kernel
theorem dX9_reckonAll_7 : decode cX9_reckonAll 7 = .ok (.iload_n 1, 1) := by decide +kernel
theorem dX9_reckonAll_8 : decode cX9_reckonAll 8 = .ok (.istore 4, 2) := by decide +kernel
theorem dX9_reckonAll_10 : decode cX9_reckonAll 10 = .ok (.iload 4, 2) := by decide +kernel
theorem dX9_reckonAll_12 : decode cX9_reckonAll 12 = .ok (.iload_n 2, 1) := by decide +kernel
theorem dX9_reckonAll_13 : decode cX9_reckonAll 13 = .ok (.if_icmp .ge 343, 3) := by decide +kernel
theorem dX9_reckonAll_16 : decode cX9_reckonAll 16 = .ok (.aload_n 0, 1) := by decide +kernel
theorem dX9_reckonAll_17 : decode cX9_reckonAll 17 = .ok (.getfield 368, 3) := by decide +kernel
theorem dX9_reckonAll_20 : decode cX9_reckonAll 20 = .ok (.ifCond .ne 336, 3) := by decide +kernel
theorem dX9_reckonAll_23 : decode cX9_reckonAll 23 = .ok (.aload_n 0, 1) := by decide +kernel
theorem dX9_reckonAll_24 : decode cX9_reckonAll 24 = .ok (.getfield 296, 3) := by decide +kernel
theorem dX9_reckonAll_27 : decode cX9_reckonAll 27 = .ok (.ifCond .eq 13, 3) := by decide +kernel
theorem dX9_reckonAll_30 : decode cX9_reckonAll 30 = .ok (.aload_n 0, 1) := by decide +kernel
theorem dX9_reckonAll_31 : decode cX9_reckonAll 31 = .ok (.getfield 45, 3) := by decide +kernel
theorem dX9_reckonAll_34 : decode cX9_reckonAll 34 = .ok (.iload 4, 2) := by decide +kernel
theorem dX9_reckonAll_36 : decode cX9_reckonAll 36 = .ok (.iaload, 1) := by decide +kernel
theorem dX9_reckonAll_37 : decode cX9_reckonAll 37 = .ok (.goto 20, 3) := by decide +kernel
theorem dX9_reckonAll_40 : decode cX9_reckonAll 40 = .ok (.aload_n 0, 1) := by decide +kernel
theorem dX9_reckonAll_41 : decode cX9_reckonAll 41 = .ok (.getfield 13, 3) := by decide +kernel
theorem dX9_reckonAll_44 : decode cX9_reckonAll 44 = .ok (.aload_n 0, 1) := by decide +kernel
theorem dX9_reckonAll_45 : decode cX9_reckonAll 45 = .ok (.getfield 371, 3) := by decide +kernel
theorem dX9_reckonAll_48 : decode cX9_reckonAll 48 = .ok (.bipush 98, 2) := by decide +kernel
theorem dX9_reckonAll_50 : decode cX9_reckonAll 50 = .ok (.iadd, 1) := by decide +kernel
theorem dX9_reckonAll_51 : decode cX9_reckonAll 51 = .ok (.iconst 2, 1) := by decide +kernel
theorem dX9_reckonAll_52 : decode cX9_reckonAll 52 = .ok (.iload 4, 2) := by decide +kernel
theorem dX9_reckonAll_54 : decode cX9_reckonAll 54 = .ok (.imul, 1) := by decide +kernel
theorem dX9_reckonAll_55 : decode cX9_reckonAll 55 = .ok (.iadd, 1) := by decide +kernel
theorem dX9_reckonAll_56 : decode cX9_reckonAll 56 = .ok (.iaload, 1) := by decide +kernel
theorem dX9_reckonAll_57 : decode cX9_reckonAll 57 = .ok (.istore 5, 2) := by decide +kernel
theorem dX9_reckonAll_59 : decode cX9_reckonAll 59 = .ok (.aload_n 0, 1) := by decide +kernel
theorem dX9_reckonAll_60 : decode cX9_reckonAll 60 = .ok (.getfield 296, 3) := by decide +kernel
theorem dX9_reckonAll_63 : decode cX9_reckonAll 63 = .ok (.ifCond .eq 13, 3) := by decide +kernel
theorem dX9_reckonAll_66 : decode cX9_reckonAll 66 = .ok (.aload_n 0, 1) := by decide +kernel
theorem dX9_reckonAll_67 : decode cX9_reckonAll 67 = .ok (.getfield 48, 3) := by decide +kernel
theorem dX9_reckonAll_70 : decode cX9_reckonAll 70 = .ok (.iload 4, 2) := by decide +kernel
theorem dX9_reckonAll_72 : decode cX9_reckonAll 72 = .ok (.iaload, 1) := by decide +kernel
theorem dX9_reckonAll_73 : decode cX9_reckonAll 73 = .ok (.goto 22, 3) := by decide +kernel
theorem dX9_reckonAll_76 : decode cX9_reckonAll 76 = .ok (.aload_n 0, 1) := by decide +kernel
theorem dX9_reckonAll_77 : decode cX9_reckonAll 77 = .ok (.getfield 13, 3) := by decide +kernel
theorem dX9_reckonAll_80 : decode cX9_reckonAll 80 = .ok (.aload_n 0, 1) := by decide +kernel
theorem dX9_reckonAll_81 : decode cX9_reckonAll 81 = .ok (.getfield 371, 3) := by decide +kernel
theorem dX9_reckonAll_84 : decode cX9_reckonAll 84 = .ok (.bipush 98, 2) := by decide +kernel
theorem dX9_reckonAll_86 : decode cX9_reckonAll 86 = .ok (.iadd, 1) := by decide +kernel
theorem dX9_reckonAll_87 : decode cX9_reckonAll 87 = .ok (.iconst 2, 1) := by decide +kernel
theorem dX9_reckonAll_88 : decode cX9_reckonAll 88 = .ok (.iload 4, 2) := by decide +kernel
theorem dX9_reckonAll_90 : decode cX9_reckonAll 90 = .ok (.imul, 1) := by decide +kernel
theorem dX9_reckonAll_91 : decode cX9_reckonAll 91 = .ok (.iadd, 1) := by decide +kernel
theorem dX9_reckonAll_92 : decode cX9_reckonAll 92 = .ok (.iconst 1, 1) := by decide +kernel
theorem dX9_reckonAll_93 : decode cX9_reckonAll 93 = .ok (.iadd, 1) := by decide +kernel
theorem dX9_reckonAll_94 : decode cX9_reckonAll 94 = .ok (.iaload, 1) := by decide +kernel
theorem dX9_reckonAll_95 : decode cX9_reckonAll 95 = .ok (.istore 6, 2) := by decide +kernel
theorem dX9_reckonAll_97 : decode cX9_reckonAll 97 = .ok (.iinc 4 1, 3) := by decide +kernel
theorem dX9_reckonAll_100 : decode cX9_reckonAll 100 = .ok (.iload 5, 2) := by decide +kernel
theorem dX9_reckonAll_102 : decode cX9_reckonAll 102 = .ok (.bipush 20, 2) := by decide +kernel
theorem dX9_reckonAll_104 : decode cX9_reckonAll 104 = .ok (.if_icmp .ge 110, 3) := by decide +kernel
theorem dX9_reckonAll_107 : decode cX9_reckonAll 107 = .ok (.aload_n 0, 1) := by decide +kernel
theorem dX9_reckonAll_108 : decode cX9_reckonAll 108 = .ok (.getfield 105, 3) := by decide +kernel
theorem dX9_reckonAll_111 : decode cX9_reckonAll 111 = .ok (.iload_n 3, 1) := by decide +kernel
theorem dX9_reckonAll_112 : decode cX9_reckonAll 112 = .ok (.iload 5, 2) := by decide +kernel
theorem dX9_reckonAll_114 : decode cX9_reckonAll 114 = .ok (.ifCond .ne 9, 3) := by decide +kernel
theorem dX9_reckonAll_117 : decode cX9_reckonAll 117 = .ok (.iload 6, 2) := by decide +kernel
theorem dX9_reckonAll_119 : decode cX9_reckonAll 119 = .ok (.i2l, 1) := by decide +kernel
theorem dX9_reckonAll_120 : decode cX9_reckonAll 120 = .ok (.goto 87, 3) := by decide +kernel
theorem dX9_reckonAll_123 : decode cX9_reckonAll 123 = .ok (.aload_n 0, 1) := by decide +kernel
theorem dX9_reckonAll_124 : decode cX9_reckonAll 124 = .ok (.getfield 296, 3) := by decide +kernel
theorem dX9_reckonAll_127 : decode cX9_reckonAll 127 = .ok (.ifCond .ne 13, 3) := by decide +kernel
theorem dX9_reckonAll_130 : decode cX9_reckonAll 130 = .ok (.aload_n 0, 1) := by decide +kernel
theorem dX9_reckonAll_131 : decode cX9_reckonAll 131 = .ok (.getfield 99, 3) := by decide +kernel
theorem dX9_reckonAll_134 : decode cX9_reckonAll 134 = .ok (.iload 5, 2) := by decide +kernel
theorem dX9_reckonAll_136 : decode cX9_reckonAll 136 = .ok (.laload, 1) := by decide +kernel
theorem dX9_reckonAll_137 : decode cX9_reckonAll 137 = .ok (.goto 70, 3) := by decide +kernel
theorem dX9_reckonAll_140 : decode cX9_reckonAll 140 = .ok (.iload 5, 2) := by decide +kernel
theorem dX9_reckonAll_142 : decode cX9_reckonAll 142 = .ok (.iconst 4, 1) := by decide +kernel
theorem dX9_reckonAll_143 : decode cX9_reckonAll 143 = .ok (.if_icmp .ge 13, 3) := by decide +kernel
theorem dX9_reckonAll_146 : decode cX9_reckonAll 146 = .ok (.aload_n 0, 1) := by decide +kernel
theorem dX9_reckonAll_147 : decode cX9_reckonAll 147 = .ok (.getfield 102, 3) := by decide +kernel
theorem dX9_reckonAll_150 : decode cX9_reckonAll 150 = .ok (.iload 5, 2) := by decide +kernel
theorem dX9_reckonAll_152 : decode cX9_reckonAll 152 = .ok (.laload, 1) := by decide +kernel
theorem dX9_reckonAll_153 : decode cX9_reckonAll 153 = .ok (.goto 54, 3) := by decide +kernel
theorem dX9_reckonAll_156 : decode cX9_reckonAll 156 = .ok (.iload 5, 2) := by decide +kernel
theorem dX9_reckonAll_158 : decode cX9_reckonAll 158 = .ok (.iconst 4, 1) := by decide +kernel
theorem dX9_reckonAll_159 : decode cX9_reckonAll 159 = .ok (.if_icmp .ne 17, 3) := by decide +kernel
theorem dX9_reckonAll_162 : decode cX9_reckonAll 162 = .ok (.aload_n 0, 1) := by decide +kernel
theorem dX9_reckonAll_163 : decode cX9_reckonAll 163 = .ok (.getfield 13, 3) := by decide +kernel
theorem dX9_reckonAll_166 : decode cX9_reckonAll 166 = .ok (.bipush 7, 2) := by decide +kernel
theorem dX9_reckonAll_168 : decode cX9_reckonAll 168 = .ok (.iload 6, 2) := by decide +kernel
theorem dX9_reckonAll_170 : decode cX9_reckonAll 170 = .ok (.iadd, 1) := by decide +kernel
theorem dX9_reckonAll_171 : decode cX9_reckonAll 171 = .ok (.iaload, 1) := by decide +kernel
theorem dX9_reckonAll_172 : decode cX9_reckonAll 172 = .ok (.i2l, 1) := by decide +kernel
theorem dX9_reckonAll_173 : decode cX9_reckonAll 173 = .ok (.goto 34, 3) := by decide +kernel
theorem dX9_reckonAll_176 : decode cX9_reckonAll 176 = .ok (.iload 5, 2) := by decide +kernel
theorem dX9_reckonAll_178 : decode cX9_reckonAll 178 = .ok (.iconst 5, 1) := by decide +kernel
theorem dX9_reckonAll_179 : decode cX9_reckonAll 179 = .ok (.if_icmp .ne 17, 3) := by decide +kernel
theorem dX9_reckonAll_182 : decode cX9_reckonAll 182 = .ok (.aload_n 0, 1) := by decide +kernel
theorem dX9_reckonAll_183 : decode cX9_reckonAll 183 = .ok (.getfield 13, 3) := by decide +kernel
theorem dX9_reckonAll_186 : decode cX9_reckonAll 186 = .ok (.bipush 31, 2) := by decide +kernel
theorem dX9_reckonAll_188 : decode cX9_reckonAll 188 = .ok (.iload 6, 2) := by decide +kernel
theorem dX9_reckonAll_190 : decode cX9_reckonAll 190 = .ok (.iadd, 1) := by decide +kernel
theorem dX9_reckonAll_191 : decode cX9_reckonAll 191 = .ok (.iaload, 1) := by decide +kernel
theorem dX9_reckonAll_192 : decode cX9_reckonAll 192 = .ok (.i2l, 1) := by decide +kernel
theorem dX9_reckonAll_193 : decode cX9_reckonAll 193 = .ok (.goto 14, 3) := by decide +kernel
theorem dX9_reckonAll_196 : decode cX9_reckonAll 196 = .ok (.aload_n 0, 1) := by decide +kernel
theorem dX9_reckonAll_197 : decode cX9_reckonAll 197 = .ok (.getfield 13, 3) := by decide +kernel
theorem dX9_reckonAll_200 : decode cX9_reckonAll 200 = .ok (.bipush 33, 2) := by decide +kernel
theorem dX9_reckonAll_202 : decode cX9_reckonAll 202 = .ok (.iload 6, 2) := by decide +kernel
theorem dX9_reckonAll_204 : decode cX9_reckonAll 204 = .ok (.iadd, 1) := by decide +kernel
theorem dX9_reckonAll_205 : decode cX9_reckonAll 205 = .ok (.iaload, 1) := by decide +kernel
theorem dX9_reckonAll_206 : decode cX9_reckonAll 206 = .ok (.i2l, 1) := by decide +kernel
theorem dX9_reckonAll_207 : decode cX9_reckonAll 207 = .ok (.lastore, 1) := by decide +kernel
theorem dX9_reckonAll_208 : decode cX9_reckonAll 208 = .ok (.iinc 3 1, 3) := by decide +kernel
theorem dX9_reckonAll_211 : decode cX9_reckonAll 211 = .ok (.goto 142, 3) := by decide +kernel
theorem dX9_reckonAll_214 : decode cX9_reckonAll 214 = .ok (.iload 5, 2) := by decide +kernel
theorem dX9_reckonAll_216 : decode cX9_reckonAll 216 = .ok (.bipush 28, 2) := by decide +kernel
theorem dX9_reckonAll_218 : decode cX9_reckonAll 218 = .ok (.if_icmp .ge 73, 3) := by decide +kernel
theorem dX9_reckonAll_221 : decode cX9_reckonAll 221 = .ok (.iinc 3 (-1), 3) := by decide +kernel
theorem dX9_reckonAll_224 : decode cX9_reckonAll 224 = .ok (.aload_n 0, 1) := by decide +kernel
theorem dX9_reckonAll_225 : decode cX9_reckonAll 225 = .ok (.getfield 105, 3) := by decide +kernel
theorem dX9_reckonAll_228 : decode cX9_reckonAll 228 = .ok (.iload_n 3, 1) := by decide +kernel
theorem dX9_reckonAll_229 : decode cX9_reckonAll 229 = .ok (.iconst 1, 1) := by decide +kernel
theorem dX9_reckonAll_230 : decode cX9_reckonAll 230 = .ok (.isub, 1) := by decide +kernel
theorem dX9_reckonAll_231 : decode cX9_reckonAll 231 = .ok (.aload_n 0, 1) := by decide +kernel
theorem dX9_reckonAll_232 : decode cX9_reckonAll 232 = .ok (.iload 5, 2) := by decide +kernel
theorem dX9_reckonAll_234 : decode cX9_reckonAll 234 = .ok (.aload_n 0, 1) := by decide +kernel
theorem dX9_reckonAll_235 : decode cX9_reckonAll 235 = .ok (.getfield 105, 3) := by decide +kernel
theorem dX9_reckonAll_238 : decode cX9_reckonAll 238 = .ok (.iload_n 3, 1) := by decide +kernel
theorem dX9_reckonAll_239 : decode cX9_reckonAll 239 = .ok (.iconst 1, 1) := by decide +kernel
theorem dX9_reckonAll_240 : decode cX9_reckonAll 240 = .ok (.isub, 1) := by decide +kernel
theorem dX9_reckonAll_241 : decode cX9_reckonAll 241 = .ok (.laload, 1) := by decide +kernel
theorem dX9_reckonAll_242 : decode cX9_reckonAll 242 = .ok (.aload_n 0, 1) := by decide +kernel
theorem dX9_reckonAll_243 : decode cX9_reckonAll 243 = .ok (.getfield 105, 3) := by decide +kernel
theorem dX9_reckonAll_246 : decode cX9_reckonAll 246 = .ok (.iload_n 3, 1) := by decide +kernel
theorem dX9_reckonAll_247 : decode cX9_reckonAll 247 = .ok (.laload, 1) := by decide +kernel
theorem dX9_reckonAll_248 : decode cX9_reckonAll 248 = .ok (.invokevirtual 374, 3) := by decide +kernel
theorem dX9_reckonAll_251 : decode cX9_reckonAll 251 = .ok (.lastore, 1) := by decide +kernel
theorem dX9_reckonAll_252 : decode cX9_reckonAll 252 = .ok (.aload_n 0, 1) := by decide +kernel
theorem dX9_reckonAll_253 : decode cX9_reckonAll 253 = .ok (.aload_n 0, 1) := by decide +kernel
theorem dX9_reckonAll_254 : decode cX9_reckonAll 254 = .ok (.getfield 368, 3) := by decide +kernel
theorem dX9_reckonAll_257 : decode cX9_reckonAll 257 = .ok (.ifCond .ne 23, 3) := by decide +kernel
theorem dX9_reckonAll_260 : decode cX9_reckonAll 260 = .ok (.aload_n 0, 1) := by decide +kernel
theorem dX9_reckonAll_261 : decode cX9_reckonAll 261 = .ok (.getfield 105, 3) := by decide +kernel
theorem dX9_reckonAll_264 : decode cX9_reckonAll 264 = .ok (.iload_n 3, 1) := by decide +kernel
theorem dX9_reckonAll_265 : decode cX9_reckonAll 265 = .ok (.iconst 1, 1) := by decide +kernel
theorem dX9_reckonAll_266 : decode cX9_reckonAll 266 = .ok (.isub, 1) := by decide +kernel
theorem dX9_reckonAll_267 : decode cX9_reckonAll 267 = .ok (.laload, 1) := by decide +kernel
theorem dX9_reckonAll_268 : decode cX9_reckonAll 268 = .ok (.ldc2_w 378, 3) := by decide +kernel
theorem dX9_reckonAll_271 : decode cX9_reckonAll 271 = .ok (.ldc2_w 380, 3) := by decide +kernel
theorem dX9_reckonAll_274 : decode cX9_reckonAll 274 = .ok (.invokestatic 154, 3) := by decide +kernel
theorem dX9_reckonAll_277 : decode cX9_reckonAll 277 = .ok (.ifCond .ne 7, 3) := by decide +kernel
theorem dX9_reckonAll_280 : decode cX9_reckonAll 280 = .ok (.iconst 1, 1) := by decide +kernel
theorem dX9_reckonAll_281 : decode cX9_reckonAll 281 = .ok (.goto 4, 3) := by decide +kernel
theorem dX9_reckonAll_284 : decode cX9_reckonAll 284 = .ok (.iconst 0, 1) := by decide +kernel
theorem dX9_reckonAll_285 : decode cX9_reckonAll 285 = .ok (.putfield 368, 3) := by decide +kernel
theorem dX9_reckonAll_288 : decode cX9_reckonAll 288 = .ok (.goto 65, 3) := by decide +kernel
theorem dX9_reckonAll_291 : decode cX9_reckonAll 291 = .ok (.iload 5, 2) := by decide +kernel
theorem dX9_reckonAll_293 : decode cX9_reckonAll 293 = .ok (.bipush 28, 2) := by decide +kernel
theorem dX9_reckonAll_295 : decode cX9_reckonAll 295 = .ok (.if_icmp .ne 24, 3) := by decide +kernel
theorem dX9_reckonAll_298 : decode cX9_reckonAll 298 = .ok (.aload_n 0, 1) := by decide +kernel
theorem dX9_reckonAll_299 : decode cX9_reckonAll 299 = .ok (.getfield 105, 3) := by decide +kernel
theorem dX9_reckonAll_302 : decode cX9_reckonAll 302 = .ok (.iload_n 3, 1) := by decide +kernel
theorem dX9_reckonAll_303 : decode cX9_reckonAll 303 = .ok (.iconst 1, 1) := by decide +kernel
theorem dX9_reckonAll_304 : decode cX9_reckonAll 304 = .ok (.isub, 1) := by decide +kernel
theorem dX9_reckonAll_305 : decode cX9_reckonAll 305 = .ok (.lconst 1, 1) := by decide +kernel
theorem dX9_reckonAll_306 : decode cX9_reckonAll 306 = .ok (.aload_n 0, 1) := by decide +kernel
theorem dX9_reckonAll_307 : decode cX9_reckonAll 307 = .ok (.getfield 105, 3) := by decide +kernel
theorem dX9_reckonAll_310 : decode cX9_reckonAll 310 = .ok (.iload_n 3, 1) := by decide +kernel
theorem dX9_reckonAll_311 : decode cX9_reckonAll 311 = .ok (.iconst 1, 1) := by decide +kernel
theorem dX9_reckonAll_312 : decode cX9_reckonAll 312 = .ok (.isub, 1) := by decide +kernel
theorem dX9_reckonAll_313 : decode cX9_reckonAll 313 = .ok (.laload, 1) := by decide +kernel
theorem dX9_reckonAll_314 : decode cX9_reckonAll 314 = .ok (.lsub, 1) := by decide +kernel
theorem dX9_reckonAll_315 : decode cX9_reckonAll 315 = .ok (.lastore, 1) := by decide +kernel
theorem dX9_reckonAll_316 : decode cX9_reckonAll 316 = .ok (.goto 37, 3) := by decide +kernel
theorem dX9_reckonAll_319 : decode cX9_reckonAll 319 = .ok (.aload_n 0, 1) := by decide +kernel
theorem dX9_reckonAll_320 : decode cX9_reckonAll 320 = .ok (.getfield 105, 3) := by decide +kernel
theorem dX9_reckonAll_323 : decode cX9_reckonAll 323 = .ok (.iload_n 3, 1) := by decide +kernel
theorem dX9_reckonAll_324 : decode cX9_reckonAll 324 = .ok (.iconst 1, 1) := by decide +kernel
theorem dX9_reckonAll_325 : decode cX9_reckonAll 325 = .ok (.isub, 1) := by decide +kernel
theorem dX9_reckonAll_326 : decode cX9_reckonAll 326 = .ok (.laload, 1) := by decide +kernel
theorem dX9_reckonAll_327 : decode cX9_reckonAll 327 = .ok (.iload 5, 2) := by decide +kernel
theorem dX9_reckonAll_329 : decode cX9_reckonAll 329 = .ok (.bipush 29, 2) := by decide +kernel
theorem dX9_reckonAll_331 : decode cX9_reckonAll 331 = .ok (.if_icmp .ne 7, 3) := by decide +kernel
theorem dX9_reckonAll_334 : decode cX9_reckonAll 334 = .ok (.lconst 0, 1) := by decide +kernel
theorem dX9_reckonAll_335 : decode cX9_reckonAll 335 = .ok (.goto 4, 3) := by decide +kernel
theorem dX9_reckonAll_338 : decode cX9_reckonAll 338 = .ok (.lconst 1, 1) := by decide +kernel
theorem dX9_reckonAll_339 : decode cX9_reckonAll 339 = .ok (.lcmp, 1) := by decide +kernel
theorem dX9_reckonAll_340 : decode cX9_reckonAll 340 = .ok (.ifCond .ne 10, 3) := by decide +kernel
theorem dX9_reckonAll_343 : decode cX9_reckonAll 343 = .ok (.iload 6, 2) := by decide +kernel
theorem dX9_reckonAll_345 : decode cX9_reckonAll 345 = .ok (.istore 4, 2) := by decide +kernel
theorem dX9_reckonAll_347 : decode cX9_reckonAll 347 = .ok (.goto 6, 3) := by decide +kernel
theorem dX9_reckonAll_350 : decode cX9_reckonAll 350 = .ok (.iinc 3 (-1), 3) := by decide +kernel
theorem dX9_reckonAll_353 : decode cX9_reckonAll 353 = .ok (.goto (-343), 3) := by decide +kernel
theorem dX9_reckonAll_356 : decode cX9_reckonAll 356 = .ok (.aload_n 0, 1) := by decide +kernel
theorem dX9_reckonAll_357 : decode cX9_reckonAll 357 = .ok (.iload_n 3, 1) := by decide +kernel
theorem dX9_reckonAll_358 : decode cX9_reckonAll 358 = .ok (.ifCond .le 12, 3) := by decide +kernel
theorem dX9_reckonAll_361 : decode cX9_reckonAll 361 = .ok (.aload_n 0, 1) := by decide +kernel
theorem dX9_reckonAll_362 : decode cX9_reckonAll 362 = .ok (.getfield 105, 3) := by decide +kernel
theorem dX9_reckonAll_365 : decode cX9_reckonAll 365 = .ok (.iconst 0, 1) := by decide +kernel
theorem dX9_reckonAll_366 : decode cX9_reckonAll 366 = .ok (.laload, 1) := by decide +kernel
theorem dX9_reckonAll_367 : decode cX9_reckonAll 367 = .ok (.goto 4, 3) := by decide +kernel
theorem dX9_reckonAll_370 : decode cX9_reckonAll 370 = .ok (.lconst 0, 1) := by decide +kernel
theorem dX9_reckonAll_371 : decode cX9_reckonAll 371 = .ok (.putfield 382, 3) := by decide +kernel
theorem dX9_reckonAll_374 : decode cX9_reckonAll 374 = .ok (.return_, 1) := by decide +kernel
theorem dX9_isSo_0 : decode cX9_isSo 0 = .ok (.aload_n 0, 1) := by decide +kernel
theorem dX9_isSo_1 : decode cX9_isSo 1 = .ok (.getfield 13, 3) := by decide +kernel
theorem dX9_isSo_4 : decode cX9_isSo 4 = .ok (.iload_n 1, 1) := by decide +kernel
theorem dX9_isSo_5 : decode cX9_isSo 5 = .ok (.iconst 5, 1) := by decide +kernel
theorem dX9_isSo_6 : decode cX9_isSo 6 = .ok (.iadd, 1) := by decide +kernel
theorem dX9_isSo_7 : decode cX9_isSo 7 = .ok (.iaload, 1) := by decide +kernel
theorem dX9_isSo_8 : decode cX9_isSo 8 = .ok (.aload_n 0, 1) := by decide +kernel
theorem dX9_isSo_9 : decode cX9_isSo 9 = .ok (.getfield 13, 3) := by decide +kernel
theorem dX9_isSo_12 : decode cX9_isSo 12 = .ok (.iload_n 1, 1) := by decide +kernel
theorem dX9_isSo_13 : decode cX9_isSo 13 = .ok (.bipush 6, 2) := by decide +kernel
theorem dX9_isSo_15 : decode cX9_isSo 15 = .ok (.iadd, 1) := by decide +kernel
theorem dX9_isSo_16 : decode cX9_isSo 16 = .ok (.iaload, 1) := by decide +kernel
theorem dX9_isSo_17 : decode cX9_isSo 17 = .ok (.if_icmp .ge 42, 3) := by decide +kernel
theorem dX9_isSo_20 : decode cX9_isSo 20 = .ok (.aload_n 0, 1) := by decide +kernel
theorem dX9_isSo_21 : decode cX9_isSo 21 = .ok (.aload_n 0, 1) := by decide +kernel
theorem dX9_isSo_22 : decode cX9_isSo 22 = .ok (.getfield 13, 3) := by decide +kernel
theorem dX9_isSo_25 : decode cX9_isSo 25 = .ok (.iload_n 1, 1) := by decide +kernel
theorem dX9_isSo_26 : decode cX9_isSo 26 = .ok (.iconst 5, 1) := by decide +kernel
theorem dX9_isSo_27 : decode cX9_isSo 27 = .ok (.iadd, 1) := by decide +kernel
theorem dX9_isSo_28 : decode cX9_isSo 28 = .ok (.iaload, 1) := by decide +kernel
theorem dX9_isSo_29 : decode cX9_isSo 29 = .ok (.aload_n 0, 1) := by decide +kernel
theorem dX9_isSo_30 : decode cX9_isSo 30 = .ok (.getfield 13, 3) := by decide +kernel
theorem dX9_isSo_33 : decode cX9_isSo 33 = .ok (.iload_n 1, 1) := by decide +kernel
theorem dX9_isSo_34 : decode cX9_isSo 34 = .ok (.bipush 6, 2) := by decide +kernel
theorem dX9_isSo_36 : decode cX9_isSo 36 = .ok (.iadd, 1) := by decide +kernel
theorem dX9_isSo_37 : decode cX9_isSo 37 = .ok (.iaload, 1) := by decide +kernel
theorem dX9_isSo_38 : decode cX9_isSo 38 = .ok (.invokevirtual 385, 3) := by decide +kernel
theorem dX9_isSo_41 : decode cX9_isSo 41 = .ok (.aload_n 0, 1) := by decide +kernel
theorem dX9_isSo_42 : decode cX9_isSo 42 = .ok (.getfield 368, 3) := by decide +kernel
theorem dX9_isSo_45 : decode cX9_isSo 45 = .ok (.ifCond .ne 12, 3) := by decide +kernel
theorem dX9_isSo_48 : decode cX9_isSo 48 = .ok (.aload_n 0, 1) := by decide +kernel
theorem dX9_isSo_49 : decode cX9_isSo 49 = .ok (.getfield 382, 3) := by decide +kernel
theorem dX9_isSo_52 : decode cX9_isSo 52 = .ok (.lconst 0, 1) := by decide +kernel
theorem dX9_isSo_53 : decode cX9_isSo 53 = .ok (.lcmp, 1) := by decide +kernel
theorem dX9_isSo_54 : decode cX9_isSo 54 = .ok (.ifCond .ne 5, 3) := by decide +kernel
theorem dX9_isSo_57 : decode cX9_isSo 57 = .ok (.iconst 0, 1) := by decide +kernel
theorem dX9_isSo_58 : decode cX9_isSo 58 = .ok (.ireturn, 1) := by decide +kernel
theorem dX9_isSo_59 : decode cX9_isSo 59 = .ok (.aload_n 0, 1) := by decide +kernel
theorem dX9_isSo_60 : decode cX9_isSo 60 = .ok (.getfield 13, 3) := by decide +kernel
theorem dX9_isSo_63 : decode cX9_isSo 63 = .ok (.iload_n 1, 1) := by decide +kernel
theorem dX9_isSo_64 : decode cX9_isSo 64 = .ok (.iaload, 1) := by decide +kernel
theorem dX9_isSo_65 : decode cX9_isSo 65 = .ok (.iconst 3, 1) := by decide +kernel
theorem dX9_isSo_66 : decode cX9_isSo 66 = .ok (.if_icmp .eq 44, 3) := by decide +kernel
theorem dX9_isSo_69 : decode cX9_isSo 69 = .ok (.aload_n 0, 1) := by decide +kernel
theorem dX9_isSo_70 : decode cX9_isSo 70 = .ok (.aload_n 0, 1) := by decide +kernel
theorem dX9_isSo_71 : decode cX9_isSo 71 = .ok (.getfield 13, 3) := by decide +kernel
theorem dX9_isSo_74 : decode cX9_isSo 74 = .ok (.iload_n 1, 1) := by decide +kernel
theorem dX9_isSo_75 : decode cX9_isSo 75 = .ok (.iconst 3, 1) := by decide +kernel
theorem dX9_isSo_76 : decode cX9_isSo 76 = .ok (.iadd, 1) := by decide +kernel
theorem dX9_isSo_77 : decode cX9_isSo 77 = .ok (.iaload, 1) := by decide +kernel
theorem dX9_isSo_78 : decode cX9_isSo 78 = .ok (.aload_n 0, 1) := by decide +kernel
theorem dX9_isSo_79 : decode cX9_isSo 79 = .ok (.getfield 13, 3) := by decide +kernel
theorem dX9_isSo_82 : decode cX9_isSo 82 = .ok (.iload_n 1, 1) := by decide +kernel
theorem dX9_isSo_83 : decode cX9_isSo 83 = .ok (.iconst 4, 1) := by decide +kernel
theorem dX9_isSo_84 : decode cX9_isSo 84 = .ok (.iadd, 1) := by decide +kernel
theorem dX9_isSo_85 : decode cX9_isSo 85 = .ok (.iaload, 1) := by decide +kernel
theorem dX9_isSo_86 : decode cX9_isSo 86 = .ok (.invokevirtual 385, 3) := by decide +kernel
theorem dX9_isSo_89 : decode cX9_isSo 89 = .ok (.aload_n 0, 1) := by decide +kernel
theorem dX9_isSo_90 : decode cX9_isSo 90 = .ok (.aload_n 0, 1) := by decide +kernel
theorem dX9_isSo_91 : decode cX9_isSo 91 = .ok (.getfield 382, 3) := by decide +kernel
theorem dX9_isSo_94 : decode cX9_isSo 94 = .ok (.putfield 388, 3) := by decide +kernel
theorem dX9_isSo_97 : decode cX9_isSo 97 = .ok (.aload_n 0, 1) := by decide +kernel
theorem dX9_isSo_98 : decode cX9_isSo 98 = .ok (.getfield 368, 3) := by decide +kernel
theorem dX9_isSo_101 : decode cX9_isSo 101 = .ok (.ifCond .ne 7, 3) := by decide +kernel
theorem dX9_isSo_104 : decode cX9_isSo 104 = .ok (.iconst 1, 1) := by decide +kernel
theorem dX9_isSo_105 : decode cX9_isSo 105 = .ok (.goto 4, 3) := by decide +kernel
theorem dX9_isSo_108 : decode cX9_isSo 108 = .ok (.iconst 0, 1) := by decide +kernel
theorem dX9_isSo_109 : decode cX9_isSo 109 = .ok (.ireturn, 1) := by decide +kernel
theorem dX9_isSo_110 : decode cX9_isSo 110 = .ok (.iconst 1, 1) := by decide +kernel
theorem dX9_isSo_111 : decode cX9_isSo 111 = .ok (.ireturn, 1) := by decide +kernel
theorem dX9_tells_0 : decode cX9_tells 0 = .ok (.aload_n 0, 1) := by decide +kernel
theorem dX9_tells_1 : decode cX9_tells 1 = .ok (.getfield 13, 3) := by decide +kernel
theorem dX9_tells_4 : decode cX9_tells 4 = .ok (.iconst 3, 1) := by decide +kernel
theorem dX9_tells_5 : decode cX9_tells 5 = .ok (.iaload, 1) := by decide +kernel
theorem dX9_tells_6 : decode cX9_tells 6 = .ok (.iconst (-1), 1) := by decide +kernel
theorem dX9_tells_7 : decode cX9_tells 7 = .ok (.if_icmp .ne 6, 3) := by decide +kernel
theorem dX9_tells_10 : decode cX9_tells 10 = .ok (.lload 6, 2) := by decide +kernel
theorem dX9_tells_12 : decode cX9_tells 12 = .ok (.lreturn, 1) := by decide +kernel
theorem dX9_tells_13 : decode cX9_tells 13 = .ok (.aload_n 0, 1) := by decide +kernel
theorem dX9_tells_14 : decode cX9_tells 14 = .ok (.sipush 130, 3) := by decide +kernel
theorem dX9_tells_17 : decode cX9_tells 17 = .ok (.sipush 900, 3) := by decide +kernel
theorem dX9_tells_20 : decode cX9_tells 20 = .ok (.aload_n 0, 1) := by decide +kernel
theorem dX9_tells_21 : decode cX9_tells 21 = .ok (.getfield 13, 3) := by decide +kernel
theorem dX9_tells_24 : decode cX9_tells 24 = .ok (.iconst 3, 1) := by decide +kernel
theorem dX9_tells_25 : decode cX9_tells 25 = .ok (.iaload, 1) := by decide +kernel
theorem dX9_tells_26 : decode cX9_tells 26 = .ok (.imul, 1) := by decide +kernel
theorem dX9_tells_27 : decode cX9_tells 27 = .ok (.iadd, 1) := by decide +kernel
theorem dX9_tells_28 : decode cX9_tells 28 = .ok (.putfield 371, 3) := by decide +kernel
theorem dX9_tells_31 : decode cX9_tells 31 = .ok (.aload_n 0, 1) := by decide +kernel
theorem dX9_tells_32 : decode cX9_tells 32 = .ok (.getfield 99, 3) := by decide +kernel
theorem dX9_tells_35 : decode cX9_tells 35 = .ok (.iconst 1, 1) := by decide +kernel
theorem dX9_tells_36 : decode cX9_tells 36 = .ok (.iload_n 2, 1) := by decide +kernel
theorem dX9_tells_37 : decode cX9_tells 37 = .ok (.i2l, 1) := by decide +kernel
theorem dX9_tells_38 : decode cX9_tells 38 = .ok (.lastore, 1) := by decide +kernel
theorem dX9_tells_39 : decode cX9_tells 39 = .ok (.aload_n 0, 1) := by decide +kernel
theorem dX9_tells_40 : decode cX9_tells 40 = .ok (.getfield 99, 3) := by decide +kernel
theorem dX9_tells_43 : decode cX9_tells 43 = .ok (.iconst 2, 1) := by decide +kernel
theorem dX9_tells_44 : decode cX9_tells 44 = .ok (.iload_n 3, 1) := by decide +kernel
theorem dX9_tells_45 : decode cX9_tells 45 = .ok (.i2l, 1) := by decide +kernel
theorem dX9_tells_46 : decode cX9_tells 46 = .ok (.lastore, 1) := by decide +kernel
theorem dX9_tells_47 : decode cX9_tells 47 = .ok (.aload_n 0, 1) := by decide +kernel
theorem dX9_tells_48 : decode cX9_tells 48 = .ok (.getfield 99, 3) := by decide +kernel
theorem dX9_tells_51 : decode cX9_tells 51 = .ok (.iconst 3, 1) := by decide +kernel
theorem dX9_tells_52 : decode cX9_tells 52 = .ok (.iload_n 3, 1) := by decide +kernel
theorem dX9_tells_53 : decode cX9_tells 53 = .ok (.iconst (-1), 1) := by decide +kernel
theorem dX9_tells_54 : decode cX9_tells 54 = .ok (.if_icmp .ne 9, 3) := by decide +kernel
theorem dX9_tells_57 : decode cX9_tells 57 = .ok (.ldc2_w 196, 3) := by decide +kernel
theorem dX9_tells_60 : decode cX9_tells 60 = .ok (.goto 13, 3) := by decide +kernel
theorem dX9_tells_63 : decode cX9_tells 63 = .ok (.aload_n 0, 1) := by decide +kernel
theorem dX9_tells_64 : decode cX9_tells 64 = .ok (.getfield 13, 3) := by decide +kernel
theorem dX9_tells_67 : decode cX9_tells 67 = .ok (.bipush 7, 2) := by decide +kernel
theorem dX9_tells_69 : decode cX9_tells 69 = .ok (.iload_n 3, 1) := by decide +kernel
theorem dX9_tells_70 : decode cX9_tells 70 = .ok (.iadd, 1) := by decide +kernel
theorem dX9_tells_71 : decode cX9_tells 71 = .ok (.iaload, 1) := by decide +kernel
theorem dX9_tells_72 : decode cX9_tells 72 = .ok (.i2l, 1) := by decide +kernel
theorem dX9_tells_73 : decode cX9_tells 73 = .ok (.lastore, 1) := by decide +kernel
theorem dX9_tells_74 : decode cX9_tells 74 = .ok (.aload_n 0, 1) := by decide +kernel
theorem dX9_tells_75 : decode cX9_tells 75 = .ok (.getfield 99, 3) := by decide +kernel
theorem dX9_tells_78 : decode cX9_tells 78 = .ok (.iconst 4, 1) := by decide +kernel
theorem dX9_tells_79 : decode cX9_tells 79 = .ok (.iload 5, 2) := by decide +kernel
theorem dX9_tells_81 : decode cX9_tells 81 = .ok (.i2l, 1) := by decide +kernel
theorem dX9_tells_82 : decode cX9_tells 82 = .ok (.lastore, 1) := by decide +kernel
theorem dX9_tells_83 : decode cX9_tells 83 = .ok (.aload_n 0, 1) := by decide +kernel
theorem dX9_tells_84 : decode cX9_tells 84 = .ok (.getfield 99, 3) := by decide +kernel
theorem dX9_tells_87 : decode cX9_tells 87 = .ok (.iconst 5, 1) := by decide +kernel
theorem dX9_tells_88 : decode cX9_tells 88 = .ok (.iload_n 3, 1) := by decide +kernel
theorem dX9_tells_89 : decode cX9_tells 89 = .ok (.iconst (-1), 1) := by decide +kernel
theorem dX9_tells_90 : decode cX9_tells 90 = .ok (.if_icmp .ne 9, 3) := by decide +kernel
theorem dX9_tells_93 : decode cX9_tells 93 = .ok (.ldc2_w 196, 3) := by decide +kernel
theorem dX9_tells_96 : decode cX9_tells 96 = .ok (.goto 12, 3) := by decide +kernel
theorem dX9_tells_99 : decode cX9_tells 99 = .ok (.aload_n 0, 1) := by decide +kernel
theorem dX9_tells_100 : decode cX9_tells 100 = .ok (.iconst 1, 1) := by decide +kernel
theorem dX9_tells_101 : decode cX9_tells 101 = .ok (.iload_n 2, 1) := by decide +kernel
theorem dX9_tells_102 : decode cX9_tells 102 = .ok (.isub, 1) := by decide +kernel
theorem dX9_tells_103 : decode cX9_tells 103 = .ok (.iload_n 3, 1) := by decide +kernel
theorem dX9_tells_104 : decode cX9_tells 104 = .ok (.invokevirtual 163, 3) := by decide +kernel
theorem dX9_tells_107 : decode cX9_tells 107 = .ok (.i2l, 1) := by decide +kernel
theorem dX9_tells_108 : decode cX9_tells 108 = .ok (.lastore, 1) := by decide +kernel
theorem dX9_tells_109 : decode cX9_tells 109 = .ok (.aload_n 0, 1) := by decide +kernel
theorem dX9_tells_110 : decode cX9_tells 110 = .ok (.getfield 99, 3) := by decide +kernel
theorem dX9_tells_113 : decode cX9_tells 113 = .ok (.bipush 6, 2) := by decide +kernel
theorem dX9_tells_115 : decode cX9_tells 115 = .ok (.aload_n 0, 1) := by decide +kernel
theorem dX9_tells_116 : decode cX9_tells 116 = .ok (.getfield 13, 3) := by decide +kernel
theorem dX9_tells_119 : decode cX9_tells 119 = .ok (.bipush 31, 2) := by decide +kernel
theorem dX9_tells_121 : decode cX9_tells 121 = .ok (.iload_n 2, 1) := by decide +kernel
theorem dX9_tells_122 : decode cX9_tells 122 = .ok (.iadd, 1) := by decide +kernel
theorem dX9_tells_123 : decode cX9_tells 123 = .ok (.iaload, 1) := by decide +kernel
theorem dX9_tells_124 : decode cX9_tells 124 = .ok (.i2l, 1) := by decide +kernel
theorem dX9_tells_125 : decode cX9_tells 125 = .ok (.lastore, 1) := by decide +kernel
theorem dX9_tells_126 : decode cX9_tells 126 = .ok (.aload_n 0, 1) := by decide +kernel
theorem dX9_tells_127 : decode cX9_tells 127 = .ok (.getfield 99, 3) := by decide +kernel
theorem dX9_tells_130 : decode cX9_tells 130 = .ok (.bipush 7, 2) := by decide +kernel
theorem dX9_tells_132 : decode cX9_tells 132 = .ok (.aload_n 0, 1) := by decide +kernel
theorem dX9_tells_133 : decode cX9_tells 133 = .ok (.getfield 13, 3) := by decide +kernel
theorem dX9_tells_136 : decode cX9_tells 136 = .ok (.bipush 33, 2) := by decide +kernel
theorem dX9_tells_138 : decode cX9_tells 138 = .ok (.iload_n 2, 1) := by decide +kernel
theorem dX9_tells_139 : decode cX9_tells 139 = .ok (.iadd, 1) := by decide +kernel
theorem dX9_tells_140 : decode cX9_tells 140 = .ok (.iaload, 1) := by decide +kernel
theorem dX9_tells_141 : decode cX9_tells 141 = .ok (.i2l, 1) := by decide +kernel
theorem dX9_tells_142 : decode cX9_tells 142 = .ok (.lastore, 1) := by decide +kernel
theorem dX9_tells_143 : decode cX9_tells 143 = .ok (.aload_n 0, 1) := by decide +kernel
theorem dX9_tells_144 : decode cX9_tells 144 = .ok (.getfield 99, 3) := by decide +kernel
theorem dX9_tells_147 : decode cX9_tells 147 = .ok (.bipush 8, 2) := by decide +kernel
theorem dX9_tells_149 : decode cX9_tells 149 = .ok (.iload 4, 2) := by decide +kernel
theorem dX9_tells_151 : decode cX9_tells 151 = .ok (.i2l, 1) := by decide +kernel
theorem dX9_tells_152 : decode cX9_tells 152 = .ok (.lastore, 1) := by decide +kernel
theorem dX9_tells_153 : decode cX9_tells 153 = .ok (.aload_n 0, 1) := by decide +kernel
theorem dX9_tells_154 : decode cX9_tells 154 = .ok (.getfield 99, 3) := by decide +kernel
theorem dX9_tells_157 : decode cX9_tells 157 = .ok (.bipush 9, 2) := by decide +kernel
theorem dX9_tells_159 : decode cX9_tells 159 = .ok (.aload_n 0, 1) := by decide +kernel
theorem dX9_tells_160 : decode cX9_tells 160 = .ok (.getfield 13, 3) := by decide +kernel
theorem dX9_tells_163 : decode cX9_tells 163 = .ok (.iconst 4, 1) := by decide +kernel
theorem dX9_tells_164 : decode cX9_tells 164 = .ok (.iaload, 1) := by decide +kernel
theorem dX9_tells_165 : decode cX9_tells 165 = .ok (.i2l, 1) := by decide +kernel
theorem dX9_tells_166 : decode cX9_tells 166 = .ok (.lastore, 1) := by decide +kernel
theorem dX9_tells_167 : decode cX9_tells 167 = .ok (.aload_n 0, 1) := by decide +kernel
theorem dX9_tells_168 : decode cX9_tells 168 = .ok (.getfield 99, 3) := by decide +kernel
theorem dX9_tells_171 : decode cX9_tells 171 = .ok (.bipush 10, 2) := by decide +kernel
theorem dX9_tells_173 : decode cX9_tells 173 = .ok (.aload_n 0, 1) := by decide +kernel
theorem dX9_tells_174 : decode cX9_tells 174 = .ok (.getfield 13, 3) := by decide +kernel
theorem dX9_tells_177 : decode cX9_tells 177 = .ok (.bipush 6, 2) := by decide +kernel
theorem dX9_tells_179 : decode cX9_tells 179 = .ok (.iaload, 1) := by decide +kernel
theorem dX9_tells_180 : decode cX9_tells 180 = .ok (.i2l, 1) := by decide +kernel
theorem dX9_tells_181 : decode cX9_tells 181 = .ok (.lastore, 1) := by decide +kernel
theorem dX9_tells_182 : decode cX9_tells 182 = .ok (.lload 6, 2) := by decide +kernel
theorem dX9_tells_184 : decode cX9_tells 184 = .ok (.lstore 8, 2) := by decide +kernel
theorem dX9_tells_186 : decode cX9_tells 186 = .ok (.iconst 0, 1) := by decide +kernel
theorem dX9_tells_187 : decode cX9_tells 187 = .ok (.istore 10, 2) := by decide +kernel
theorem dX9_tells_189 : decode cX9_tells 189 = .ok (.iload 10, 2) := by decide +kernel
theorem dX9_tells_191 : decode cX9_tells 191 = .ok (.aload_n 0, 1) := by decide +kernel
theorem dX9_tells_192 : decode cX9_tells 192 = .ok (.getfield 13, 3) := by decide +kernel
theorem dX9_tells_195 : decode cX9_tells 195 = .ok (.aload_n 0, 1) := by decide +kernel
theorem dX9_tells_196 : decode cX9_tells 196 = .ok (.getfield 371, 3) := by decide +kernel
theorem dX9_tells_199 : decode cX9_tells 199 = .ok (.iconst 1, 1) := by decide +kernel
theorem dX9_tells_200 : decode cX9_tells 200 = .ok (.iadd, 1) := by decide +kernel
theorem dX9_tells_201 : decode cX9_tells 201 = .ok (.iaload, 1) := by decide +kernel
theorem dX9_tells_202 : decode cX9_tells 202 = .ok (.if_icmp .ge 58, 3) := by decide +kernel
theorem dX9_tells_205 : decode cX9_tells 205 = .ok (.aload_n 0, 1) := by decide +kernel
theorem dX9_tells_206 : decode cX9_tells 206 = .ok (.getfield 371, 3) := by decide +kernel
theorem dX9_tells_209 : decode cX9_tells 209 = .ok (.iconst 2, 1) := by decide +kernel
theorem dX9_tells_210 : decode cX9_tells 210 = .ok (.iadd, 1) := by decide +kernel
theorem dX9_tells_211 : decode cX9_tells 211 = .ok (.bipush 8, 2) := by decide +kernel
theorem dX9_tells_213 : decode cX9_tells 213 = .ok (.iload 10, 2) := by decide +kernel
theorem dX9_tells_215 : decode cX9_tells 215 = .ok (.imul, 1) := by decide +kernel
theorem dX9_tells_216 : decode cX9_tells 216 = .ok (.iadd, 1) := by decide +kernel
theorem dX9_tells_217 : decode cX9_tells 217 = .ok (.istore 11, 2) := by decide +kernel
theorem dX9_tells_219 : decode cX9_tells 219 = .ok (.aload_n 0, 1) := by decide +kernel
theorem dX9_tells_220 : decode cX9_tells 220 = .ok (.getfield 13, 3) := by decide +kernel
theorem dX9_tells_223 : decode cX9_tells 223 = .ok (.iload 11, 2) := by decide +kernel
theorem dX9_tells_225 : decode cX9_tells 225 = .ok (.iaload, 1) := by decide +kernel
theorem dX9_tells_226 : decode cX9_tells 226 = .ok (.iload_n 1, 1) := by decide +kernel
theorem dX9_tells_227 : decode cX9_tells 227 = .ok (.if_icmp .ne 27, 3) := by decide +kernel
theorem dX9_tells_230 : decode cX9_tells 230 = .ok (.aload_n 0, 1) := by decide +kernel
theorem dX9_tells_231 : decode cX9_tells 231 = .ok (.iload 11, 2) := by decide +kernel
theorem dX9_tells_233 : decode cX9_tells 233 = .ok (.invokevirtual 391, 3) := by decide +kernel
theorem dX9_tells_236 : decode cX9_tells 236 = .ok (.ifCond .eq 18, 3) := by decide +kernel
theorem dX9_tells_239 : decode cX9_tells 239 = .ok (.iload_n 1, 1) := by decide +kernel
theorem dX9_tells_240 : decode cX9_tells 240 = .ok (.iconst 3, 1) := by decide +kernel
theorem dX9_tells_241 : decode cX9_tells 241 = .ok (.if_icmp .ne 7, 3) := by decide +kernel
theorem dX9_tells_244 : decode cX9_tells 244 = .ok (.lconst 1, 1) := by decide +kernel
theorem dX9_tells_245 : decode cX9_tells 245 = .ok (.goto 7, 3) := by decide +kernel
theorem dX9_tells_248 : decode cX9_tells 248 = .ok (.aload_n 0, 1) := by decide +kernel
theorem dX9_tells_249 : decode cX9_tells 249 = .ok (.getfield 388, 3) := by decide +kernel
theorem dX9_tells_252 : decode cX9_tells 252 = .ok (.lstore 8, 2) := by decide +kernel
theorem dX9_tells_254 : decode cX9_tells 254 = .ok (.iinc 10 1, 3) := by decide +kernel
theorem dX9_tells_257 : decode cX9_tells 257 = .ok (.goto (-68), 3) := by decide +kernel
theorem dX9_tells_260 : decode cX9_tells 260 = .ok (.lload 8, 2) := by decide +kernel
theorem dX9_tells_262 : decode cX9_tells 262 = .ok (.lreturn, 1) := by decide +kernel
theorem dX9_readsOf_0 : decode cX9_readsOf 0 = .ok (.aload_n 0, 1) := by decide +kernel
theorem dX9_readsOf_1 : decode cX9_readsOf 1 = .ok (.iconst 0, 1) := by decide +kernel
theorem dX9_readsOf_2 : decode cX9_readsOf 2 = .ok (.iload_n 2, 1) := by decide +kernel
theorem dX9_readsOf_3 : decode cX9_readsOf 3 = .ok (.iconst (-1), 1) := by decide +kernel
theorem dX9_readsOf_4 : decode cX9_readsOf 4 = .ok (.iload_n 1, 1) := by decide +kernel
theorem dX9_readsOf_5 : decode cX9_readsOf 5 = .ok (.iconst (-1), 1) := by decide +kernel
theorem dX9_readsOf_6 : decode cX9_readsOf 6 = .ok (.aload_n 0, 1) := by decide +kernel
theorem dX9_readsOf_7 : decode cX9_readsOf 7 = .ok (.getfield 13, 3) := by decide +kernel
theorem dX9_readsOf_10 : decode cX9_readsOf 10 = .ok (.bipush 35, 2) := by decide +kernel
theorem dX9_readsOf_12 : decode cX9_readsOf 12 = .ok (.iconst 2, 1) := by decide +kernel
theorem dX9_readsOf_13 : decode cX9_readsOf 13 = .ok (.iload_n 1, 1) := by decide +kernel
theorem dX9_readsOf_14 : decode cX9_readsOf 14 = .ok (.imul, 1) := by decide +kernel
theorem dX9_readsOf_15 : decode cX9_readsOf 15 = .ok (.iadd, 1) := by decide +kernel
theorem dX9_readsOf_16 : decode cX9_readsOf 16 = .ok (.iload_n 2, 1) := by decide +kernel
theorem dX9_readsOf_17 : decode cX9_readsOf 17 = .ok (.iadd, 1) := by decide +kernel
theorem dX9_readsOf_18 : decode cX9_readsOf 18 = .ok (.iaload, 1) := by decide +kernel
theorem dX9_readsOf_19 : decode cX9_readsOf 19 = .ok (.i2l, 1) := by decide +kernel
theorem dX9_readsOf_20 : decode cX9_readsOf 20 = .ok (.invokevirtual 394, 3) := by decide +kernel
theorem dX9_readsOf_23 : decode cX9_readsOf 23 = .ok (.bipush (-20), 2) := by decide +kernel
theorem dX9_readsOf_25 : decode cX9_readsOf 25 = .ok (.bipush 20, 2) := by decide +kernel
theorem dX9_readsOf_27 : decode cX9_readsOf 27 = .ok (.invokestatic 398, 3) := by decide +kernel
theorem dX9_readsOf_30 : decode cX9_readsOf 30 = .ok (.ireturn, 1) := by decide +kernel
theorem dX9_costsOf_0 : decode cX9_costsOf 0 = .ok (.aload_n 0, 1) := by decide +kernel
theorem dX9_costsOf_1 : decode cX9_costsOf 1 = .ok (.iconst 1, 1) := by decide +kernel
theorem dX9_costsOf_2 : decode cX9_costsOf 2 = .ok (.iload_n 1, 1) := by decide +kernel
theorem dX9_costsOf_3 : decode cX9_costsOf 3 = .ok (.iload_n 2, 1) := by decide +kernel
theorem dX9_costsOf_4 : decode cX9_costsOf 4 = .ok (.iconst (-1), 1) := by decide +kernel
theorem dX9_costsOf_5 : decode cX9_costsOf 5 = .ok (.aload_n 0, 1) := by decide +kernel
theorem dX9_costsOf_6 : decode cX9_costsOf 6 = .ok (.iload_n 1, 1) := by decide +kernel
theorem dX9_costsOf_7 : decode cX9_costsOf 7 = .ok (.iload_n 2, 1) := by decide +kernel
theorem dX9_costsOf_8 : decode cX9_costsOf 8 = .ok (.invokevirtual 163, 3) := by decide +kernel
theorem dX9_costsOf_11 : decode cX9_costsOf 11 = .ok (.ldc2_w 402, 3) := by decide +kernel
theorem dX9_costsOf_14 : decode cX9_costsOf 14 = .ok (.invokevirtual 394, 3) := by decide +kernel
theorem dX9_costsOf_17 : decode cX9_costsOf 17 = .ok (.iconst 0, 1) := by decide +kernel
theorem dX9_costsOf_18 : decode cX9_costsOf 18 = .ok (.bipush 99, 2) := by decide +kernel
theorem dX9_costsOf_20 : decode cX9_costsOf 20 = .ok (.invokestatic 398, 3) := by decide +kernel
theorem dX9_costsOf_23 : decode cX9_costsOf 23 = .ok (.ireturn, 1) := by decide +kernel
theorem dX9_feedsOf_0 : decode cX9_feedsOf 0 = .ok (.aload_n 0, 1) := by decide +kernel
theorem dX9_feedsOf_1 : decode cX9_feedsOf 1 = .ok (.iconst 2, 1) := by decide +kernel
theorem dX9_feedsOf_2 : decode cX9_feedsOf 2 = .ok (.iload_n 1, 1) := by decide +kernel
theorem dX9_feedsOf_3 : decode cX9_feedsOf 3 = .ok (.iconst (-1), 1) := by decide +kernel
theorem dX9_feedsOf_4 : decode cX9_feedsOf 4 = .ok (.iconst (-1), 1) := by decide +kernel
theorem dX9_feedsOf_5 : decode cX9_feedsOf 5 = .ok (.aload_n 0, 1) := by decide +kernel
theorem dX9_feedsOf_6 : decode cX9_feedsOf 6 = .ok (.iload_n 1, 1) := by decide +kernel
theorem dX9_feedsOf_7 : decode cX9_feedsOf 7 = .ok (.invokevirtual 189, 3) := by decide +kernel
theorem dX9_feedsOf_10 : decode cX9_feedsOf 10 = .ok (.ldc2_w 404, 3) := by decide +kernel
theorem dX9_feedsOf_13 : decode cX9_feedsOf 13 = .ok (.invokevirtual 394, 3) := by decide +kernel
theorem dX9_feedsOf_16 : decode cX9_feedsOf 16 = .ok (.iconst 0, 1) := by decide +kernel
theorem dX9_feedsOf_17 : decode cX9_feedsOf 17 = .ok (.bipush 99, 2) := by decide +kernel
theorem dX9_feedsOf_19 : decode cX9_feedsOf 19 = .ok (.invokestatic 398, 3) := by decide +kernel
theorem dX9_feedsOf_22 : decode cX9_feedsOf 22 = .ok (.ireturn, 1) := by decide +kernel
theorem dX9_isBarred_0 : decode cX9_isBarred 0 = .ok (.aload_n 0, 1) := by decide +kernel
theorem dX9_isBarred_1 : decode cX9_isBarred 1 = .ok (.iconst 3, 1) := by decide +kernel
theorem dX9_isBarred_2 : decode cX9_isBarred 2 = .ok (.iload_n 1, 1) := by decide +kernel
theorem dX9_isBarred_3 : decode cX9_isBarred 3 = .ok (.iload_n 2, 1) := by decide +kernel
theorem dX9_isBarred_4 : decode cX9_isBarred 4 = .ok (.iconst (-1), 1) := by decide +kernel
theorem dX9_isBarred_5 : decode cX9_isBarred 5 = .ok (.aload_n 0, 1) := by decide +kernel
theorem dX9_isBarred_6 : decode cX9_isBarred 6 = .ok (.iload_n 1, 1) := by decide +kernel
theorem dX9_isBarred_7 : decode cX9_isBarred 7 = .ok (.iload_n 2, 1) := by decide +kernel
theorem dX9_isBarred_8 : decode cX9_isBarred 8 = .ok (.invokevirtual 163, 3) := by decide +kernel
theorem dX9_isBarred_11 : decode cX9_isBarred 11 = .ok (.lconst 0, 1) := by decide +kernel
theorem dX9_isBarred_12 : decode cX9_isBarred 12 = .ok (.invokevirtual 394, 3) := by decide +kernel
theorem dX9_isBarred_15 : decode cX9_isBarred 15 = .ok (.lconst 1, 1) := by decide +kernel
theorem dX9_isBarred_16 : decode cX9_isBarred 16 = .ok (.lcmp, 1) := by decide +kernel
theorem dX9_isBarred_17 : decode cX9_isBarred 17 = .ok (.ifCond .ne 7, 3) := by decide +kernel
theorem dX9_isBarred_20 : decode cX9_isBarred 20 = .ok (.iconst 1, 1) := by decide +kernel
theorem dX9_isBarred_21 : decode cX9_isBarred 21 = .ok (.goto 4, 3) := by decide +kernel
theorem dX9_isBarred_24 : decode cX9_isBarred 24 = .ok (.iconst 0, 1) := by decide +kernel
theorem dX9_isBarred_25 : decode cX9_isBarred 25 = .ok (.ireturn, 1) := by decide +kernel
theorem dX9_canAttack_0 : decode cX9_canAttack 0 = .ok (.aload_n 0, 1) := by decide +kernel
theorem dX9_canAttack_1 : decode cX9_canAttack 1 = .ok (.iload_n 1, 1) := by decide +kernel
theorem dX9_canAttack_2 : decode cX9_canAttack 2 = .ok (.iload_n 2, 1) := by decide +kernel
theorem dX9_canAttack_3 : decode cX9_canAttack 3 = .ok (.invokevirtual 182, 3) := by decide +kernel
theorem dX9_canAttack_6 : decode cX9_canAttack 6 = .ok (.ifCond .ne 34, 3) := by decide +kernel
theorem dX9_canAttack_9 : decode cX9_canAttack 9 = .ok (.aload_n 0, 1) := by decide +kernel
theorem dX9_canAttack_10 : decode cX9_canAttack 10 = .ok (.getfield 13, 3) := by decide +kernel
theorem dX9_canAttack_13 : decode cX9_canAttack 13 = .ok (.bipush 31, 2) := by decide +kernel
theorem dX9_canAttack_15 : decode cX9_canAttack 15 = .ok (.iload_n 1, 1) := by decide +kernel
theorem dX9_canAttack_16 : decode cX9_canAttack 16 = .ok (.iadd, 1) := by decide +kernel
theorem dX9_canAttack_17 : decode cX9_canAttack 17 = .ok (.iaload, 1) := by decide +kernel
theorem dX9_canAttack_18 : decode cX9_canAttack 18 = .ok (.aload_n 0, 1) := by decide +kernel
theorem dX9_canAttack_19 : decode cX9_canAttack 19 = .ok (.iload_n 1, 1) := by decide +kernel
theorem dX9_canAttack_20 : decode cX9_canAttack 20 = .ok (.iload_n 2, 1) := by decide +kernel
theorem dX9_canAttack_21 : decode cX9_canAttack 21 = .ok (.invokevirtual 179, 3) := by decide +kernel
theorem dX9_canAttack_24 : decode cX9_canAttack 24 = .ok (.if_icmp .lt 16, 3) := by decide +kernel
theorem dX9_canAttack_27 : decode cX9_canAttack 27 = .ok (.aload_n 0, 1) := by decide +kernel
theorem dX9_canAttack_28 : decode cX9_canAttack 28 = .ok (.iload_n 1, 1) := by decide +kernel
theorem dX9_canAttack_29 : decode cX9_canAttack 29 = .ok (.iload_n 2, 1) := by decide +kernel
theorem dX9_canAttack_30 : decode cX9_canAttack 30 = .ok (.invokevirtual 163, 3) := by decide +kernel
theorem dX9_canAttack_33 : decode cX9_canAttack 33 = .ok (.ifCond .le 7, 3) := by decide +kernel
theorem dX9_canAttack_36 : decode cX9_canAttack 36 = .ok (.iconst 1, 1) := by decide +kernel
theorem dX9_canAttack_37 : decode cX9_canAttack 37 = .ok (.goto 4, 3) := by decide +kernel
theorem dX9_canAttack_40 : decode cX9_canAttack 40 = .ok (.iconst 0, 1) := by decide +kernel
theorem dX9_canAttack_41 : decode cX9_canAttack 41 = .ok (.ireturn, 1) := by decide +kernel
theorem dX9_canGoOn_0 : decode cX9_canGoOn 0 = .ok (.iload_n 1, 1) := by decide +kernel
theorem dX9_canGoOn_1 : decode cX9_canGoOn 1 = .ok (.ifCond .ne 24, 3) := by decide +kernel
theorem dX9_canGoOn_4 : decode cX9_canGoOn 4 = .ok (.aload_n 0, 1) := by decide +kernel
theorem dX9_canGoOn_5 : decode cX9_canGoOn 5 = .ok (.getfield 13, 3) := by decide +kernel
theorem dX9_canGoOn_8 : decode cX9_canGoOn 8 = .ok (.bipush 7, 2) := by decide +kernel
theorem dX9_canGoOn_10 : decode cX9_canGoOn 10 = .ok (.iload_n 2, 1) := by decide +kernel
theorem dX9_canGoOn_11 : decode cX9_canGoOn 11 = .ok (.iadd, 1) := by decide +kernel
theorem dX9_canGoOn_12 : decode cX9_canGoOn 12 = .ok (.iaload, 1) := by decide +kernel
theorem dX9_canGoOn_13 : decode cX9_canGoOn 13 = .ok (.iconst 3, 1) := by decide +kernel
theorem dX9_canGoOn_14 : decode cX9_canGoOn 14 = .ok (.if_icmp .ge 7, 3) := by decide +kernel
theorem dX9_canGoOn_17 : decode cX9_canGoOn 17 = .ok (.iconst 1, 1) := by decide +kernel
theorem dX9_canGoOn_18 : decode cX9_canGoOn 18 = .ok (.goto 26, 3) := by decide +kernel
theorem dX9_canGoOn_21 : decode cX9_canGoOn 21 = .ok (.iconst 0, 1) := by decide +kernel
theorem dX9_canGoOn_22 : decode cX9_canGoOn 22 = .ok (.goto 22, 3) := by decide +kernel
theorem dX9_canGoOn_25 : decode cX9_canGoOn 25 = .ok (.aload_n 0, 1) := by decide +kernel
theorem dX9_canGoOn_26 : decode cX9_canGoOn 26 = .ok (.getfield 13, 3) := by decide +kernel
theorem dX9_canGoOn_29 : decode cX9_canGoOn 29 = .ok (.bipush 7, 2) := by decide +kernel
theorem dX9_canGoOn_31 : decode cX9_canGoOn 31 = .ok (.iload_n 2, 1) := by decide +kernel
theorem dX9_canGoOn_32 : decode cX9_canGoOn 32 = .ok (.iadd, 1) := by decide +kernel
theorem dX9_canGoOn_33 : decode cX9_canGoOn 33 = .ok (.iaload, 1) := by decide +kernel
theorem dX9_canGoOn_34 : decode cX9_canGoOn 34 = .ok (.bipush (-3), 2) := by decide +kernel
theorem dX9_canGoOn_36 : decode cX9_canGoOn 36 = .ok (.if_icmp .le 7, 3) := by decide +kernel
theorem dX9_canGoOn_39 : decode cX9_canGoOn 39 = .ok (.iconst 1, 1) := by decide +kernel
theorem dX9_canGoOn_40 : decode cX9_canGoOn 40 = .ok (.goto 4, 3) := by decide +kernel
theorem dX9_canGoOn_43 : decode cX9_canGoOn 43 = .ok (.iconst 0, 1) := by decide +kernel
theorem dX9_canGoOn_44 : decode cX9_canGoOn 44 = .ok (.ireturn, 1) := by decide +kernel
theorem dX9_attackIt_0 : decode cX9_attackIt 0 = .ok (.aload_n 0, 1) := by decide +kernel
theorem dX9_attackIt_1 : decode cX9_attackIt 1 = .ok (.getfield 13, 3) := by decide +kernel
theorem dX9_attackIt_4 : decode cX9_attackIt 4 = .ok (.bipush 31, 2) := by decide +kernel
theorem dX9_attackIt_6 : decode cX9_attackIt 6 = .ok (.iload_n 1, 1) := by decide +kernel
theorem dX9_attackIt_7 : decode cX9_attackIt 7 = .ok (.iadd, 1) := by decide +kernel
theorem dX9_attackIt_8 : decode cX9_attackIt 8 = .ok (.dup2, 1) := by decide +kernel
theorem dX9_attackIt_9 : decode cX9_attackIt 9 = .ok (.iaload, 1) := by decide +kernel
theorem dX9_attackIt_10 : decode cX9_attackIt 10 = .ok (.aload_n 0, 1) := by decide +kernel
theorem dX9_attackIt_11 : decode cX9_attackIt 11 = .ok (.iload_n 1, 1) := by decide +kernel
theorem dX9_attackIt_12 : decode cX9_attackIt 12 = .ok (.iload_n 2, 1) := by decide +kernel
theorem dX9_attackIt_13 : decode cX9_attackIt 13 = .ok (.invokevirtual 179, 3) := by decide +kernel
theorem dX9_attackIt_16 : decode cX9_attackIt 16 = .ok (.isub, 1) := by decide +kernel
theorem dX9_attackIt_17 : decode cX9_attackIt 17 = .ok (.iastore, 1) := by decide +kernel
theorem dX9_attackIt_18 : decode cX9_attackIt 18 = .ok (.aload_n 0, 1) := by decide +kernel
theorem dX9_attackIt_19 : decode cX9_attackIt 19 = .ok (.iload_n 1, 1) := by decide +kernel
theorem dX9_attackIt_20 : decode cX9_attackIt 20 = .ok (.iload_n 2, 1) := by decide +kernel
theorem dX9_attackIt_21 : decode cX9_attackIt 21 = .ok (.invokevirtual 163, 3) := by decide +kernel
theorem dX9_attackIt_24 : decode cX9_attackIt 24 = .ok (.aload_n 0, 1) := by decide +kernel
theorem dX9_attackIt_25 : decode cX9_attackIt 25 = .ok (.iconst 1, 1) := by decide +kernel
theorem dX9_attackIt_26 : decode cX9_attackIt 26 = .ok (.iload_n 1, 1) := by decide +kernel
theorem dX9_attackIt_27 : decode cX9_attackIt 27 = .ok (.isub, 1) := by decide +kernel
theorem dX9_attackIt_28 : decode cX9_attackIt 28 = .ok (.iload_n 2, 1) := by decide +kernel
theorem dX9_attackIt_29 : decode cX9_attackIt 29 = .ok (.invokevirtual 163, 3) := by decide +kernel
theorem dX9_attackIt_32 : decode cX9_attackIt 32 = .ok (.if_icmp .le 7, 3) := by decide +kernel
theorem dX9_attackIt_35 : decode cX9_attackIt 35 = .ok (.iconst 1, 1) := by decide +kernel
theorem dX9_attackIt_36 : decode cX9_attackIt 36 = .ok (.goto 4, 3) := by decide +kernel
theorem dX9_attackIt_39 : decode cX9_attackIt 39 = .ok (.iconst 0, 1) := by decide +kernel
theorem dX9_attackIt_40 : decode cX9_attackIt 40 = .ok (.istore_n 3, 1) := by decide +kernel
theorem dX9_attackIt_41 : decode cX9_attackIt 41 = .ok (.iload_n 3, 1) := by decide +kernel
theorem dX9_attackIt_42 : decode cX9_attackIt 42 = .ok (.ifCond .eq 16, 3) := by decide +kernel
theorem dX9_attackIt_45 : decode cX9_attackIt 45 = .ok (.aload_n 0, 1) := by decide +kernel
theorem dX9_attackIt_46 : decode cX9_attackIt 46 = .ok (.iload_n 1, 1) := by decide +kernel
theorem dX9_attackIt_47 : decode cX9_attackIt 47 = .ok (.iload_n 2, 1) := by decide +kernel
theorem dX9_attackIt_48 : decode cX9_attackIt 48 = .ok (.invokevirtual 406, 3) := by decide +kernel
theorem dX9_attackIt_51 : decode cX9_attackIt 51 = .ok (.ifCond .eq 7, 3) := by decide +kernel
theorem dX9_attackIt_54 : decode cX9_attackIt 54 = .ok (.iconst 1, 1) := by decide +kernel
theorem dX9_attackIt_55 : decode cX9_attackIt 55 = .ok (.goto 4, 3) := by decide +kernel
theorem dX9_attackIt_58 : decode cX9_attackIt 58 = .ok (.iconst 0, 1) := by decide +kernel
theorem dX9_attackIt_59 : decode cX9_attackIt 59 = .ok (.istore 4, 2) := by decide +kernel
theorem dX9_attackIt_61 : decode cX9_attackIt 61 = .ok (.bipush 15, 2) := by decide +kernel
theorem dX9_attackIt_63 : decode cX9_attackIt 63 = .ok (.bipush 8, 2) := by decide +kernel
theorem dX9_attackIt_65 : decode cX9_attackIt 65 = .ok (.iload_n 3, 1) := by decide +kernel
theorem dX9_attackIt_66 : decode cX9_attackIt 66 = .ok (.ifCond .eq 9, 3) := by decide +kernel
theorem dX9_attackIt_69 : decode cX9_attackIt 69 = .ok (.iconst 1, 1) := by decide +kernel
theorem dX9_attackIt_70 : decode cX9_attackIt 70 = .ok (.iload_n 1, 1) := by decide +kernel
theorem dX9_attackIt_71 : decode cX9_attackIt 71 = .ok (.isub, 1) := by decide +kernel
theorem dX9_attackIt_72 : decode cX9_attackIt 72 = .ok (.goto 4, 3) := by decide +kernel
theorem dX9_attackIt_75 : decode cX9_attackIt 75 = .ok (.iload_n 1, 1) := by decide +kernel
theorem dX9_attackIt_76 : decode cX9_attackIt 76 = .ok (.imul, 1) := by decide +kernel
theorem dX9_attackIt_77 : decode cX9_attackIt 77 = .ok (.iadd, 1) := by decide +kernel
theorem dX9_attackIt_78 : decode cX9_attackIt 78 = .ok (.iload_n 2, 1) := by decide +kernel
theorem dX9_attackIt_79 : decode cX9_attackIt 79 = .ok (.iadd, 1) := by decide +kernel
