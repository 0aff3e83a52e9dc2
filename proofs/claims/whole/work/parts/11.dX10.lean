/-! ===== what each instruction is (printed rows) ===== -/
theorem dX1_init_0 : decode cX1_init 0 = .ok (.aload_n 0, 1) := by decide +kernel
theorem dX1_init_1 : decode cX1_init 1 = .ok (.invokespecial 3, 3) := by decide +kernel
theorem dX1_init_4 : decode cX1_init 4 = .ok (.aload_n 0, 1) := by decide +kernel
theorem dX1_init_5 : decode cX1_init 5 = .ok (.bipush 29, 2) := by decide +kernel
theorem dX1_init_7 : decode cX1_init 7 = .ok (.newarray .int, 2) := by decide +kernel
theorem dX1_init_9 : decode cX1_init 9 = .ok (.putfield 9, 3) := by decide +kernel
theorem dX1_init_12 : decode cX1_init 12 = .ok (.iconst 0, 1) := by decide +kernel
theorem dX1_init_13 : decode cX1_init 13 = .ok (.istore_n 1, 1) := by decide +kernel
theorem dX1_init_14 : decode cX1_init 14 = .ok (.iload_n 1, 1) := by decide +kernel
theorem dX1_init_15 : decode cX1_init 15 = .ok (.iconst 2, 1) := by decide +kernel
theorem dX1_init_16 : decode cX1_init 16 = .ok (.if_icmp .ge 31, 3) := by decide +kernel
theorem dX1_init_19 : decode cX1_init 19 = .ok (.aload_n 0, 1) := by decide +kernel
theorem dX1_init_20 : decode cX1_init 20 = .ok (.getfield 9, 3) := by decide +kernel
theorem dX1_init_23 : decode cX1_init 23 = .ok (.bipush 24, 2) := by decide +kernel
theorem dX1_init_25 : decode cX1_init 25 = .ok (.iload_n 1, 1) := by decide +kernel
theorem dX1_init_26 : decode cX1_init 26 = .ok (.iadd, 1) := by decide +kernel
theorem dX1_init_27 : decode cX1_init 27 = .ok (.bipush 50, 2) := by decide +kernel
theorem dX1_init_29 : decode cX1_init 29 = .ok (.iastore, 1) := by decide +kernel
theorem dX1_init_30 : decode cX1_init 30 = .ok (.aload_n 0, 1) := by decide +kernel
theorem dX1_init_31 : decode cX1_init 31 = .ok (.getfield 9, 3) := by decide +kernel
theorem dX1_init_34 : decode cX1_init 34 = .ok (.bipush 26, 2) := by decide +kernel
theorem dX1_init_36 : decode cX1_init 36 = .ok (.iload_n 1, 1) := by decide +kernel
theorem dX1_init_37 : decode cX1_init 37 = .ok (.iadd, 1) := by decide +kernel
theorem dX1_init_38 : decode cX1_init 38 = .ok (.bipush 20, 2) := by decide +kernel
theorem dX1_init_40 : decode cX1_init 40 = .ok (.iastore, 1) := by decide +kernel
theorem dX1_init_41 : decode cX1_init 41 = .ok (.iinc 1 1, 3) := by decide +kernel
theorem dX1_init_44 : decode cX1_init 44 = .ok (.goto (-30), 3) := by decide +kernel
theorem dX1_init_47 : decode cX1_init 47 = .ok (.return_, 1) := by decide +kernel
theorem dX1_copyFrom_0 : decode cX1_copyFrom 0 = .ok (.aload_n 1, 1) := by decide +kernel
theorem dX1_copyFrom_1 : decode cX1_copyFrom 1 = .ok (.getfield 9, 3) := by decide +kernel
theorem dX1_copyFrom_4 : decode cX1_copyFrom 4 = .ok (.iconst 0, 1) := by decide +kernel
theorem dX1_copyFrom_5 : decode cX1_copyFrom 5 = .ok (.aload_n 0, 1) := by decide +kernel
theorem dX1_copyFrom_6 : decode cX1_copyFrom 6 = .ok (.getfield 9, 3) := by decide +kernel
theorem dX1_copyFrom_9 : decode cX1_copyFrom 9 = .ok (.iconst 0, 1) := by decide +kernel
theorem dX1_copyFrom_10 : decode cX1_copyFrom 10 = .ok (.bipush 29, 2) := by decide +kernel
theorem dX1_copyFrom_12 : decode cX1_copyFrom 12 = .ok (.invokestatic 15, 3) := by decide +kernel
theorem dX1_copyFrom_15 : decode cX1_copyFrom 15 = .ok (.return_, 1) := by decide +kernel
theorem dX1_lineAt_0 : decode cX1_lineAt 0 = .ok (.aload_n 0, 1) := by decide +kernel
theorem dX1_lineAt_1 : decode cX1_lineAt 1 = .ok (.getfield 9, 3) := by decide +kernel
theorem dX1_lineAt_4 : decode cX1_lineAt 4 = .ok (.iconst 0, 1) := by decide +kernel
theorem dX1_lineAt_5 : decode cX1_lineAt 5 = .ok (.iload_n 1, 1) := by decide +kernel
theorem dX1_lineAt_6 : decode cX1_lineAt 6 = .ok (.iadd, 1) := by decide +kernel
theorem dX1_lineAt_7 : decode cX1_lineAt 7 = .ok (.iaload, 1) := by decide +kernel
theorem dX1_lineAt_8 : decode cX1_lineAt 8 = .ok (.ireturn, 1) := by decide +kernel
theorem dX1_setLine_0 : decode cX1_setLine 0 = .ok (.aload_n 0, 1) := by decide +kernel
theorem dX1_setLine_1 : decode cX1_setLine 1 = .ok (.getfield 9, 3) := by decide +kernel
theorem dX1_setLine_4 : decode cX1_setLine 4 = .ok (.iconst 0, 1) := by decide +kernel
theorem dX1_setLine_5 : decode cX1_setLine 5 = .ok (.iload_n 1, 1) := by decide +kernel
theorem dX1_setLine_6 : decode cX1_setLine 6 = .ok (.iadd, 1) := by decide +kernel
theorem dX1_setLine_7 : decode cX1_setLine 7 = .ok (.iload_n 2, 1) := by decide +kernel
theorem dX1_setLine_8 : decode cX1_setLine 8 = .ok (.iastore, 1) := by decide +kernel
theorem dX1_setLine_9 : decode cX1_setLine 9 = .ok (.return_, 1) := by decide +kernel
theorem dX1_menAt_0 : decode cX1_menAt 0 = .ok (.aload_n 0, 1) := by decide +kernel
theorem dX1_menAt_1 : decode cX1_menAt 1 = .ok (.getfield 9, 3) := by decide +kernel
theorem dX1_menAt_4 : decode cX1_menAt 4 = .ok (.bipush 8, 2) := by decide +kernel
theorem dX1_menAt_6 : decode cX1_menAt 6 = .ok (.iload_n 1, 1) := by decide +kernel
theorem dX1_menAt_7 : decode cX1_menAt 7 = .ok (.bipush 8, 2) := by decide +kernel
theorem dX1_menAt_9 : decode cX1_menAt 9 = .ok (.imul, 1) := by decide +kernel
theorem dX1_menAt_10 : decode cX1_menAt 10 = .ok (.iadd, 1) := by decide +kernel
theorem dX1_menAt_11 : decode cX1_menAt 11 = .ok (.iload_n 2, 1) := by decide +kernel
theorem dX1_menAt_12 : decode cX1_menAt 12 = .ok (.iadd, 1) := by decide +kernel
theorem dX1_menAt_13 : decode cX1_menAt 13 = .ok (.iaload, 1) := by decide +kernel
theorem dX1_menAt_14 : decode cX1_menAt 14 = .ok (.ireturn, 1) := by decide +kernel
theorem dX1_setMen_0 : decode cX1_setMen 0 = .ok (.aload_n 0, 1) := by decide +kernel
theorem dX1_setMen_1 : decode cX1_setMen 1 = .ok (.getfield 9, 3) := by decide +kernel
theorem dX1_setMen_4 : decode cX1_setMen 4 = .ok (.bipush 8, 2) := by decide +kernel
theorem dX1_setMen_6 : decode cX1_setMen 6 = .ok (.iload_n 1, 1) := by decide +kernel
theorem dX1_setMen_7 : decode cX1_setMen 7 = .ok (.bipush 8, 2) := by decide +kernel
theorem dX1_setMen_9 : decode cX1_setMen 9 = .ok (.imul, 1) := by decide +kernel
theorem dX1_setMen_10 : decode cX1_setMen 10 = .ok (.iadd, 1) := by decide +kernel
theorem dX1_setMen_11 : decode cX1_setMen 11 = .ok (.iload_n 2, 1) := by decide +kernel
theorem dX1_setMen_12 : decode cX1_setMen 12 = .ok (.iadd, 1) := by decide +kernel
theorem dX1_setMen_13 : decode cX1_setMen 13 = .ok (.iload_n 3, 1) := by decide +kernel
theorem dX1_setMen_14 : decode cX1_setMen 14 = .ok (.iastore, 1) := by decide +kernel
theorem dX1_setMen_15 : decode cX1_setMen 15 = .ok (.return_, 1) := by decide +kernel
theorem dX1_menOf_0 : decode cX1_menOf 0 = .ok (.iconst 0, 1) := by decide +kernel
theorem dX1_menOf_1 : decode cX1_menOf 1 = .ok (.istore_n 2, 1) := by decide +kernel
theorem dX1_menOf_2 : decode cX1_menOf 2 = .ok (.iconst 0, 1) := by decide +kernel
theorem dX1_menOf_3 : decode cX1_menOf 3 = .ok (.istore_n 3, 1) := by decide +kernel
theorem dX1_menOf_4 : decode cX1_menOf 4 = .ok (.iload_n 3, 1) := by decide +kernel
theorem dX1_menOf_5 : decode cX1_menOf 5 = .ok (.bipush 8, 2) := by decide +kernel
theorem dX1_menOf_7 : decode cX1_menOf 7 = .ok (.if_icmp .ge 18, 3) := by decide +kernel
theorem dX1_menOf_10 : decode cX1_menOf 10 = .ok (.iload_n 2, 1) := by decide +kernel
theorem dX1_menOf_11 : decode cX1_menOf 11 = .ok (.aload_n 0, 1) := by decide +kernel
theorem dX1_menOf_12 : decode cX1_menOf 12 = .ok (.iload_n 1, 1) := by decide +kernel
theorem dX1_menOf_13 : decode cX1_menOf 13 = .ok (.iload_n 3, 1) := by decide +kernel
theorem dX1_menOf_14 : decode cX1_menOf 14 = .ok (.invokevirtual 21, 3) := by decide +kernel
theorem dX1_menOf_17 : decode cX1_menOf 17 = .ok (.iadd, 1) := by decide +kernel
theorem dX1_menOf_18 : decode cX1_menOf 18 = .ok (.istore_n 2, 1) := by decide +kernel
theorem dX1_menOf_19 : decode cX1_menOf 19 = .ok (.iinc 3 1, 3) := by decide +kernel
theorem dX1_menOf_22 : decode cX1_menOf 22 = .ok (.goto (-18), 3) := by decide +kernel
theorem dX1_menOf_25 : decode cX1_menOf 25 = .ok (.iload_n 2, 1) := by decide +kernel
theorem dX1_menOf_26 : decode cX1_menOf 26 = .ok (.ireturn, 1) := by decide +kernel
theorem dX1_isStronger_0 : decode cX1_isStronger 0 = .ok (.aload_n 0, 1) := by decide +kernel
theorem dX1_isStronger_1 : decode cX1_isStronger 1 = .ok (.iload_n 1, 1) := by decide +kernel
theorem dX1_isStronger_2 : decode cX1_isStronger 2 = .ok (.iload_n 2, 1) := by decide +kernel
theorem dX1_isStronger_3 : decode cX1_isStronger 3 = .ok (.invokevirtual 21, 3) := by decide +kernel
theorem dX1_isStronger_6 : decode cX1_isStronger 6 = .ok (.aload_n 0, 1) := by decide +kernel
theorem dX1_isStronger_7 : decode cX1_isStronger 7 = .ok (.iconst 1, 1) := by decide +kernel
theorem dX1_isStronger_8 : decode cX1_isStronger 8 = .ok (.iload_n 1, 1) := by decide +kernel
theorem dX1_isStronger_9 : decode cX1_isStronger 9 = .ok (.isub, 1) := by decide +kernel
theorem dX1_isStronger_10 : decode cX1_isStronger 10 = .ok (.iload_n 2, 1) := by decide +kernel
theorem dX1_isStronger_11 : decode cX1_isStronger 11 = .ok (.invokevirtual 21, 3) := by decide +kernel
theorem dX1_isStronger_14 : decode cX1_isStronger 14 = .ok (.if_icmp .le 7, 3) := by decide +kernel
theorem dX1_isStronger_17 : decode cX1_isStronger 17 = .ok (.iconst 1, 1) := by decide +kernel
theorem dX1_isStronger_18 : decode cX1_isStronger 18 = .ok (.goto 4, 3) := by decide +kernel
theorem dX1_isStronger_21 : decode cX1_isStronger 21 = .ok (.iconst 0, 1) := by decide +kernel
theorem dX1_isStronger_22 : decode cX1_isStronger 22 = .ok (.ireturn, 1) := by decide +kernel
theorem dX1_canGoOn_0 : decode cX1_canGoOn 0 = .ok (.iload_n 1, 1) := by decide +kernel
theorem dX1_canGoOn_1 : decode cX1_canGoOn 1 = .ok (.ifCond .ne 20, 3) := by decide +kernel
theorem dX1_canGoOn_4 : decode cX1_canGoOn 4 = .ok (.aload_n 0, 1) := by decide +kernel
theorem dX1_canGoOn_5 : decode cX1_canGoOn 5 = .ok (.iload_n 2, 1) := by decide +kernel
theorem dX1_canGoOn_6 : decode cX1_canGoOn 6 = .ok (.invokevirtual 25, 3) := by decide +kernel
theorem dX1_canGoOn_9 : decode cX1_canGoOn 9 = .ok (.iconst 3, 1) := by decide +kernel
theorem dX1_canGoOn_10 : decode cX1_canGoOn 10 = .ok (.if_icmp .ge 7, 3) := by decide +kernel
theorem dX1_canGoOn_13 : decode cX1_canGoOn 13 = .ok (.iconst 1, 1) := by decide +kernel
theorem dX1_canGoOn_14 : decode cX1_canGoOn 14 = .ok (.goto 22, 3) := by decide +kernel
theorem dX1_canGoOn_17 : decode cX1_canGoOn 17 = .ok (.iconst 0, 1) := by decide +kernel
theorem dX1_canGoOn_18 : decode cX1_canGoOn 18 = .ok (.goto 18, 3) := by decide +kernel
theorem dX1_canGoOn_21 : decode cX1_canGoOn 21 = .ok (.aload_n 0, 1) := by decide +kernel
theorem dX1_canGoOn_22 : decode cX1_canGoOn 22 = .ok (.iload_n 2, 1) := by decide +kernel
theorem dX1_canGoOn_23 : decode cX1_canGoOn 23 = .ok (.invokevirtual 25, 3) := by decide +kernel
theorem dX1_canGoOn_26 : decode cX1_canGoOn 26 = .ok (.bipush (-3), 2) := by decide +kernel
theorem dX1_canGoOn_28 : decode cX1_canGoOn 28 = .ok (.if_icmp .le 7, 3) := by decide +kernel
theorem dX1_canGoOn_31 : decode cX1_canGoOn 31 = .ok (.iconst 1, 1) := by decide +kernel
theorem dX1_canGoOn_32 : decode cX1_canGoOn 32 = .ok (.goto 4, 3) := by decide +kernel
theorem dX1_canGoOn_35 : decode cX1_canGoOn 35 = .ok (.iconst 0, 1) := by decide +kernel
theorem dX1_canGoOn_36 : decode cX1_canGoOn 36 = .ok (.ireturn, 1) := by decide +kernel
theorem dX1_supplyOf_0 : decode cX1_supplyOf 0 = .ok (.aload_n 0, 1) := by decide +kernel
theorem dX1_supplyOf_1 : decode cX1_supplyOf 1 = .ok (.getfield 9, 3) := by decide +kernel
theorem dX1_supplyOf_4 : decode cX1_supplyOf 4 = .ok (.bipush 24, 2) := by decide +kernel
theorem dX1_supplyOf_6 : decode cX1_supplyOf 6 = .ok (.iload_n 1, 1) := by decide +kernel
theorem dX1_supplyOf_7 : decode cX1_supplyOf 7 = .ok (.iadd, 1) := by decide +kernel
theorem dX1_supplyOf_8 : decode cX1_supplyOf 8 = .ok (.iaload, 1) := by decide +kernel
theorem dX1_supplyOf_9 : decode cX1_supplyOf 9 = .ok (.ireturn, 1) := by decide +kernel
theorem dX1_setSupply_0 : decode cX1_setSupply 0 = .ok (.aload_n 0, 1) := by decide +kernel
theorem dX1_setSupply_1 : decode cX1_setSupply 1 = .ok (.getfield 9, 3) := by decide +kernel
theorem dX1_setSupply_4 : decode cX1_setSupply 4 = .ok (.bipush 24, 2) := by decide +kernel
theorem dX1_setSupply_6 : decode cX1_setSupply 6 = .ok (.iload_n 1, 1) := by decide +kernel
theorem dX1_setSupply_7 : decode cX1_setSupply 7 = .ok (.iadd, 1) := by decide +kernel
theorem dX1_setSupply_8 : decode cX1_setSupply 8 = .ok (.iload_n 2, 1) := by decide +kernel
theorem dX1_setSupply_9 : decode cX1_setSupply 9 = .ok (.sipush 999, 3) := by decide +kernel
theorem dX1_setSupply_12 : decode cX1_setSupply 12 = .ok (.invokestatic 29, 3) := by decide +kernel
theorem dX1_setSupply_15 : decode cX1_setSupply 15 = .ok (.iastore, 1) := by decide +kernel
theorem dX1_setSupply_16 : decode cX1_setSupply 16 = .ok (.return_, 1) := by decide +kernel
theorem dX1_temperOf_0 : decode cX1_temperOf 0 = .ok (.aload_n 0, 1) := by decide +kernel
theorem dX1_temperOf_1 : decode cX1_temperOf 1 = .ok (.getfield 9, 3) := by decide +kernel
theorem dX1_temperOf_4 : decode cX1_temperOf 4 = .ok (.bipush 26, 2) := by decide +kernel
theorem dX1_temperOf_6 : decode cX1_temperOf 6 = .ok (.iload_n 1, 1) := by decide +kernel
theorem dX1_temperOf_7 : decode cX1_temperOf 7 = .ok (.iadd, 1) := by decide +kernel
theorem dX1_temperOf_8 : decode cX1_temperOf 8 = .ok (.iaload, 1) := by decide +kernel
theorem dX1_temperOf_9 : decode cX1_temperOf 9 = .ok (.ireturn, 1) := by decide +kernel
theorem dX1_setTemper_0 : decode cX1_setTemper 0 = .ok (.aload_n 0, 1) := by decide +kernel
theorem dX1_setTemper_1 : decode cX1_setTemper 1 = .ok (.getfield 9, 3) := by decide +kernel
theorem dX1_setTemper_4 : decode cX1_setTemper 4 = .ok (.bipush 26, 2) := by decide +kernel
theorem dX1_setTemper_6 : decode cX1_setTemper 6 = .ok (.iload_n 1, 1) := by decide +kernel
theorem dX1_setTemper_7 : decode cX1_setTemper 7 = .ok (.iadd, 1) := by decide +kernel
theorem dX1_setTemper_8 : decode cX1_setTemper 8 = .ok (.iconst 0, 1) := by decide +kernel
theorem dX1_setTemper_9 : decode cX1_setTemper 9 = .ok (.iload_n 2, 1) := by decide +kernel
theorem dX1_setTemper_10 : decode cX1_setTemper 10 = .ok (.bipush 99, 2) := by decide +kernel
theorem dX1_setTemper_12 : decode cX1_setTemper 12 = .ok (.invokestatic 29, 3) := by decide +kernel
theorem dX1_setTemper_15 : decode cX1_setTemper 15 = .ok (.invokestatic 34, 3) := by decide +kernel
theorem dX1_setTemper_18 : decode cX1_setTemper 18 = .ok (.iastore, 1) := by decide +kernel
theorem dX1_setTemper_19 : decode cX1_setTemper 19 = .ok (.return_, 1) := by decide +kernel
theorem dX1_theDay_0 : decode cX1_theDay 0 = .ok (.aload_n 0, 1) := by decide +kernel
theorem dX1_theDay_1 : decode cX1_theDay 1 = .ok (.getfield 9, 3) := by decide +kernel
theorem dX1_theDay_4 : decode cX1_theDay 4 = .ok (.bipush 28, 2) := by decide +kernel
theorem dX1_theDay_6 : decode cX1_theDay 6 = .ok (.iaload, 1) := by decide +kernel
theorem dX1_theDay_7 : decode cX1_theDay 7 = .ok (.ireturn, 1) := by decide +kernel
theorem dX1_setDay_0 : decode cX1_setDay 0 = .ok (.aload_n 0, 1) := by decide +kernel
theorem dX1_setDay_1 : decode cX1_setDay 1 = .ok (.getfield 9, 3) := by decide +kernel
theorem dX1_setDay_4 : decode cX1_setDay 4 = .ok (.bipush 28, 2) := by decide +kernel
theorem dX1_setDay_6 : decode cX1_setDay 6 = .ok (.iload_n 1, 1) := by decide +kernel
theorem dX1_setDay_7 : decode cX1_setDay 7 = .ok (.iastore, 1) := by decide +kernel
theorem dX1_setDay_8 : decode cX1_setDay 8 = .ok (.return_, 1) := by decide +kernel
