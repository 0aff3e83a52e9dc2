/-! ===== what each instruction is (printed rows) ===== -/
theorem dX6_init_0 : decode cX6_init 0 = .ok (.aload_n 0, 1) := by decide +kernel
theorem dX6_init_1 : decode cX6_init 1 = .ok (.invokespecial 3, 3) := by decide +kernel
theorem dX6_init_4 : decode cX6_init 4 = .ok (.aload_n 0, 1) := by decide +kernel
theorem dX6_init_5 : decode cX6_init 5 = .ok (.sipush 401, 3) := by decide +kernel
theorem dX6_init_8 : decode cX6_init 8 = .ok (.newarray .int, 2) := by decide +kernel
theorem dX6_init_10 : decode cX6_init 10 = .ok (.putfield 9, 3) := by decide +kernel
theorem dX6_init_13 : decode cX6_init 13 = .ok (.aload_n 0, 1) := by decide +kernel
theorem dX6_init_14 : decode cX6_init 14 = .ok (.sipush 401, 3) := by decide +kernel
theorem dX6_init_17 : decode cX6_init 17 = .ok (.newarray .int, 2) := by decide +kernel
theorem dX6_init_19 : decode cX6_init 19 = .ok (.putfield 15, 3) := by decide +kernel
theorem dX6_init_22 : decode cX6_init 22 = .ok (.aload_n 0, 1) := by decide +kernel
theorem dX6_init_23 : decode cX6_init 23 = .ok (.bipush 12, 2) := by decide +kernel
theorem dX6_init_25 : decode cX6_init 25 = .ok (.newarray .int, 2) := by decide +kernel
theorem dX6_init_27 : decode cX6_init 27 = .ok (.putfield 18, 3) := by decide +kernel
theorem dX6_init_30 : decode cX6_init 30 = .ok (.aload_n 0, 1) := by decide +kernel
theorem dX6_init_31 : decode cX6_init 31 = .ok (.bipush 12, 2) := by decide +kernel
theorem dX6_init_33 : decode cX6_init 33 = .ok (.newarray .int, 2) := by decide +kernel
theorem dX6_init_35 : decode cX6_init 35 = .ok (.putfield 21, 3) := by decide +kernel
theorem dX6_init_38 : decode cX6_init 38 = .ok (.aload_n 0, 1) := by decide +kernel
theorem dX6_init_39 : decode cX6_init 39 = .ok (.bipush 48, 2) := by decide +kernel
theorem dX6_init_41 : decode cX6_init 41 = .ok (.newarray .int, 2) := by decide +kernel
theorem dX6_init_43 : decode cX6_init 43 = .ok (.putfield 24, 3) := by decide +kernel
theorem dX6_init_46 : decode cX6_init 46 = .ok (.return_, 1) := by decide +kernel
theorem dX6_init__0 : decode cX6_init_ 0 = .ok (.aload_n 0, 1) := by decide +kernel
theorem dX6_init__1 : decode cX6_init_ 1 = .ok (.invokespecial 3, 3) := by decide +kernel
theorem dX6_init__4 : decode cX6_init_ 4 = .ok (.aload_n 0, 1) := by decide +kernel
theorem dX6_init__5 : decode cX6_init_ 5 = .ok (.aload_n 1, 1) := by decide +kernel
theorem dX6_init__6 : decode cX6_init_ 6 = .ok (.getfield 27, 3) := by decide +kernel
theorem dX6_init__9 : decode cX6_init_ 9 = .ok (.putfield 27, 3) := by decide +kernel
theorem dX6_init__12 : decode cX6_init_ 12 = .ok (.aload_n 0, 1) := by decide +kernel
theorem dX6_init__13 : decode cX6_init_ 13 = .ok (.aload_n 0, 1) := by decide +kernel
theorem dX6_init__14 : decode cX6_init_ 14 = .ok (.getfield 27, 3) := by decide +kernel
theorem dX6_init__17 : decode cX6_init_ 17 = .ok (.newarray .int, 2) := by decide +kernel
theorem dX6_init__19 : decode cX6_init_ 19 = .ok (.putfield 9, 3) := by decide +kernel
theorem dX6_init__22 : decode cX6_init_ 22 = .ok (.aload_n 0, 1) := by decide +kernel
theorem dX6_init__23 : decode cX6_init_ 23 = .ok (.aload_n 0, 1) := by decide +kernel
theorem dX6_init__24 : decode cX6_init_ 24 = .ok (.getfield 27, 3) := by decide +kernel
theorem dX6_init__27 : decode cX6_init_ 27 = .ok (.newarray .int, 2) := by decide +kernel
theorem dX6_init__29 : decode cX6_init_ 29 = .ok (.putfield 15, 3) := by decide +kernel
theorem dX6_init__32 : decode cX6_init_ 32 = .ok (.aload_n 1, 1) := by decide +kernel
theorem dX6_init__33 : decode cX6_init_ 33 = .ok (.getfield 9, 3) := by decide +kernel
theorem dX6_init__36 : decode cX6_init_ 36 = .ok (.iconst 0, 1) := by decide +kernel
theorem dX6_init__37 : decode cX6_init_ 37 = .ok (.aload_n 0, 1) := by decide +kernel
theorem dX6_init__38 : decode cX6_init_ 38 = .ok (.getfield 9, 3) := by decide +kernel
theorem dX6_init__41 : decode cX6_init_ 41 = .ok (.iconst 0, 1) := by decide +kernel
theorem dX6_init__42 : decode cX6_init_ 42 = .ok (.aload_n 0, 1) := by decide +kernel
theorem dX6_init__43 : decode cX6_init_ 43 = .ok (.getfield 27, 3) := by decide +kernel
theorem dX6_init__46 : decode cX6_init_ 46 = .ok (.invokestatic 31, 3) := by decide +kernel
theorem dX6_init__49 : decode cX6_init_ 49 = .ok (.aload_n 1, 1) := by decide +kernel
theorem dX6_init__50 : decode cX6_init_ 50 = .ok (.getfield 15, 3) := by decide +kernel
theorem dX6_init__53 : decode cX6_init_ 53 = .ok (.iconst 0, 1) := by decide +kernel
theorem dX6_init__54 : decode cX6_init_ 54 = .ok (.aload_n 0, 1) := by decide +kernel
theorem dX6_init__55 : decode cX6_init_ 55 = .ok (.getfield 15, 3) := by decide +kernel
theorem dX6_init__58 : decode cX6_init_ 58 = .ok (.iconst 0, 1) := by decide +kernel
theorem dX6_init__59 : decode cX6_init_ 59 = .ok (.aload_n 0, 1) := by decide +kernel
theorem dX6_init__60 : decode cX6_init_ 60 = .ok (.getfield 27, 3) := by decide +kernel
theorem dX6_init__63 : decode cX6_init_ 63 = .ok (.invokestatic 31, 3) := by decide +kernel
theorem dX6_init__66 : decode cX6_init_ 66 = .ok (.aload_n 0, 1) := by decide +kernel
theorem dX6_init__67 : decode cX6_init_ 67 = .ok (.aload_n 1, 1) := by decide +kernel
theorem dX6_init__68 : decode cX6_init_ 68 = .ok (.getfield 37, 3) := by decide +kernel
theorem dX6_init__71 : decode cX6_init_ 71 = .ok (.putfield 37, 3) := by decide +kernel
theorem dX6_init__74 : decode cX6_init_ 74 = .ok (.aload_n 0, 1) := by decide +kernel
theorem dX6_init__75 : decode cX6_init_ 75 = .ok (.aload_n 0, 1) := by decide +kernel
theorem dX6_init__76 : decode cX6_init_ 76 = .ok (.getfield 37, 3) := by decide +kernel
theorem dX6_init__79 : decode cX6_init_ 79 = .ok (.newarray .int, 2) := by decide +kernel
theorem dX6_init__81 : decode cX6_init_ 81 = .ok (.putfield 18, 3) := by decide +kernel
theorem dX6_init__84 : decode cX6_init_ 84 = .ok (.aload_n 0, 1) := by decide +kernel
theorem dX6_init__85 : decode cX6_init_ 85 = .ok (.aload_n 0, 1) := by decide +kernel
theorem dX6_init__86 : decode cX6_init_ 86 = .ok (.getfield 37, 3) := by decide +kernel
theorem dX6_init__89 : decode cX6_init_ 89 = .ok (.newarray .int, 2) := by decide +kernel
theorem dX6_init__91 : decode cX6_init_ 91 = .ok (.putfield 21, 3) := by decide +kernel
theorem dX6_init__94 : decode cX6_init_ 94 = .ok (.aload_n 0, 1) := by decide +kernel
theorem dX6_init__95 : decode cX6_init_ 95 = .ok (.aload_n 0, 1) := by decide +kernel
theorem dX6_init__96 : decode cX6_init_ 96 = .ok (.getfield 37, 3) := by decide +kernel
theorem dX6_init__99 : decode cX6_init_ 99 = .ok (.iconst 4, 1) := by decide +kernel
theorem dX6_init__100 : decode cX6_init_ 100 = .ok (.imul, 1) := by decide +kernel
theorem dX6_init__101 : decode cX6_init_ 101 = .ok (.newarray .int, 2) := by decide +kernel
theorem dX6_init__103 : decode cX6_init_ 103 = .ok (.putfield 24, 3) := by decide +kernel
theorem dX6_init__106 : decode cX6_init_ 106 = .ok (.aload_n 1, 1) := by decide +kernel
theorem dX6_init__107 : decode cX6_init_ 107 = .ok (.getfield 18, 3) := by decide +kernel
theorem dX6_init__110 : decode cX6_init_ 110 = .ok (.iconst 0, 1) := by decide +kernel
theorem dX6_init__111 : decode cX6_init_ 111 = .ok (.aload_n 0, 1) := by decide +kernel
theorem dX6_init__112 : decode cX6_init_ 112 = .ok (.getfield 18, 3) := by decide +kernel
theorem dX6_init__115 : decode cX6_init_ 115 = .ok (.iconst 0, 1) := by decide +kernel
theorem dX6_init__116 : decode cX6_init_ 116 = .ok (.aload_n 0, 1) := by decide +kernel
theorem dX6_init__117 : decode cX6_init_ 117 = .ok (.getfield 37, 3) := by decide +kernel
theorem dX6_init__120 : decode cX6_init_ 120 = .ok (.invokestatic 31, 3) := by decide +kernel
theorem dX6_init__123 : decode cX6_init_ 123 = .ok (.aload_n 1, 1) := by decide +kernel
theorem dX6_init__124 : decode cX6_init_ 124 = .ok (.getfield 21, 3) := by decide +kernel
theorem dX6_init__127 : decode cX6_init_ 127 = .ok (.iconst 0, 1) := by decide +kernel
theorem dX6_init__128 : decode cX6_init_ 128 = .ok (.aload_n 0, 1) := by decide +kernel
theorem dX6_init__129 : decode cX6_init_ 129 = .ok (.getfield 21, 3) := by decide +kernel
theorem dX6_init__132 : decode cX6_init_ 132 = .ok (.iconst 0, 1) := by decide +kernel
theorem dX6_init__133 : decode cX6_init_ 133 = .ok (.aload_n 0, 1) := by decide +kernel
theorem dX6_init__134 : decode cX6_init_ 134 = .ok (.getfield 37, 3) := by decide +kernel
theorem dX6_init__137 : decode cX6_init_ 137 = .ok (.invokestatic 31, 3) := by decide +kernel
theorem dX6_init__140 : decode cX6_init_ 140 = .ok (.aload_n 1, 1) := by decide +kernel
theorem dX6_init__141 : decode cX6_init_ 141 = .ok (.getfield 24, 3) := by decide +kernel
theorem dX6_init__144 : decode cX6_init_ 144 = .ok (.iconst 0, 1) := by decide +kernel
theorem dX6_init__145 : decode cX6_init_ 145 = .ok (.aload_n 0, 1) := by decide +kernel
theorem dX6_init__146 : decode cX6_init_ 146 = .ok (.getfield 24, 3) := by decide +kernel
theorem dX6_init__149 : decode cX6_init_ 149 = .ok (.iconst 0, 1) := by decide +kernel
theorem dX6_init__150 : decode cX6_init_ 150 = .ok (.aload_n 0, 1) := by decide +kernel
theorem dX6_init__151 : decode cX6_init_ 151 = .ok (.getfield 37, 3) := by decide +kernel
theorem dX6_init__154 : decode cX6_init_ 154 = .ok (.iconst 4, 1) := by decide +kernel
theorem dX6_init__155 : decode cX6_init_ 155 = .ok (.imul, 1) := by decide +kernel
theorem dX6_init__156 : decode cX6_init_ 156 = .ok (.invokestatic 31, 3) := by decide +kernel
theorem dX6_init__159 : decode cX6_init_ 159 = .ok (.return_, 1) := by decide +kernel
theorem dX6_clear_0 : decode cX6_clear 0 = .ok (.aload_n 0, 1) := by decide +kernel
theorem dX6_clear_1 : decode cX6_clear 1 = .ok (.iconst 0, 1) := by decide +kernel
theorem dX6_clear_2 : decode cX6_clear 2 = .ok (.putfield 27, 3) := by decide +kernel
theorem dX6_clear_5 : decode cX6_clear 5 = .ok (.aload_n 0, 1) := by decide +kernel
theorem dX6_clear_6 : decode cX6_clear 6 = .ok (.iconst 0, 1) := by decide +kernel
theorem dX6_clear_7 : decode cX6_clear 7 = .ok (.putfield 37, 3) := by decide +kernel
theorem dX6_clear_10 : decode cX6_clear 10 = .ok (.return_, 1) := by decide +kernel
theorem dX6_beginClause_0 : decode cX6_beginClause 0 = .ok (.aload_n 0, 1) := by decide +kernel
theorem dX6_beginClause_1 : decode cX6_beginClause 1 = .ok (.getfield 37, 3) := by decide +kernel
theorem dX6_beginClause_4 : decode cX6_beginClause 4 = .ok (.bipush 12, 2) := by decide +kernel
theorem dX6_beginClause_6 : decode cX6_beginClause 6 = .ok (.if_icmp .ge 60, 3) := by decide +kernel
theorem dX6_beginClause_9 : decode cX6_beginClause 9 = .ok (.aload_n 0, 1) := by decide +kernel
theorem dX6_beginClause_10 : decode cX6_beginClause 10 = .ok (.getfield 18, 3) := by decide +kernel
theorem dX6_beginClause_13 : decode cX6_beginClause 13 = .ok (.aload_n 0, 1) := by decide +kernel
theorem dX6_beginClause_14 : decode cX6_beginClause 14 = .ok (.getfield 37, 3) := by decide +kernel
theorem dX6_beginClause_17 : decode cX6_beginClause 17 = .ok (.iload_n 1, 1) := by decide +kernel
theorem dX6_beginClause_18 : decode cX6_beginClause 18 = .ok (.iastore, 1) := by decide +kernel
theorem dX6_beginClause_19 : decode cX6_beginClause 19 = .ok (.aload_n 0, 1) := by decide +kernel
theorem dX6_beginClause_20 : decode cX6_beginClause 20 = .ok (.getfield 21, 3) := by decide +kernel
theorem dX6_beginClause_23 : decode cX6_beginClause 23 = .ok (.aload_n 0, 1) := by decide +kernel
theorem dX6_beginClause_24 : decode cX6_beginClause 24 = .ok (.getfield 37, 3) := by decide +kernel
theorem dX6_beginClause_27 : decode cX6_beginClause 27 = .ok (.iconst 1, 1) := by decide +kernel
theorem dX6_beginClause_28 : decode cX6_beginClause 28 = .ok (.iastore, 1) := by decide +kernel
theorem dX6_beginClause_29 : decode cX6_beginClause 29 = .ok (.iconst 0, 1) := by decide +kernel
theorem dX6_beginClause_30 : decode cX6_beginClause 30 = .ok (.istore_n 2, 1) := by decide +kernel
theorem dX6_beginClause_31 : decode cX6_beginClause 31 = .ok (.iload_n 2, 1) := by decide +kernel
theorem dX6_beginClause_32 : decode cX6_beginClause 32 = .ok (.iconst 4, 1) := by decide +kernel
theorem dX6_beginClause_33 : decode cX6_beginClause 33 = .ok (.if_icmp .ge 23, 3) := by decide +kernel
theorem dX6_beginClause_36 : decode cX6_beginClause 36 = .ok (.aload_n 0, 1) := by decide +kernel
theorem dX6_beginClause_37 : decode cX6_beginClause 37 = .ok (.getfield 24, 3) := by decide +kernel
theorem dX6_beginClause_40 : decode cX6_beginClause 40 = .ok (.aload_n 0, 1) := by decide +kernel
theorem dX6_beginClause_41 : decode cX6_beginClause 41 = .ok (.getfield 37, 3) := by decide +kernel
theorem dX6_beginClause_44 : decode cX6_beginClause 44 = .ok (.iconst 4, 1) := by decide +kernel
theorem dX6_beginClause_45 : decode cX6_beginClause 45 = .ok (.imul, 1) := by decide +kernel
theorem dX6_beginClause_46 : decode cX6_beginClause 46 = .ok (.iload_n 2, 1) := by decide +kernel
theorem dX6_beginClause_47 : decode cX6_beginClause 47 = .ok (.iadd, 1) := by decide +kernel
theorem dX6_beginClause_48 : decode cX6_beginClause 48 = .ok (.iconst (-1), 1) := by decide +kernel
theorem dX6_beginClause_49 : decode cX6_beginClause 49 = .ok (.iastore, 1) := by decide +kernel
theorem dX6_beginClause_50 : decode cX6_beginClause 50 = .ok (.iinc 2 1, 3) := by decide +kernel
theorem dX6_beginClause_53 : decode cX6_beginClause 53 = .ok (.goto (-22), 3) := by decide +kernel
theorem dX6_beginClause_56 : decode cX6_beginClause 56 = .ok (.aload_n 0, 1) := by decide +kernel
theorem dX6_beginClause_57 : decode cX6_beginClause 57 = .ok (.dup, 1) := by decide +kernel
theorem dX6_beginClause_58 : decode cX6_beginClause 58 = .ok (.getfield 37, 3) := by decide +kernel
theorem dX6_beginClause_61 : decode cX6_beginClause 61 = .ok (.iconst 1, 1) := by decide +kernel
theorem dX6_beginClause_62 : decode cX6_beginClause 62 = .ok (.iadd, 1) := by decide +kernel
theorem dX6_beginClause_63 : decode cX6_beginClause 63 = .ok (.putfield 37, 3) := by decide +kernel
theorem dX6_beginClause_66 : decode cX6_beginClause 66 = .ok (.return_, 1) := by decide +kernel
theorem dX6_beginPlace_0 : decode cX6_beginPlace 0 = .ok (.aload_n 0, 1) := by decide +kernel
theorem dX6_beginPlace_1 : decode cX6_beginPlace 1 = .ok (.sipush 288, 3) := by decide +kernel
theorem dX6_beginPlace_4 : decode cX6_beginPlace 4 = .ok (.iconst 0, 1) := by decide +kernel
theorem dX6_beginPlace_5 : decode cX6_beginPlace 5 = .ok (.invokevirtual 40, 3) := by decide +kernel
theorem dX6_beginPlace_8 : decode cX6_beginPlace 8 = .ok (.aload_n 0, 1) := by decide +kernel
theorem dX6_beginPlace_9 : decode cX6_beginPlace 9 = .ok (.getfield 37, 3) := by decide +kernel
theorem dX6_beginPlace_12 : decode cX6_beginPlace 12 = .ok (.ifCond .le 22, 3) := by decide +kernel
theorem dX6_beginPlace_15 : decode cX6_beginPlace 15 = .ok (.aload_n 0, 1) := by decide +kernel
theorem dX6_beginPlace_16 : decode cX6_beginPlace 16 = .ok (.getfield 24, 3) := by decide +kernel
theorem dX6_beginPlace_19 : decode cX6_beginPlace 19 = .ok (.aload_n 0, 1) := by decide +kernel
theorem dX6_beginPlace_20 : decode cX6_beginPlace 20 = .ok (.getfield 37, 3) := by decide +kernel
theorem dX6_beginPlace_23 : decode cX6_beginPlace 23 = .ok (.iconst 1, 1) := by decide +kernel
theorem dX6_beginPlace_24 : decode cX6_beginPlace 24 = .ok (.isub, 1) := by decide +kernel
theorem dX6_beginPlace_25 : decode cX6_beginPlace 25 = .ok (.iconst 4, 1) := by decide +kernel
theorem dX6_beginPlace_26 : decode cX6_beginPlace 26 = .ok (.imul, 1) := by decide +kernel
theorem dX6_beginPlace_27 : decode cX6_beginPlace 27 = .ok (.iload_n 1, 1) := by decide +kernel
theorem dX6_beginPlace_28 : decode cX6_beginPlace 28 = .ok (.iadd, 1) := by decide +kernel
theorem dX6_beginPlace_29 : decode cX6_beginPlace 29 = .ok (.aload_n 0, 1) := by decide +kernel
theorem dX6_beginPlace_30 : decode cX6_beginPlace 30 = .ok (.getfield 27, 3) := by decide +kernel
theorem dX6_beginPlace_33 : decode cX6_beginPlace 33 = .ok (.iastore, 1) := by decide +kernel
theorem dX6_beginPlace_34 : decode cX6_beginPlace 34 = .ok (.return_, 1) := by decide +kernel
theorem dX6_setTimes_0 : decode cX6_setTimes 0 = .ok (.aload_n 0, 1) := by decide +kernel
theorem dX6_setTimes_1 : decode cX6_setTimes 1 = .ok (.getfield 37, 3) := by decide +kernel
theorem dX6_setTimes_4 : decode cX6_setTimes 4 = .ok (.ifCond .le 15, 3) := by decide +kernel
theorem dX6_setTimes_7 : decode cX6_setTimes 7 = .ok (.aload_n 0, 1) := by decide +kernel
theorem dX6_setTimes_8 : decode cX6_setTimes 8 = .ok (.getfield 21, 3) := by decide +kernel
theorem dX6_setTimes_11 : decode cX6_setTimes 11 = .ok (.aload_n 0, 1) := by decide +kernel
theorem dX6_setTimes_12 : decode cX6_setTimes 12 = .ok (.getfield 37, 3) := by decide +kernel
theorem dX6_setTimes_15 : decode cX6_setTimes 15 = .ok (.iconst 1, 1) := by decide +kernel
theorem dX6_setTimes_16 : decode cX6_setTimes 16 = .ok (.isub, 1) := by decide +kernel
theorem dX6_setTimes_17 : decode cX6_setTimes 17 = .ok (.iload_n 1, 1) := by decide +kernel
theorem dX6_setTimes_18 : decode cX6_setTimes 18 = .ok (.iastore, 1) := by decide +kernel
theorem dX6_setTimes_19 : decode cX6_setTimes 19 = .ok (.return_, 1) := by decide +kernel
theorem dX6_put_0 : decode cX6_put 0 = .ok (.aload_n 0, 1) := by decide +kernel
theorem dX6_put_1 : decode cX6_put 1 = .ok (.getfield 27, 3) := by decide +kernel
theorem dX6_put_4 : decode cX6_put 4 = .ok (.aload_n 0, 1) := by decide +kernel
theorem dX6_put_5 : decode cX6_put 5 = .ok (.getfield 9, 3) := by decide +kernel
theorem dX6_put_8 : decode cX6_put 8 = .ok (.arraylength, 1) := by decide +kernel
theorem dX6_put_9 : decode cX6_put 9 = .ok (.if_icmp .ge 33, 3) := by decide +kernel
theorem dX6_put_12 : decode cX6_put 12 = .ok (.aload_n 0, 1) := by decide +kernel
theorem dX6_put_13 : decode cX6_put 13 = .ok (.getfield 9, 3) := by decide +kernel
theorem dX6_put_16 : decode cX6_put 16 = .ok (.aload_n 0, 1) := by decide +kernel
theorem dX6_put_17 : decode cX6_put 17 = .ok (.getfield 27, 3) := by decide +kernel
theorem dX6_put_20 : decode cX6_put 20 = .ok (.iload_n 1, 1) := by decide +kernel
theorem dX6_put_21 : decode cX6_put 21 = .ok (.iastore, 1) := by decide +kernel
theorem dX6_put_22 : decode cX6_put 22 = .ok (.aload_n 0, 1) := by decide +kernel
theorem dX6_put_23 : decode cX6_put 23 = .ok (.getfield 15, 3) := by decide +kernel
theorem dX6_put_26 : decode cX6_put 26 = .ok (.aload_n 0, 1) := by decide +kernel
theorem dX6_put_27 : decode cX6_put 27 = .ok (.getfield 27, 3) := by decide +kernel
theorem dX6_put_30 : decode cX6_put 30 = .ok (.iload_n 2, 1) := by decide +kernel
theorem dX6_put_31 : decode cX6_put 31 = .ok (.iastore, 1) := by decide +kernel
theorem dX6_put_32 : decode cX6_put 32 = .ok (.aload_n 0, 1) := by decide +kernel
theorem dX6_put_33 : decode cX6_put 33 = .ok (.dup, 1) := by decide +kernel
theorem dX6_put_34 : decode cX6_put 34 = .ok (.getfield 27, 3) := by decide +kernel
theorem dX6_put_37 : decode cX6_put 37 = .ok (.iconst 1, 1) := by decide +kernel
theorem dX6_put_38 : decode cX6_put 38 = .ok (.iadd, 1) := by decide +kernel
theorem dX6_put_39 : decode cX6_put 39 = .ok (.putfield 27, 3) := by decide +kernel
theorem dX6_put_42 : decode cX6_put 42 = .ok (.return_, 1) := by decide +kernel
