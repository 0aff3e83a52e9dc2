/-! ===== the words of each link, by their places (printed by program) ===== -/
theorem UW_list (ws : List Cond) (ps : List Nat) (h : ws = ps.filterMap (fun i => lw_tbl[i]?)) (ho : ws.all hwOK = true) : ∀ w ∈ ws, w ∈ UW := fun w hw => UW_of (by rw [h] at hw; obtain ⟨i, -, hi⟩ := List.mem_filterMap.mp hw; exact List.mem_of_getElem? hi) (List.all_eq_true.mp ho w hw)
theorem cf0 : CF 0 RX0 TX0 16 := ⟨rfl, by decide, UW_list _ [183, 185, 187, 189, 191, 193, 195, 197, 199, 201, 203, 205, 207, 209, 211, 213] (by decide +kernel) (by decide +kernel), tyX0_ok, nmX0⟩
theorem in_X0 : Cond.instantiable RX0 16 ∈ UW := UW_of (List.mem_of_getElem? (i := 120) (by decide +kernel)) rfl
theorem ini_X0 : Cond.initialized RX0 ∈ UW := UW_of (List.mem_of_getElem? (i := 95) (by decide +kernel)) rfl
theorem nf_X0 : ∀ j, j < 16 → fvv (fT 0 j) 0 0 none = defaultValue (fT 0 j) := by decide +kernel
theorem cf1 : CF 1 RX1 TX1 1 := ⟨rfl, by decide, UW_list _ [133] (by decide +kernel) (by decide +kernel), tyX1_ok, nmX1⟩
theorem in_X1 : Cond.instantiable RX1 1 ∈ UW := UW_of (List.mem_of_getElem? (i := 126) (by decide +kernel)) rfl
theorem ini_X1 : Cond.initialized RX1 ∈ UW := UW_of (List.mem_of_getElem? (i := 96) (by decide +kernel)) rfl
theorem nf_X1 : ∀ j, j < 1 → fvv (fT 1 j) 0 0 none = defaultValue (fT 1 j) := by decide +kernel
theorem cf2 : CF 2 RX2 TX2 3 := ⟨rfl, by decide, UW_list _ [254, 256, 258] (by decide +kernel) (by decide +kernel), tyX2_ok, nmX2⟩
theorem in_X2 : Cond.instantiable RX2 3 ∈ UW := UW_of (List.mem_of_getElem? (i := 246) (by decide +kernel)) rfl
theorem ini_X2 : Cond.initialized RX2 ∈ UW := UW_of (List.mem_of_getElem? (i := 99) (by decide +kernel)) rfl
theorem nf_X2 : ∀ j, j < 3 → fvv (fT 2 j) 0 0 none = defaultValue (fT 2 j) := by decide +kernel
theorem cf3 : CF 3 RX3 TX3 4 := ⟨rfl, by decide, UW_list _ [343, 345, 347, 349] (by decide +kernel) (by decide +kernel), tyX3_ok, nmX3⟩
theorem in_X3 : Cond.instantiable RX3 4 ∈ UW := UW_of (List.mem_of_getElem? (i := 333) (by decide +kernel)) rfl
theorem ini_X3 : Cond.initialized RX3 ∈ UW := UW_of (List.mem_of_getElem? (i := 102) (by decide +kernel)) rfl
theorem nf_X3 : ∀ j, j < 4 → fvv (fT 3 j) 0 0 none = defaultValue (fT 3 j) := by decide +kernel
theorem cf4 : CF 4 RX4 TX4 8 := ⟨rfl, by decide, UW_list _ [314, 316, 318, 320, 322, 324, 326, 328] (by decide +kernel) (by decide +kernel), tyX4_ok, nmX4⟩
theorem in_X4 : Cond.instantiable RX4 8 ∈ UW := UW_of (List.mem_of_getElem? (i := 262) (by decide +kernel)) rfl
theorem ini_X4 : Cond.initialized RX4 ∈ UW := UW_of (List.mem_of_getElem? (i := 100) (by decide +kernel)) rfl
theorem nf_X4 : ∀ j, j < 8 → fvv (fT 4 j) 0 0 none = defaultValue (fT 4 j) := by decide +kernel
theorem cf5 : CF 5 RX5 TX5 2 := ⟨rfl, by decide, UW_list _ [231, 233] (by decide +kernel) (by decide +kernel), tyX5_ok, nmX5⟩
theorem in_X5 : Cond.instantiable RX5 2 ∈ UW := UW_of (List.mem_of_getElem? (i := 223) (by decide +kernel)) rfl
theorem ini_X5 : Cond.initialized RX5 ∈ UW := UW_of (List.mem_of_getElem? (i := 98) (by decide +kernel)) rfl
theorem nf_X5 : ∀ j, j < 2 → fvv (fT 5 j) 0 0 none = defaultValue (fT 5 j) := by decide +kernel
theorem cf6 : CF 6 RX6 TX6 7 := ⟨rfl, by decide, UW_list _ [290, 292, 294, 296, 298, 300, 302] (by decide +kernel) (by decide +kernel), tyX6_ok, nmX6⟩
theorem in_X6 : Cond.instantiable RX6 7 ∈ UW := UW_of (List.mem_of_getElem? (i := 268) (by decide +kernel)) rfl
theorem ini_X6 : Cond.initialized RX6 ∈ UW := UW_of (List.mem_of_getElem? (i := 101) (by decide +kernel)) rfl
theorem nf_X6 : ∀ j, j < 7 → fvv (fT 6 j) 0 0 none = defaultValue (fT 6 j) := by decide +kernel
theorem cf7 : CF 7 RX7 TX7 2 := ⟨rfl, by decide, UW_list _ [240, 242] (by decide +kernel) (by decide +kernel), tyX7_ok, nmX7⟩
theorem in_X7 : Cond.instantiable RX7 2 ∈ UW := UW_of (List.mem_of_getElem? (i := 217) (by decide +kernel)) rfl
theorem ini_X7 : Cond.initialized RX7 ∈ UW := UW_of (List.mem_of_getElem? (i := 97) (by decide +kernel)) rfl
theorem nf_X7 : ∀ j, j < 2 → fvv (fT 7 j) 0 0 none = defaultValue (fT 7 j) := by decide +kernel
theorem cf8 : CF 8 RX8 TX8 19 := ⟨rfl, by decide, UW_list _ [373, 375, 377, 379, 381, 383, 385, 387, 389, 391, 393, 395, 397, 399, 401, 403, 405, 407, 409] (by decide +kernel) (by decide +kernel), tyX8_ok, nmX8⟩
theorem in_X8 : Cond.instantiable RX8 19 ∈ UW := UW_of (List.mem_of_getElem? (i := 112) (by decide +kernel)) rfl
theorem ini_X8 : Cond.initialized RX8 ∈ UW := UW_of (List.mem_of_getElem? (i := 94) (by decide +kernel)) rfl
theorem nf_X8 : ∀ j, j < 19 → fvv (fT 8 j) 0 0 none = defaultValue (fT 8 j) := by decide +kernel
theorem cf9 : CF 9 RX9 TX9 54 := ⟨rfl, by decide, UW_list _ [1198, 1200, 1202, 1204, 1206, 1208, 1210, 1212, 1214, 1216, 1218, 1220, 1222, 1224, 1226, 1228, 1230, 1232, 1234, 1236, 1238, 1240, 1242, 1244, 1246, 1248, 1250, 1252, 1254, 1256, 1258, 1260, 1262, 1264, 1266, 1268, 1270, 1272, 1274, 1276, 1278, 1280, 1282, 1284, 1286, 1288, 1290, 1292, 1294, 1296, 1298, 1300, 1302, 1304] (by decide +kernel) (by decide +kernel), tyX9_ok, nmX9⟩
theorem in_X9 : Cond.instantiable RX9 54 ∈ UW := UW_of (List.mem_of_getElem? (i := 1119) (by decide +kernel)) rfl
theorem ini_X9 : Cond.initialized RX9 ∈ UW := UW_of (List.mem_of_getElem? (i := 103) (by decide +kernel)) rfl
theorem nf_X9 : ∀ j, j < 54 → fvv (fT 9 j) 0 0 none = defaultValue (fT 9 j) := by decide +kernel
theorem aw_int : Cond.arrayClass .int ∈ UW := UW_of (List.mem_of_getElem? (i := 136) (by decide +kernel)) rfl
theorem aw_long : Cond.arrayClass .long ∈ UW := UW_of (List.mem_of_getElem? (i := 236) (by decide +kernel)) rfl
theorem aw_boolean : Cond.arrayClass .boolean ∈ UW := UW_of (List.mem_of_getElem? (i := 1307) (by decide +kernel)) rfl
theorem ao_13 : Cond.arrayOver (.object "HyphenWar$Book") ∈ UW := UW_of (List.mem_of_getElem? (i := 331) (by decide +kernel)) rfl
theorem ao_14 : Cond.arrayOver (.object "HyphenWar$Text") ∈ UW := UW_of (List.mem_of_getElem? (i := 138) (by decide +kernel)) rfl
theorem oi_2 : Cond.instanceMethod objectInit ∈ UW := UW_of (List.mem_of_getElem? (i := 117) (by decide +kernel)) rfl
theorem oi_3 : Cond.code objectInit ⟨#[0xb1]⟩ 1 none ∈ UW := UW_of (List.mem_of_getElem? (i := 118) (by decide +kernel)) rfl
theorem ac_2 : Cond.native arraycopyName ∈ UW := UW_of (List.mem_of_getElem? (i := 755) (by decide +kernel)) rfl
theorem ac_3 : Cond.static arraycopyName ∈ UW := UW_of (List.mem_of_getElem? (i := 754) (by decide +kernel)) rfl
theorem ac_4 : Cond.initialized "java/lang/System" ∈ UW := UW_of (List.mem_of_getElem? (i := 109) (by decide +kernel)) rfl
abbrev MX1_init : MI := (yX1_init, cX1_init, 2, none)
theorem hm_X1_init : hMeth MX1_init 0 := ⟨UW_of (List.mem_of_getElem? (i := 129) (by decide +kernel)) rfl, UW_of (List.mem_of_getElem? (i := 96) (by decide +kernel)) rfl, ⟨by decide +kernel, by decide +kernel⟩, by decide +kernel, by decide⟩
theorem hi_X1_init : Cond.instanceMethod MX1_init.1 ∈ UW := UW_of (List.mem_of_getElem? (i := 128) (by decide +kernel)) rfl
theorem ln_X1_3 : Cond.methodLink RX1 3 objectInit ∈ UW := UW_of (List.mem_of_getElem? (i := 130) (by decide +kernel)) rfl
theorem lk_X1_9 : LK RX1 9 TX1 0 := Or.inl (UW_of (List.mem_of_getElem? (i := 131) (by decide +kernel)) rfl)
theorem lkm_X1_9 : Cond.fieldLink RX1 9 (TX1 0).1 (TX1 0).2.1 (TX1 0).2.2.1 ∈ UW := UW_of (List.mem_of_getElem? (i := 131) (by decide +kernel)) rfl
abbrev MX0_init : MI := (yX0_init, cX0_init, 2, none)
theorem hm_X0_init : hMeth MX0_init 0 := ⟨UW_of (List.mem_of_getElem? (i := 123) (by decide +kernel)) rfl, UW_of (List.mem_of_getElem? (i := 95) (by decide +kernel)) rfl, ⟨by decide +kernel, by decide +kernel⟩, by decide +kernel, by decide⟩
theorem hi_X0_init : Cond.instanceMethod MX0_init.1 ∈ UW := UW_of (List.mem_of_getElem? (i := 122) (by decide +kernel)) rfl
theorem ln_X0_3 : Cond.methodLink RX0 3 objectInit ∈ UW := UW_of (List.mem_of_getElem? (i := 124) (by decide +kernel)) rfl
theorem cl_X0_9 : Cond.classLink RX0 9 RX1 ∈ UW := UW_of (List.mem_of_getElem? (i := 125) (by decide +kernel)) rfl
theorem ln_X0_11 : hLnk RX0 11 yX1_init := Or.inl (UW_of (List.mem_of_getElem? (i := 127) (by decide +kernel)) rfl)
theorem lk_X0_12 : LK RX0 12 TX0 0 := Or.inl (UW_of (List.mem_of_getElem? (i := 139) (by decide +kernel)) rfl)
theorem lkm_X0_12 : Cond.fieldLink RX0 12 (TX0 0).1 (TX0 0).2.1 (TX0 0).2.2.1 ∈ UW := UW_of (List.mem_of_getElem? (i := 139) (by decide +kernel)) rfl
theorem lk_X0_18 : LK RX0 18 TX0 1 := Or.inl (UW_of (List.mem_of_getElem? (i := 142) (by decide +kernel)) rfl)
theorem lkm_X0_18 : Cond.fieldLink RX0 18 (TX0 1).1 (TX0 1).2.1 (TX0 1).2.2.1 ∈ UW := UW_of (List.mem_of_getElem? (i := 142) (by decide +kernel)) rfl
theorem lk_X0_22 : LK RX0 22 TX0 2 := Or.inl (UW_of (List.mem_of_getElem? (i := 145) (by decide +kernel)) rfl)
theorem lkm_X0_22 : Cond.fieldLink RX0 22 (TX0 2).1 (TX0 2).2.1 (TX0 2).2.2.1 ∈ UW := UW_of (List.mem_of_getElem? (i := 145) (by decide +kernel)) rfl
theorem lk_X0_25 : LK RX0 25 TX0 3 := Or.inl (UW_of (List.mem_of_getElem? (i := 149) (by decide +kernel)) rfl)
theorem lkm_X0_25 : Cond.fieldLink RX0 25 (TX0 3).1 (TX0 3).2.1 (TX0 3).2.2.1 ∈ UW := UW_of (List.mem_of_getElem? (i := 149) (by decide +kernel)) rfl
theorem lk_X0_28 : LK RX0 28 TX0 4 := Or.inl (UW_of (List.mem_of_getElem? (i := 152) (by decide +kernel)) rfl)
theorem lkm_X0_28 : Cond.fieldLink RX0 28 (TX0 4).1 (TX0 4).2.1 (TX0 4).2.2.1 ∈ UW := UW_of (List.mem_of_getElem? (i := 152) (by decide +kernel)) rfl
theorem lk_X0_31 : LK RX0 31 TX0 5 := Or.inl (UW_of (List.mem_of_getElem? (i := 155) (by decide +kernel)) rfl)
theorem lkm_X0_31 : Cond.fieldLink RX0 31 (TX0 5).1 (TX0 5).2.1 (TX0 5).2.2.1 ∈ UW := UW_of (List.mem_of_getElem? (i := 155) (by decide +kernel)) rfl
theorem lk_X0_34 : LK RX0 34 TX0 6 := Or.inl (UW_of (List.mem_of_getElem? (i := 158) (by decide +kernel)) rfl)
theorem lkm_X0_34 : Cond.fieldLink RX0 34 (TX0 6).1 (TX0 6).2.1 (TX0 6).2.2.1 ∈ UW := UW_of (List.mem_of_getElem? (i := 158) (by decide +kernel)) rfl
theorem lk_X0_37 : LK RX0 37 TX0 8 := Or.inl (UW_of (List.mem_of_getElem? (i := 164) (by decide +kernel)) rfl)
theorem lkm_X0_37 : Cond.fieldLink RX0 37 (TX0 8).1 (TX0 8).2.1 (TX0 8).2.2.1 ∈ UW := UW_of (List.mem_of_getElem? (i := 164) (by decide +kernel)) rfl
theorem lk_X0_40 : LK RX0 40 TX0 9 := Or.inl (UW_of (List.mem_of_getElem? (i := 167) (by decide +kernel)) rfl)
theorem lkm_X0_40 : Cond.fieldLink RX0 40 (TX0 9).1 (TX0 9).2.1 (TX0 9).2.2.1 ∈ UW := UW_of (List.mem_of_getElem? (i := 167) (by decide +kernel)) rfl
theorem lk_X0_43 : LK RX0 43 TX0 11 := Or.inl (UW_of (List.mem_of_getElem? (i := 173) (by decide +kernel)) rfl)
theorem cl_X0_47 : Cond.classLink RX0 47 RX6 ∈ UW := UW_of (List.mem_of_getElem? (i := 137) (by decide +kernel)) rfl
theorem lk_X0_49 : LK RX0 49 TX0 13 := Or.inl (UW_of (List.mem_of_getElem? (i := 177) (by decide +kernel)) rfl)
theorem lkm_X0_49 : Cond.fieldLink RX0 49 (TX0 13).1 (TX0 13).2.1 (TX0 13).2.2.1 ∈ UW := UW_of (List.mem_of_getElem? (i := 177) (by decide +kernel)) rfl
theorem lk_X0_53 : LK RX0 53 TX0 15 := Or.inl (UW_of (List.mem_of_getElem? (i := 181) (by decide +kernel)) rfl)
abbrev MX1_copyFrom : MI := (yX1_copyFrom, cX1_copyFrom, 2, none)
theorem hm_X1_copyFrom : hMeth MX1_copyFrom 1 := ⟨UW_of (List.mem_of_getElem? (i := 764) (by decide +kernel)) rfl, UW_of (List.mem_of_getElem? (i := 96) (by decide +kernel)) rfl, ⟨by decide +kernel, by decide +kernel⟩, by decide +kernel, by decide⟩
theorem hv_X1_copyFrom : hVirt MX1_copyFrom 1 := ⟨UW_of (List.mem_of_getElem? (i := 762) (by decide +kernel)) rfl, UW_of (List.mem_of_getElem? (i := 763) (by decide +kernel)) rfl, ⟨_, _, rfl⟩, by decide⟩
theorem ln_X1_15 : Cond.methodLink RX1 15 arraycopyName ∈ UW := UW_of (List.mem_of_getElem? (i := 765) (by decide +kernel)) rfl
abbrev MX0_copyFrom : MI := (yX0_copyFrom, cX0_copyFrom, 3, none)
theorem hm_X0_copyFrom : hMeth MX0_copyFrom 1 := ⟨UW_of (List.mem_of_getElem? (i := 1103) (by decide +kernel)) rfl, UW_of (List.mem_of_getElem? (i := 95) (by decide +kernel)) rfl, ⟨by decide +kernel, by decide +kernel⟩, by decide +kernel, by decide⟩
theorem hv_X0_copyFrom : hVirt MX0_copyFrom 0 := ⟨UW_of (List.mem_of_getElem? (i := 1101) (by decide +kernel)) rfl, UW_of (List.mem_of_getElem? (i := 1102) (by decide +kernel)) rfl, ⟨_, _, rfl⟩, by decide⟩
theorem ln_X0_56 : hLnk RX0 56 yX1_copyFrom := Or.inl (UW_of (List.mem_of_getElem? (i := 1104) (by decide +kernel)) rfl)
theorem ln_X0_60 : Cond.methodLink RX0 60 arraycopyName ∈ UW := UW_of (List.mem_of_getElem? (i := 1105) (by decide +kernel)) rfl
theorem lk_X0_66 : LK RX0 66 TX0 7 := Or.inl (UW_of (List.mem_of_getElem? (i := 161) (by decide +kernel)) rfl)
theorem lk_X0_69 : LK RX0 69 TX0 10 := Or.inl (UW_of (List.mem_of_getElem? (i := 170) (by decide +kernel)) rfl)
theorem lk_X0_72 : LK RX0 72 TX0 12 := Or.inl (UW_of (List.mem_of_getElem? (i := 176) (by decide +kernel)) rfl)
theorem lk_X0_75 : LK RX0 75 TX0 14 := Or.inl (UW_of (List.mem_of_getElem? (i := 179) (by decide +kernel)) rfl)
abbrev MX0_hasLaw : MI := (yX0_hasLaw, cX0_hasLaw, 2, (Option.some Jvm.ClassFile.FieldType.boolean))
theorem hm_X0_hasLaw : hMeth MX0_hasLaw 1 := ⟨UW_of (List.mem_of_getElem? (i := 464) (by decide +kernel)) rfl, UW_of (List.mem_of_getElem? (i := 95) (by decide +kernel)) rfl, ⟨by decide +kernel, by decide +kernel⟩, by decide +kernel, by decide⟩
theorem hv_X0_hasLaw : hVirt MX0_hasLaw 0 := ⟨UW_of (List.mem_of_getElem? (i := 462) (by decide +kernel)) rfl, UW_of (List.mem_of_getElem? (i := 463) (by decide +kernel)) rfl, ⟨_, _, rfl⟩, by decide⟩
abbrev MX0_lawOf : MI := (yX0_lawOf, cX0_lawOf, 2, (Option.some (Jvm.ClassFile.FieldType.object "HyphenWar$Text")))
theorem hm_X0_lawOf : hMeth MX0_lawOf 1 := ⟨UW_of (List.mem_of_getElem? (i := 460) (by decide +kernel)) rfl, UW_of (List.mem_of_getElem? (i := 95) (by decide +kernel)) rfl, ⟨by decide +kernel, by decide +kernel⟩, by decide +kernel, by decide⟩
theorem hv_X0_lawOf : hVirt MX0_lawOf 0 := ⟨UW_of (List.mem_of_getElem? (i := 458) (by decide +kernel)) rfl, UW_of (List.mem_of_getElem? (i := 459) (by decide +kernel)) rfl, ⟨_, _, rfl⟩, by decide⟩
theorem ln_X0_78 : hLnk RX0 78 yX0_hasLaw := Or.inl (UW_of (List.mem_of_getElem? (i := 461) (by decide +kernel)) rfl)
abbrev MX0_lawInForce : MI := (yX0_lawInForce, cX0_lawInForce, 1, (Option.some (Jvm.ClassFile.FieldType.object "HyphenWar$Text")))
theorem hm_X0_lawInForce : hMeth MX0_lawInForce 0 := ⟨UW_of (List.mem_of_getElem? (i := 456) (by decide +kernel)) rfl, UW_of (List.mem_of_getElem? (i := 95) (by decide +kernel)) rfl, ⟨by decide +kernel, by decide +kernel⟩, by decide +kernel, by decide⟩
theorem hv_X0_lawInForce : hVirt MX0_lawInForce 0 := ⟨UW_of (List.mem_of_getElem? (i := 454) (by decide +kernel)) rfl, UW_of (List.mem_of_getElem? (i := 455) (by decide +kernel)) rfl, ⟨_, _, rfl⟩, by decide⟩
theorem ln_X0_82 : hLnk RX0 82 yX0_lawOf := Or.inl (UW_of (List.mem_of_getElem? (i := 457) (by decide +kernel)) rfl)
abbrev MX1_theDay : MI := (yX1_theDay, cX1_theDay, 1, (Option.some Jvm.ClassFile.FieldType.int))
theorem hm_X1_theDay : hMeth MX1_theDay 0 := ⟨UW_of (List.mem_of_getElem? (i := 484) (by decide +kernel)) rfl, UW_of (List.mem_of_getElem? (i := 96) (by decide +kernel)) rfl, ⟨by decide +kernel, by decide +kernel⟩, by decide +kernel, by decide⟩
theorem hv_X1_theDay : hVirt MX1_theDay 1 := ⟨UW_of (List.mem_of_getElem? (i := 482) (by decide +kernel)) rfl, UW_of (List.mem_of_getElem? (i := 483) (by decide +kernel)) rfl, ⟨_, _, rfl⟩, by decide⟩
abbrev MX0_termOf : MI := (yX0_termOf, cX0_termOf, 2, (Option.some Jvm.ClassFile.FieldType.int))
theorem hm_X0_termOf : hMeth MX0_termOf 1 := ⟨UW_of (List.mem_of_getElem? (i := 566) (by decide +kernel)) rfl, UW_of (List.mem_of_getElem? (i := 95) (by decide +kernel)) rfl, ⟨by decide +kernel, by decide +kernel⟩, by decide +kernel, by decide⟩
theorem hv_X0_termOf : hVirt MX0_termOf 0 := ⟨UW_of (List.mem_of_getElem? (i := 564) (by decide +kernel)) rfl, UW_of (List.mem_of_getElem? (i := 565) (by decide +kernel)) rfl, ⟨_, _, rfl⟩, by decide⟩
theorem ln_X0_86 : hLnk RX0 86 yX1_theDay := Or.inl (UW_of (List.mem_of_getElem? (i := 567) (by decide +kernel)) rfl)
abbrev MX8_within : MI := (yX8_within, cX8_within, 3, (Option.some Jvm.ClassFile.FieldType.boolean))
theorem hm_X8_within : hMeth MX8_within 3 := ⟨UW_of (List.mem_of_getElem? (i := 421) (by decide +kernel)) rfl, UW_of (List.mem_of_getElem? (i := 94) (by decide +kernel)) rfl, ⟨by decide +kernel, by decide +kernel⟩, by decide +kernel, by decide⟩
theorem hs_X8_within : Cond.static MX8_within.1 ∈ UW := UW_of (List.mem_of_getElem? (i := 420) (by decide +kernel)) rfl
abbrev MX0_termFits : MI := (yX0_termFits, cX0_termFits, 2, (Option.some Jvm.ClassFile.FieldType.boolean))
theorem hm_X0_termFits : hMeth MX0_termFits 2 := ⟨UW_of (List.mem_of_getElem? (i := 570) (by decide +kernel)) rfl, UW_of (List.mem_of_getElem? (i := 95) (by decide +kernel)) rfl, ⟨by decide +kernel, by decide +kernel⟩, by decide +kernel, by decide⟩
theorem hs_X0_termFits : Cond.static MX0_termFits.1 ∈ UW := UW_of (List.mem_of_getElem? (i := 569) (by decide +kernel)) rfl
theorem ln_X0_90 : hLnk RX0 90 yX8_within := Or.inr ⟨"HyphenWar", UW_of (List.mem_of_getElem? (i := 571) (by decide +kernel)) rfl⟩
abbrev MX1_setDay : MI := (yX1_setDay, cX1_setDay, 2, none)
theorem hm_X1_setDay : hMeth MX1_setDay 1 := ⟨UW_of (List.mem_of_getElem? (i := 579) (by decide +kernel)) rfl, UW_of (List.mem_of_getElem? (i := 96) (by decide +kernel)) rfl, ⟨by decide +kernel, by decide +kernel⟩, by decide +kernel, by decide⟩
theorem hv_X1_setDay : hVirt MX1_setDay 1 := ⟨UW_of (List.mem_of_getElem? (i := 577) (by decide +kernel)) rfl, UW_of (List.mem_of_getElem? (i := 578) (by decide +kernel)) rfl, ⟨_, _, rfl⟩, by decide⟩
abbrev MX0_setTerm : MI := (yX0_setTerm, cX0_setTerm, 3, none)
theorem hm_X0_setTerm : hMeth MX0_setTerm 2 := ⟨UW_of (List.mem_of_getElem? (i := 575) (by decide +kernel)) rfl, UW_of (List.mem_of_getElem? (i := 95) (by decide +kernel)) rfl, ⟨by decide +kernel, by decide +kernel⟩, by decide +kernel, by decide⟩
theorem hv_X0_setTerm : hVirt MX0_setTerm 0 := ⟨UW_of (List.mem_of_getElem? (i := 573) (by decide +kernel)) rfl, UW_of (List.mem_of_getElem? (i := 574) (by decide +kernel)) rfl, ⟨_, _, rfl⟩, by decide⟩
theorem ln_X0_94 : hLnk RX0 94 yX1_setDay := Or.inl (UW_of (List.mem_of_getElem? (i := 576) (by decide +kernel)) rfl)
abbrev MX1_lineAt : MI := (yX1_lineAt, cX1_lineAt, 2, (Option.some Jvm.ClassFile.FieldType.int))
theorem hm_X1_lineAt : hMeth MX1_lineAt 1 := ⟨UW_of (List.mem_of_getElem? (i := 452) (by decide +kernel)) rfl, UW_of (List.mem_of_getElem? (i := 96) (by decide +kernel)) rfl, ⟨by decide +kernel, by decide +kernel⟩, by decide +kernel, by decide⟩
theorem hv_X1_lineAt : hVirt MX1_lineAt 1 := ⟨UW_of (List.mem_of_getElem? (i := 450) (by decide +kernel)) rfl, UW_of (List.mem_of_getElem? (i := 451) (by decide +kernel)) rfl, ⟨_, _, rfl⟩, by decide⟩
abbrev MX1_setLine : MI := (yX1_setLine, cX1_setLine, 3, none)
theorem hm_X1_setLine : hMeth MX1_setLine 2 := ⟨UW_of (List.mem_of_getElem? (i := 814) (by decide +kernel)) rfl, UW_of (List.mem_of_getElem? (i := 96) (by decide +kernel)) rfl, ⟨by decide +kernel, by decide +kernel⟩, by decide +kernel, by decide⟩
theorem hv_X1_setLine : hVirt MX1_setLine 1 := ⟨UW_of (List.mem_of_getElem? (i := 812) (by decide +kernel)) rfl, UW_of (List.mem_of_getElem? (i := 813) (by decide +kernel)) rfl, ⟨_, _, rfl⟩, by decide⟩
abbrev MX1_menAt : MI := (yX1_menAt, cX1_menAt, 3, (Option.some Jvm.ClassFile.FieldType.int))
theorem hm_X1_menAt : hMeth MX1_menAt 2 := ⟨UW_of (List.mem_of_getElem? (i := 432) (by decide +kernel)) rfl, UW_of (List.mem_of_getElem? (i := 96) (by decide +kernel)) rfl, ⟨by decide +kernel, by decide +kernel⟩, by decide +kernel, by decide⟩
theorem hv_X1_menAt : hVirt MX1_menAt 1 := ⟨UW_of (List.mem_of_getElem? (i := 430) (by decide +kernel)) rfl, UW_of (List.mem_of_getElem? (i := 431) (by decide +kernel)) rfl, ⟨_, _, rfl⟩, by decide⟩
abbrev MX1_setMen : MI := (yX1_setMen, cX1_setMen, 4, none)
theorem hm_X1_setMen : hMeth MX1_setMen 3 := ⟨UW_of (List.mem_of_getElem? (i := 436) (by decide +kernel)) rfl, UW_of (List.mem_of_getElem? (i := 96) (by decide +kernel)) rfl, ⟨by decide +kernel, by decide +kernel⟩, by decide +kernel, by decide⟩
theorem hv_X1_setMen : hVirt MX1_setMen 1 := ⟨UW_of (List.mem_of_getElem? (i := 434) (by decide +kernel)) rfl, UW_of (List.mem_of_getElem? (i := 435) (by decide +kernel)) rfl, ⟨_, _, rfl⟩, by decide⟩
abbrev MX1_menOf : MI := (yX1_menOf, cX1_menOf, 4, (Option.some Jvm.ClassFile.FieldType.int))
theorem hm_X1_menOf : hMeth MX1_menOf 1 := ⟨UW_of (List.mem_of_getElem? (i := 530) (by decide +kernel)) rfl, UW_of (List.mem_of_getElem? (i := 96) (by decide +kernel)) rfl, ⟨by decide +kernel, by decide +kernel⟩, by decide +kernel, by decide⟩
theorem hv_X1_menOf : hVirt MX1_menOf 1 := ⟨UW_of (List.mem_of_getElem? (i := 528) (by decide +kernel)) rfl, UW_of (List.mem_of_getElem? (i := 529) (by decide +kernel)) rfl, ⟨_, _, rfl⟩, by decide⟩
theorem ln_X1_21 : hLnk RX1 21 yX1_menAt := Or.inl (UW_of (List.mem_of_getElem? (i := 531) (by decide +kernel)) rfl)
abbrev MX1_isStronger : MI := (yX1_isStronger, cX1_isStronger, 3, (Option.some Jvm.ClassFile.FieldType.boolean))
theorem hm_X1_isStronger : hMeth MX1_isStronger 2 := ⟨UW_of (List.mem_of_getElem? (i := 803) (by decide +kernel)) rfl, UW_of (List.mem_of_getElem? (i := 96) (by decide +kernel)) rfl, ⟨by decide +kernel, by decide +kernel⟩, by decide +kernel, by decide⟩
theorem hv_X1_isStronger : hVirt MX1_isStronger 1 := ⟨UW_of (List.mem_of_getElem? (i := 801) (by decide +kernel)) rfl, UW_of (List.mem_of_getElem? (i := 802) (by decide +kernel)) rfl, ⟨_, _, rfl⟩, by decide⟩
abbrev MX1_canGoOn : MI := (yX1_canGoOn, cX1_canGoOn, 3, (Option.some Jvm.ClassFile.FieldType.boolean))
theorem hm_X1_canGoOn : hMeth MX1_canGoOn 2 := ⟨UW_of (List.mem_of_getElem? (i := 807) (by decide +kernel)) rfl, UW_of (List.mem_of_getElem? (i := 96) (by decide +kernel)) rfl, ⟨by decide +kernel, by decide +kernel⟩, by decide +kernel, by decide⟩
theorem hv_X1_canGoOn : hVirt MX1_canGoOn 1 := ⟨UW_of (List.mem_of_getElem? (i := 805) (by decide +kernel)) rfl, UW_of (List.mem_of_getElem? (i := 806) (by decide +kernel)) rfl, ⟨_, _, rfl⟩, by decide⟩
theorem ln_X1_25 : hLnk RX1 25 yX1_lineAt := Or.inl (UW_of (List.mem_of_getElem? (i := 808) (by decide +kernel)) rfl)
abbrev MX1_supplyOf : MI := (yX1_supplyOf, cX1_supplyOf, 2, (Option.some Jvm.ClassFile.FieldType.int))
theorem hm_X1_supplyOf : hMeth MX1_supplyOf 1 := ⟨UW_of (List.mem_of_getElem? (i := 476) (by decide +kernel)) rfl, UW_of (List.mem_of_getElem? (i := 96) (by decide +kernel)) rfl, ⟨by decide +kernel, by decide +kernel⟩, by decide +kernel, by decide⟩
theorem hv_X1_supplyOf : hVirt MX1_supplyOf 1 := ⟨UW_of (List.mem_of_getElem? (i := 474) (by decide +kernel)) rfl, UW_of (List.mem_of_getElem? (i := 475) (by decide +kernel)) rfl, ⟨_, _, rfl⟩, by decide⟩
abbrev MJ9_min_7cf53 : MI := (yJ9_min_7cf53, cJ9_min_7cf53, 2, (Option.some Jvm.ClassFile.FieldType.int))
theorem hm_J9_min_7cf53 : hMeth MJ9_min_7cf53 2 := ⟨UW_of (List.mem_of_getElem? (i := 508) (by decide +kernel)) rfl, UW_of (List.mem_of_getElem? (i := 104) (by decide +kernel)) rfl, ⟨by decide +kernel, by decide +kernel⟩, by decide +kernel, by decide⟩
theorem hs_J9_min_7cf53 : Cond.static MJ9_min_7cf53.1 ∈ UW := UW_of (List.mem_of_getElem? (i := 507) (by decide +kernel)) rfl
abbrev MX1_setSupply : MI := (yX1_setSupply, cX1_setSupply, 3, none)
theorem hm_X1_setSupply : hMeth MX1_setSupply 2 := ⟨UW_of (List.mem_of_getElem? (i := 798) (by decide +kernel)) rfl, UW_of (List.mem_of_getElem? (i := 96) (by decide +kernel)) rfl, ⟨by decide +kernel, by decide +kernel⟩, by decide +kernel, by decide⟩
theorem hv_X1_setSupply : hVirt MX1_setSupply 1 := ⟨UW_of (List.mem_of_getElem? (i := 796) (by decide +kernel)) rfl, UW_of (List.mem_of_getElem? (i := 797) (by decide +kernel)) rfl, ⟨_, _, rfl⟩, by decide⟩
theorem ln_X1_29 : hLnk RX1 29 yJ9_min_7cf53 := Or.inl (UW_of (List.mem_of_getElem? (i := 799) (by decide +kernel)) rfl)
abbrev MX1_temperOf : MI := (yX1_temperOf, cX1_temperOf, 2, (Option.some Jvm.ClassFile.FieldType.int))
theorem hm_X1_temperOf : hMeth MX1_temperOf 1 := ⟨UW_of (List.mem_of_getElem? (i := 480) (by decide +kernel)) rfl, UW_of (List.mem_of_getElem? (i := 96) (by decide +kernel)) rfl, ⟨by decide +kernel, by decide +kernel⟩, by decide +kernel, by decide⟩
theorem hv_X1_temperOf : hVirt MX1_temperOf 1 := ⟨UW_of (List.mem_of_getElem? (i := 478) (by decide +kernel)) rfl, UW_of (List.mem_of_getElem? (i := 479) (by decide +kernel)) rfl, ⟨_, _, rfl⟩, by decide⟩
abbrev MJ9_max_7cf53 : MI := (yJ9_max_7cf53, cJ9_max_7cf53, 2, (Option.some Jvm.ClassFile.FieldType.int))
theorem hm_J9_max_7cf53 : hMeth MJ9_max_7cf53 2 := ⟨UW_of (List.mem_of_getElem? (i := 511) (by decide +kernel)) rfl, UW_of (List.mem_of_getElem? (i := 104) (by decide +kernel)) rfl, ⟨by decide +kernel, by decide +kernel⟩, by decide +kernel, by decide⟩
theorem hs_J9_max_7cf53 : Cond.static MJ9_max_7cf53.1 ∈ UW := UW_of (List.mem_of_getElem? (i := 510) (by decide +kernel)) rfl
abbrev MX1_setTemper : MI := (yX1_setTemper, cX1_setTemper, 3, none)
theorem hm_X1_setTemper : hMeth MX1_setTemper 2 := ⟨UW_of (List.mem_of_getElem? (i := 833) (by decide +kernel)) rfl, UW_of (List.mem_of_getElem? (i := 96) (by decide +kernel)) rfl, ⟨by decide +kernel, by decide +kernel⟩, by decide +kernel, by decide⟩
theorem hv_X1_setTemper : hVirt MX1_setTemper 1 := ⟨UW_of (List.mem_of_getElem? (i := 831) (by decide +kernel)) rfl, UW_of (List.mem_of_getElem? (i := 832) (by decide +kernel)) rfl, ⟨_, _, rfl⟩, by decide⟩
theorem ln_X1_34 : hLnk RX1 34 yJ9_max_7cf53 := Or.inl (UW_of (List.mem_of_getElem? (i := 834) (by decide +kernel)) rfl)
abbrev MX2_init : MI := (yX2_init, cX2_init, 3, none)
theorem hm_X2_init : hMeth MX2_init 2 := ⟨UW_of (List.mem_of_getElem? (i := 249) (by decide +kernel)) rfl, UW_of (List.mem_of_getElem? (i := 99) (by decide +kernel)) rfl, ⟨by decide +kernel, by decide +kernel⟩, by decide +kernel, by decide⟩
theorem hi_X2_init : Cond.instanceMethod MX2_init.1 ∈ UW := UW_of (List.mem_of_getElem? (i := 248) (by decide +kernel)) rfl
theorem ln_X2_3 : Cond.methodLink RX2 3 objectInit ∈ UW := UW_of (List.mem_of_getElem? (i := 250) (by decide +kernel)) rfl
theorem lk_X2_9 : LK RX2 9 TX2 2 := Or.inl (UW_of (List.mem_of_getElem? (i := 253) (by decide +kernel)) rfl)
theorem lkm_X2_9 : Cond.fieldLink RX2 9 (TX2 2).1 (TX2 2).2.1 (TX2 2).2.2.1 ∈ UW := UW_of (List.mem_of_getElem? (i := 253) (by decide +kernel)) rfl
theorem lk_X2_15 : LK RX2 15 TX2 0 := Or.inl (UW_of (List.mem_of_getElem? (i := 251) (by decide +kernel)) rfl)
theorem lkm_X2_15 : Cond.fieldLink RX2 15 (TX2 0).1 (TX2 0).2.1 (TX2 0).2.2.1 ∈ UW := UW_of (List.mem_of_getElem? (i := 251) (by decide +kernel)) rfl
theorem lk_X2_19 : LK RX2 19 TX2 1 := Or.inl (UW_of (List.mem_of_getElem? (i := 252) (by decide +kernel)) rfl)
theorem lkm_X2_19 : Cond.fieldLink RX2 19 (TX2 1).1 (TX2 1).2.1 (TX2 1).2.2.1 ∈ UW := UW_of (List.mem_of_getElem? (i := 252) (by decide +kernel)) rfl
abbrev MJ6_bitCount_0f7a4 : MI := (yJ6_bitCount_0f7a4, cJ6_bitCount_0f7a4, 1, (Option.some Jvm.ClassFile.FieldType.int))
theorem hm_J6_bitCount_0f7a4 : hMeth MJ6_bitCount_0f7a4 1 := ⟨UW_of (List.mem_of_getElem? (i := 902) (by decide +kernel)) rfl, UW_of (List.mem_of_getElem? (i := 110) (by decide +kernel)) rfl, ⟨by decide +kernel, by decide +kernel⟩, by decide +kernel, by decide⟩
theorem hs_J6_bitCount_0f7a4 : Cond.static MJ6_bitCount_0f7a4.1 ∈ UW := UW_of (List.mem_of_getElem? (i := 901) (by decide +kernel)) rfl
theorem cn_J6_265 : Cond.constant RJ6 265 (1431655765) ∈ UW := UW_of (List.mem_of_getElem? (i := 903) (by decide +kernel)) rfl
theorem cn_J6_266 : Cond.constant RJ6 266 (858993459) ∈ UW := UW_of (List.mem_of_getElem? (i := 904) (by decide +kernel)) rfl
theorem cn_J6_267 : Cond.constant RJ6 267 (252645135) ∈ UW := UW_of (List.mem_of_getElem? (i := 905) (by decide +kernel)) rfl
abbrev MX2_isFewer : MI := (yX2_isFewer, cX2_isFewer, 2, (Option.some Jvm.ClassFile.FieldType.boolean))
theorem hm_X2_isFewer : hMeth MX2_isFewer 2 := ⟨UW_of (List.mem_of_getElem? (i := 899) (by decide +kernel)) rfl, UW_of (List.mem_of_getElem? (i := 99) (by decide +kernel)) rfl, ⟨by decide +kernel, by decide +kernel⟩, by decide +kernel, by decide⟩
theorem hs_X2_isFewer : Cond.static MX2_isFewer.1 ∈ UW := UW_of (List.mem_of_getElem? (i := 898) (by decide +kernel)) rfl
theorem ln_X2_23 : hLnk RX2 23 yJ6_bitCount_0f7a4 := Or.inl (UW_of (List.mem_of_getElem? (i := 900) (by decide +kernel)) rfl)
abbrev MX8_pair : MI := (yX8_pair, cX8_pair, 2, (Option.some Jvm.ClassFile.FieldType.int))
theorem hm_X8_pair : hMeth MX8_pair 2 := ⟨UW_of (List.mem_of_getElem? (i := 542) (by decide +kernel)) rfl, UW_of (List.mem_of_getElem? (i := 94) (by decide +kernel)) rfl, ⟨by decide +kernel, by decide +kernel⟩, by decide +kernel, by decide⟩
theorem hs_X8_pair : Cond.static MX8_pair.1 ∈ UW := UW_of (List.mem_of_getElem? (i := 541) (by decide +kernel)) rfl
abbrev MX2_worthOf : MI := (yX2_worthOf, cX2_worthOf, 5, (Option.some Jvm.ClassFile.FieldType.int))
theorem hm_X2_worthOf : hMeth MX2_worthOf 2 := ⟨UW_of (List.mem_of_getElem? (i := 909) (by decide +kernel)) rfl, UW_of (List.mem_of_getElem? (i := 99) (by decide +kernel)) rfl, ⟨by decide +kernel, by decide +kernel⟩, by decide +kernel, by decide⟩
theorem hv_X2_worthOf : hVirt MX2_worthOf 2 := ⟨UW_of (List.mem_of_getElem? (i := 908) (by decide +kernel)) rfl, UW_of (List.mem_of_getElem? (i := 21) (by decide +kernel)) rfl, ⟨_, _, rfl⟩, by decide⟩
theorem lk_X2_43 : LK RX2 43 TX0 3 := Or.inr ⟨"HyphenWar", UW_of (List.mem_of_getElem? (i := 150) (by decide +kernel)) rfl⟩
theorem ln_X2_46 : hLnk RX2 46 yX8_pair := Or.inr ⟨"HyphenWar", UW_of (List.mem_of_getElem? (i := 910) (by decide +kernel)) rfl⟩
abbrev MX2_treatyWords : MI := (yX2_treatyWords, cX2_treatyWords, 3, (Option.some Jvm.ClassFile.FieldType.int))
theorem hm_X2_treatyWords : hMeth MX2_treatyWords 0 := ⟨UW_of (List.mem_of_getElem? (i := 896) (by decide +kernel)) rfl, UW_of (List.mem_of_getElem? (i := 99) (by decide +kernel)) rfl, ⟨by decide +kernel, by decide +kernel⟩, by decide +kernel, by decide⟩
theorem hv_X2_treatyWords : hVirt MX2_treatyWords 2 := ⟨UW_of (List.mem_of_getElem? (i := 894) (by decide +kernel)) rfl, UW_of (List.mem_of_getElem? (i := 895) (by decide +kernel)) rfl, ⟨_, _, rfl⟩, by decide⟩
theorem ln_X2_29 : hLnk RX2 29 yX2_isFewer := Or.inl (UW_of (List.mem_of_getElem? (i := 897) (by decide +kernel)) rfl)
theorem ln_X2_33 : hLnk RX2 33 yX2_worthOf := Or.inl (UW_of (List.mem_of_getElem? (i := 906) (by decide +kernel)) rfl)
theorem lk_X2_37 : LK RX2 37 TX0 11 := Or.inr ⟨"HyphenWar", UW_of (List.mem_of_getElem? (i := 174) (by decide +kernel)) rfl⟩
abbrev MX2_partAt : MI := (yX2_partAt, cX2_partAt, 5, (Option.some Jvm.ClassFile.FieldType.int))
theorem hm_X2_partAt : hMeth MX2_partAt 3 := ⟨UW_of (List.mem_of_getElem? (i := 942) (by decide +kernel)) rfl, UW_of (List.mem_of_getElem? (i := 99) (by decide +kernel)) rfl, ⟨by decide +kernel, by decide +kernel⟩, by decide +kernel, by decide⟩
theorem hv_X2_partAt : hVirt MX2_partAt 2 := ⟨UW_of (List.mem_of_getElem? (i := 941) (by decide +kernel)) rfl, UW_of (List.mem_of_getElem? (i := 23) (by decide +kernel)) rfl, ⟨_, _, rfl⟩, by decide⟩
theorem lk_X2_73 : LK RX2 73 TX0 4 := Or.inr ⟨"HyphenWar", UW_of (List.mem_of_getElem? (i := 153) (by decide +kernel)) rfl⟩
abbrev MX2_partsOf : MI := (yX2_partsOf, cX2_partsOf, 5, (Option.some Jvm.ClassFile.FieldType.long))
theorem hm_X2_partsOf : hMeth MX2_partsOf 1 := ⟨UW_of (List.mem_of_getElem? (i := 938) (by decide +kernel)) rfl, UW_of (List.mem_of_getElem? (i := 99) (by decide +kernel)) rfl, ⟨by decide +kernel, by decide +kernel⟩, by decide +kernel, by decide⟩
theorem hv_X2_partsOf : hVirt MX2_partsOf 2 := ⟨UW_of (List.mem_of_getElem? (i := 937) (by decide +kernel)) rfl, UW_of (List.mem_of_getElem? (i := 22) (by decide +kernel)) rfl, ⟨_, _, rfl⟩, by decide⟩
theorem lk_X2_64 : LK RX2 64 TX0 7 := Or.inr ⟨"HyphenWar", UW_of (List.mem_of_getElem? (i := 162) (by decide +kernel)) rfl⟩
theorem lk_X2_67 : LK RX2 67 TX0 5 := Or.inr ⟨"HyphenWar", UW_of (List.mem_of_getElem? (i := 156) (by decide +kernel)) rfl⟩
theorem lk_X2_70 : LK RX2 70 TX0 6 := Or.inr ⟨"HyphenWar", UW_of (List.mem_of_getElem? (i := 159) (by decide +kernel)) rfl⟩
theorem ln_X2_57 : hLnk RX2 57 yX2_partAt := Or.inl (UW_of (List.mem_of_getElem? (i := 939) (by decide +kernel)) rfl)
abbrev MX8_isWord : MI := (yX8_isWord, cX8_isWord, 1, (Option.some Jvm.ClassFile.FieldType.boolean))
theorem hm_X8_isWord : hMeth MX8_isWord 1 := ⟨UW_of (List.mem_of_getElem? (i := 558) (by decide +kernel)) rfl, UW_of (List.mem_of_getElem? (i := 94) (by decide +kernel)) rfl, ⟨by decide +kernel, by decide +kernel⟩, by decide +kernel, by decide⟩
theorem hs_X8_isWord : Cond.static MX8_isWord.1 ∈ UW := UW_of (List.mem_of_getElem? (i := 557) (by decide +kernel)) rfl
theorem ln_X8_92 : hLnk RX8 92 yX8_within := Or.inl (UW_of (List.mem_of_getElem? (i := 419) (by decide +kernel)) rfl)
abbrev MX2_probablyWith : MI := (yX2_probablyWith, cX2_probablyWith, 9, (Option.some Jvm.ClassFile.FieldType.int))
theorem hm_X2_probablyWith : hMeth MX2_probablyWith 2 := ⟨UW_of (List.mem_of_getElem? (i := 934) (by decide +kernel)) rfl, UW_of (List.mem_of_getElem? (i := 99) (by decide +kernel)) rfl, ⟨by decide +kernel, by decide +kernel⟩, by decide +kernel, by decide⟩
theorem hv_X2_probablyWith : hVirt MX2_probablyWith 2 := ⟨UW_of (List.mem_of_getElem? (i := 932) (by decide +kernel)) rfl, UW_of (List.mem_of_getElem? (i := 933) (by decide +kernel)) rfl, ⟨_, _, rfl⟩, by decide⟩
theorem ln_X2_49 : hLnk RX2 49 yX2_partsOf := Or.inl (UW_of (List.mem_of_getElem? (i := 935) (by decide +kernel)) rfl)
theorem ln_X2_53 : hLnk RX2 53 yX8_isWord := Or.inr ⟨"HyphenWar", UW_of (List.mem_of_getElem? (i := 943) (by decide +kernel)) rfl⟩
theorem cn_X2_61 : Cond.constant RX2 61 (500000) ∈ UW := UW_of (List.mem_of_getElem? (i := 944) (by decide +kernel)) rfl
theorem cn_X2_62 : Cond.constantLong RX2 62 (1000000) ∈ UW := UW_of (List.mem_of_getElem? (i := 945) (by decide +kernel)) rfl
abbrev MJ9_abs_0f7a4 : MI := (yJ9_abs_0f7a4, cJ9_abs_0f7a4, 1, (Option.some Jvm.ClassFile.FieldType.int))
theorem hm_J9_abs_0f7a4 : hMeth MJ9_abs_0f7a4 1 := ⟨UW_of (List.mem_of_getElem? (i := 822) (by decide +kernel)) rfl, UW_of (List.mem_of_getElem? (i := 104) (by decide +kernel)) rfl, ⟨by decide +kernel, by decide +kernel⟩, by decide +kernel, by decide⟩
theorem hs_J9_abs_0f7a4 : Cond.static MJ9_abs_0f7a4.1 ∈ UW := UW_of (List.mem_of_getElem? (i := 821) (by decide +kernel)) rfl
abbrev MX2_differenceAt : MI := (yX2_differenceAt, cX2_differenceAt, 2, (Option.some Jvm.ClassFile.FieldType.int))
theorem hm_X2_differenceAt : hMeth MX2_differenceAt 1 := ⟨UW_of (List.mem_of_getElem? (i := 957) (by decide +kernel)) rfl, UW_of (List.mem_of_getElem? (i := 99) (by decide +kernel)) rfl, ⟨by decide +kernel, by decide +kernel⟩, by decide +kernel, by decide⟩
theorem hv_X2_differenceAt : hVirt MX2_differenceAt 2 := ⟨UW_of (List.mem_of_getElem? (i := 955) (by decide +kernel)) rfl, UW_of (List.mem_of_getElem? (i := 956) (by decide +kernel)) rfl, ⟨_, _, rfl⟩, by decide⟩
theorem ln_X2_79 : hLnk RX2 79 yX2_probablyWith := Or.inl (UW_of (List.mem_of_getElem? (i := 958) (by decide +kernel)) rfl)
theorem ln_X2_82 : hLnk RX2 82 yJ9_abs_0f7a4 := Or.inl (UW_of (List.mem_of_getElem? (i := 959) (by decide +kernel)) rfl)
abbrev MX2_wordToAsk : MI := (yX2_wordToAsk, cX2_wordToAsk, 3, (Option.some Jvm.ClassFile.FieldType.int))
theorem hm_X2_wordToAsk : hMeth MX2_wordToAsk 0 := ⟨UW_of (List.mem_of_getElem? (i := 953) (by decide +kernel)) rfl, UW_of (List.mem_of_getElem? (i := 99) (by decide +kernel)) rfl, ⟨by decide +kernel, by decide +kernel⟩, by decide +kernel, by decide⟩
theorem hv_X2_wordToAsk : hVirt MX2_wordToAsk 2 := ⟨UW_of (List.mem_of_getElem? (i := 951) (by decide +kernel)) rfl, UW_of (List.mem_of_getElem? (i := 952) (by decide +kernel)) rfl, ⟨_, _, rfl⟩, by decide⟩
theorem ln_X2_76 : hLnk RX2 76 yX2_differenceAt := Or.inl (UW_of (List.mem_of_getElem? (i := 954) (by decide +kernel)) rfl)
abbrev MX8_isSign : MI := (yX8_isSign, cX8_isSign, 1, (Option.some Jvm.ClassFile.FieldType.boolean))
theorem hm_X8_isSign : hMeth MX8_isSign 1 := ⟨UW_of (List.mem_of_getElem? (i := 539) (by decide +kernel)) rfl, UW_of (List.mem_of_getElem? (i := 94) (by decide +kernel)) rfl, ⟨by decide +kernel, by decide +kernel⟩, by decide +kernel, by decide⟩
theorem hs_X8_isSign : Cond.static MX8_isSign.1 ∈ UW := UW_of (List.mem_of_getElem? (i := 538) (by decide +kernel)) rfl
abbrev MX2_chainFrom : MI := (yX2_chainFrom, cX2_chainFrom, 9, (Option.some Jvm.ClassFile.FieldType.int))
theorem hm_X2_chainFrom : hMeth MX2_chainFrom 3 := ⟨UW_of (List.mem_of_getElem? (i := 968) (by decide +kernel)) rfl, UW_of (List.mem_of_getElem? (i := 99) (by decide +kernel)) rfl, ⟨by decide +kernel, by decide +kernel⟩, by decide +kernel, by decide⟩
theorem hv_X2_chainFrom : hVirt MX2_chainFrom 2 := ⟨UW_of (List.mem_of_getElem? (i := 966) (by decide +kernel)) rfl, UW_of (List.mem_of_getElem? (i := 967) (by decide +kernel)) rfl, ⟨_, _, rfl⟩, by decide⟩
theorem ln_X2_87 : hLnk RX2 87 yX8_isSign := Or.inr ⟨"HyphenWar", UW_of (List.mem_of_getElem? (i := 969) (by decide +kernel)) rfl⟩
theorem lk_X2_90 : LK RX2 90 TX0 2 := Or.inr ⟨"HyphenWar", UW_of (List.mem_of_getElem? (i := 148) (by decide +kernel)) rfl⟩
abbrev MX2_allChainsEnd : MI := (yX2_allChainsEnd, cX2_allChainsEnd, 3, (Option.some Jvm.ClassFile.FieldType.boolean))
theorem hm_X2_allChainsEnd : hMeth MX2_allChainsEnd 1 := ⟨UW_of (List.mem_of_getElem? (i := 982) (by decide +kernel)) rfl, UW_of (List.mem_of_getElem? (i := 99) (by decide +kernel)) rfl, ⟨by decide +kernel, by decide +kernel⟩, by decide +kernel, by decide⟩
theorem hv_X2_allChainsEnd : hVirt MX2_allChainsEnd 2 := ⟨UW_of (List.mem_of_getElem? (i := 981) (by decide +kernel)) rfl, UW_of (List.mem_of_getElem? (i := 24) (by decide +kernel)) rfl, ⟨_, _, rfl⟩, by decide⟩
theorem ln_X2_96 : hLnk RX2 96 yX2_chainFrom := Or.inl (UW_of (List.mem_of_getElem? (i := 983) (by decide +kernel)) rfl)
abbrev MX2_signsToStill : MI := (yX2_signsToStill, cX2_signsToStill, 3, (Option.some Jvm.ClassFile.FieldType.int))
theorem hm_X2_signsToStill : hMeth MX2_signsToStill 0 := ⟨UW_of (List.mem_of_getElem? (i := 978) (by decide +kernel)) rfl, UW_of (List.mem_of_getElem? (i := 99) (by decide +kernel)) rfl, ⟨by decide +kernel, by decide +kernel⟩, by decide +kernel, by decide⟩
theorem hv_X2_signsToStill : hVirt MX2_signsToStill 2 := ⟨UW_of (List.mem_of_getElem? (i := 976) (by decide +kernel)) rfl, UW_of (List.mem_of_getElem? (i := 977) (by decide +kernel)) rfl, ⟨_, _, rfl⟩, by decide⟩
theorem ln_X2_93 : hLnk RX2 93 yX2_allChainsEnd := Or.inl (UW_of (List.mem_of_getElem? (i := 979) (by decide +kernel)) rfl)
abbrev MX5_setLawWords : MI := (yX5_setLawWords, cX5_setLawWords, 4, none)
theorem hm_X5_setLawWords : hMeth MX5_setLawWords 3 := ⟨UW_of (List.mem_of_getElem? (i := 472) (by decide +kernel)) rfl, UW_of (List.mem_of_getElem? (i := 98) (by decide +kernel)) rfl, ⟨by decide +kernel, by decide +kernel⟩, by decide +kernel, by decide⟩
theorem hv_X5_setLawWords : hVirt MX5_setLawWords 5 := ⟨UW_of (List.mem_of_getElem? (i := 470) (by decide +kernel)) rfl, UW_of (List.mem_of_getElem? (i := 471) (by decide +kernel)) rfl, ⟨_, _, rfl⟩, by decide⟩
theorem lk_X5_15 : LK RX5 15 TX5 1 := Or.inl (UW_of (List.mem_of_getElem? (i := 229) (by decide +kernel)) rfl)
theorem ln_X5_29 : hLnk RX5 29 yX1_supplyOf := Or.inl (UW_of (List.mem_of_getElem? (i := 473) (by decide +kernel)) rfl)
theorem ln_X5_32 : hLnk RX5 32 yX1_temperOf := Or.inl (UW_of (List.mem_of_getElem? (i := 477) (by decide +kernel)) rfl)
theorem ln_X5_19 : hLnk RX5 19 yX1_theDay := Or.inl (UW_of (List.mem_of_getElem? (i := 481) (by decide +kernel)) rfl)
abbrev MX5_setColumnWords : MI := (yX5_setColumnWords, cX5_setColumnWords, 4, none)
theorem hm_X5_setColumnWords : hMeth MX5_setColumnWords 3 := ⟨UW_of (List.mem_of_getElem? (i := 488) (by decide +kernel)) rfl, UW_of (List.mem_of_getElem? (i := 98) (by decide +kernel)) rfl, ⟨by decide +kernel, by decide +kernel⟩, by decide +kernel, by decide⟩
theorem hv_X5_setColumnWords : hVirt MX5_setColumnWords 5 := ⟨UW_of (List.mem_of_getElem? (i := 486) (by decide +kernel)) rfl, UW_of (List.mem_of_getElem? (i := 487) (by decide +kernel)) rfl, ⟨_, _, rfl⟩, by decide⟩
theorem ln_X5_25 : hLnk RX5 25 yX1_lineAt := Or.inl (UW_of (List.mem_of_getElem? (i := 489) (by decide +kernel)) rfl)
theorem ln_X5_35 : hLnk RX5 35 yX1_menAt := Or.inl (UW_of (List.mem_of_getElem? (i := 490) (by decide +kernel)) rfl)
abbrev MX5_joined : MI := (yX5_joined, cX5_joined, 7, (Option.some Jvm.ClassFile.FieldType.long))
theorem hm_X5_joined : hMeth MX5_joined 3 := ⟨UW_of (List.mem_of_getElem? (i := 503) (by decide +kernel)) rfl, UW_of (List.mem_of_getElem? (i := 98) (by decide +kernel)) rfl, ⟨by decide +kernel, by decide +kernel⟩, by decide +kernel, by decide⟩
theorem hs_X5_joined : Cond.static MX5_joined.1 ∈ UW := UW_of (List.mem_of_getElem? (i := 502) (by decide +kernel)) rfl
theorem cn_X5_55 : Cond.constantLong RX5 55 (4000000000) ∈ UW := UW_of (List.mem_of_getElem? (i := 500) (by decide +kernel)) rfl
theorem cn_X5_74 : Cond.constantLong RX5 74 (1000000000) ∈ UW := UW_of (List.mem_of_getElem? (i := 504) (by decide +kernel)) rfl
theorem cn_X5_76 : Cond.constantLong RX5 76 (-1000000000) ∈ UW := UW_of (List.mem_of_getElem? (i := 505) (by decide +kernel)) rfl
abbrev MX5_valueOf : MI := (yX5_valueOf, cX5_valueOf, 8, (Option.some Jvm.ClassFile.FieldType.long))
theorem hm_X5_valueOf : hMeth MX5_valueOf 2 := ⟨UW_of (List.mem_of_getElem? (i := 498) (by decide +kernel)) rfl, UW_of (List.mem_of_getElem? (i := 98) (by decide +kernel)) rfl, ⟨by decide +kernel, by decide +kernel⟩, by decide +kernel, by decide⟩
theorem hv_X5_valueOf : hVirt MX5_valueOf 5 := ⟨UW_of (List.mem_of_getElem? (i := 496) (by decide +kernel)) rfl, UW_of (List.mem_of_getElem? (i := 497) (by decide +kernel)) rfl, ⟨_, _, rfl⟩, by decide⟩
theorem lk_X5_57 : LK RX5 57 TX6 2 := Or.inr ⟨"HyphenWar", UW_of (List.mem_of_getElem? (i := 278) (by decide +kernel)) rfl⟩
theorem lk_X5_60 : LK RX5 60 TX6 0 := Or.inr ⟨"HyphenWar", UW_of (List.mem_of_getElem? (i := 274) (by decide +kernel)) rfl⟩
theorem lk_X5_63 : LK RX5 63 TX6 1 := Or.inr ⟨"HyphenWar", UW_of (List.mem_of_getElem? (i := 276) (by decide +kernel)) rfl⟩
theorem lk_X5_9 : LK RX5 9 TX5 0 := Or.inl (UW_of (List.mem_of_getElem? (i := 228) (by decide +kernel)) rfl)
theorem ln_X5_66 : hLnk RX5 66 yX8_within := Or.inr ⟨"HyphenWar", UW_of (List.mem_of_getElem? (i := 499) (by decide +kernel)) rfl⟩
theorem ln_X5_70 : hLnk RX5 70 yX5_joined := Or.inl (UW_of (List.mem_of_getElem? (i := 501) (by decide +kernel)) rfl)
abbrev MX5_toldBy : MI := (yX5_toldBy, cX5_toldBy, 8, (Option.some Jvm.ClassFile.FieldType.int))
theorem hm_X5_toldBy : hMeth MX5_toldBy 3 := ⟨UW_of (List.mem_of_getElem? (i := 494) (by decide +kernel)) rfl, UW_of (List.mem_of_getElem? (i := 98) (by decide +kernel)) rfl, ⟨by decide +kernel, by decide +kernel⟩, by decide +kernel, by decide⟩
theorem hv_X5_toldBy : hVirt MX5_toldBy 5 := ⟨UW_of (List.mem_of_getElem? (i := 492) (by decide +kernel)) rfl, UW_of (List.mem_of_getElem? (i := 493) (by decide +kernel)) rfl, ⟨_, _, rfl⟩, by decide⟩
theorem lk_X5_39 : LK RX5 39 TX6 6 := Or.inr ⟨"HyphenWar", UW_of (List.mem_of_getElem? (i := 288) (by decide +kernel)) rfl⟩
theorem lk_X5_45 : LK RX5 45 TX6 5 := Or.inr ⟨"HyphenWar", UW_of (List.mem_of_getElem? (i := 285) (by decide +kernel)) rfl⟩
theorem lk_X5_48 : LK RX5 48 TX6 3 := Or.inr ⟨"HyphenWar", UW_of (List.mem_of_getElem? (i := 280) (by decide +kernel)) rfl⟩
theorem ln_X5_51 : hLnk RX5 51 yX5_valueOf := Or.inl (UW_of (List.mem_of_getElem? (i := 495) (by decide +kernel)) rfl)
abbrev MX7_costOf : MI := (yX7_costOf, cX7_costOf, 6, (Option.some Jvm.ClassFile.FieldType.int))
theorem hm_X7_costOf : hMeth MX7_costOf 4 := ⟨UW_of (List.mem_of_getElem? (i := 468) (by decide +kernel)) rfl, UW_of (List.mem_of_getElem? (i := 97) (by decide +kernel)) rfl, ⟨by decide +kernel, by decide +kernel⟩, by decide +kernel, by decide⟩
theorem hv_X7_costOf : hVirt MX7_costOf 7 := ⟨UW_of (List.mem_of_getElem? (i := 466) (by decide +kernel)) rfl, UW_of (List.mem_of_getElem? (i := 467) (by decide +kernel)) rfl, ⟨_, _, rfl⟩, by decide⟩
theorem lk_X7_12 : LK RX7 12 TX7 1 := Or.inl (UW_of (List.mem_of_getElem? (i := 238) (by decide +kernel)) rfl)
theorem lk_X7_18 : LK RX7 18 TX7 0 := Or.inl (UW_of (List.mem_of_getElem? (i := 237) (by decide +kernel)) rfl)
theorem lk_X7_22 : LK RX7 22 TX0 12 := Or.inr ⟨"HyphenWar", UW_of (List.mem_of_getElem? (i := 175) (by decide +kernel)) rfl⟩
theorem ln_X7_28 : hLnk RX7 28 yX5_setLawWords := Or.inl (UW_of (List.mem_of_getElem? (i := 469) (by decide +kernel)) rfl)
theorem ln_X7_32 : hLnk RX7 32 yX5_setColumnWords := Or.inl (UW_of (List.mem_of_getElem? (i := 485) (by decide +kernel)) rfl)
theorem ln_X7_35 : hLnk RX7 35 yX5_toldBy := Or.inl (UW_of (List.mem_of_getElem? (i := 491) (by decide +kernel)) rfl)
theorem ln_X7_39 : hLnk RX7 39 yJ9_min_7cf53 := Or.inl (UW_of (List.mem_of_getElem? (i := 506) (by decide +kernel)) rfl)
theorem ln_X7_45 : hLnk RX7 45 yJ9_max_7cf53 := Or.inl (UW_of (List.mem_of_getElem? (i := 509) (by decide +kernel)) rfl)
abbrev MX7_isBarred : MI := (yX7_isBarred, cX7_isBarred, 4, (Option.some Jvm.ClassFile.FieldType.boolean))
theorem hm_X7_isBarred : hMeth MX7_isBarred 3 := ⟨UW_of (List.mem_of_getElem? (i := 515) (by decide +kernel)) rfl, UW_of (List.mem_of_getElem? (i := 97) (by decide +kernel)) rfl, ⟨by decide +kernel, by decide +kernel⟩, by decide +kernel, by decide⟩
theorem hv_X7_isBarred : hVirt MX7_isBarred 7 := ⟨UW_of (List.mem_of_getElem? (i := 513) (by decide +kernel)) rfl, UW_of (List.mem_of_getElem? (i := 514) (by decide +kernel)) rfl, ⟨_, _, rfl⟩, by decide⟩
theorem ln_X7_48 : hLnk RX7 48 yX0_lawInForce := Or.inl (UW_of (List.mem_of_getElem? (i := 516) (by decide +kernel)) rfl)
abbrev MX2_costOfSet : MI := (yX2_costOfSet, cX2_costOfSet, 4, (Option.some Jvm.ClassFile.FieldType.int))
theorem hm_X2_costOfSet : hMeth MX2_costOfSet 1 := ⟨UW_of (List.mem_of_getElem? (i := 1000) (by decide +kernel)) rfl, UW_of (List.mem_of_getElem? (i := 99) (by decide +kernel)) rfl, ⟨by decide +kernel, by decide +kernel⟩, by decide +kernel, by decide⟩
theorem hv_X2_costOfSet : hVirt MX2_costOfSet 2 := ⟨UW_of (List.mem_of_getElem? (i := 998) (by decide +kernel)) rfl, UW_of (List.mem_of_getElem? (i := 999) (by decide +kernel)) rfl, ⟨_, _, rfl⟩, by decide⟩
abbrev MX2_pushesMore : MI := (yX2_pushesMore, cX2_pushesMore, 4, (Option.some Jvm.ClassFile.FieldType.boolean))
theorem hm_X2_pushesMore : hMeth MX2_pushesMore 2 := ⟨UW_of (List.mem_of_getElem? (i := 1005) (by decide +kernel)) rfl, UW_of (List.mem_of_getElem? (i := 99) (by decide +kernel)) rfl, ⟨by decide +kernel, by decide +kernel⟩, by decide +kernel, by decide⟩
theorem hv_X2_pushesMore : hVirt MX2_pushesMore 2 := ⟨UW_of (List.mem_of_getElem? (i := 1004) (by decide +kernel)) rfl, UW_of (List.mem_of_getElem? (i := 25) (by decide +kernel)) rfl, ⟨_, _, rfl⟩, by decide⟩
theorem ln_X2_125 : hLnk RX2 125 yX2_costOfSet := Or.inl (UW_of (List.mem_of_getElem? (i := 997) (by decide +kernel)) rfl)
abbrev MX2_columnsToPush : MI := (yX2_columnsToPush, cX2_columnsToPush, 6, (Option.some Jvm.ClassFile.FieldType.int))
theorem hm_X2_columnsToPush : hMeth MX2_columnsToPush 1 := ⟨UW_of (List.mem_of_getElem? (i := 991) (by decide +kernel)) rfl, UW_of (List.mem_of_getElem? (i := 99) (by decide +kernel)) rfl, ⟨by decide +kernel, by decide +kernel⟩, by decide +kernel, by decide⟩
theorem hv_X2_columnsToPush : hVirt MX2_columnsToPush 2 := ⟨UW_of (List.mem_of_getElem? (i := 989) (by decide +kernel)) rfl, UW_of (List.mem_of_getElem? (i := 990) (by decide +kernel)) rfl, ⟨_, _, rfl⟩, by decide⟩
theorem lk_X2_99 : LK RX2 99 TX0 0 := Or.inr ⟨"HyphenWar", UW_of (List.mem_of_getElem? (i := 141) (by decide +kernel)) rfl⟩
theorem ln_X2_103 : hLnk RX2 103 yX0_lawInForce := Or.inl (UW_of (List.mem_of_getElem? (i := 992) (by decide +kernel)) rfl)
theorem ln_X2_107 : hLnk RX2 107 yX7_costOf := Or.inl (UW_of (List.mem_of_getElem? (i := 993) (by decide +kernel)) rfl)
theorem ln_X2_113 : hLnk RX2 113 yX1_isStronger := Or.inl (UW_of (List.mem_of_getElem? (i := 994) (by decide +kernel)) rfl)
theorem ln_X2_118 : hLnk RX2 118 yX1_canGoOn := Or.inl (UW_of (List.mem_of_getElem? (i := 995) (by decide +kernel)) rfl)
theorem ln_X2_121 : hLnk RX2 121 yX7_isBarred := Or.inl (UW_of (List.mem_of_getElem? (i := 996) (by decide +kernel)) rfl)
theorem ln_X2_128 : hLnk RX2 128 yX1_supplyOf := Or.inl (UW_of (List.mem_of_getElem? (i := 1001) (by decide +kernel)) rfl)
theorem ln_X2_131 : hLnk RX2 131 yX2_pushesMore := Or.inl (UW_of (List.mem_of_getElem? (i := 1002) (by decide +kernel)) rfl)
abbrev MX2_menToLevel : MI := (yX2_menToLevel, cX2_menToLevel, 7, (Option.some Jvm.ClassFile.FieldType.int))
theorem hm_X2_menToLevel : hMeth MX2_menToLevel 1 := ⟨UW_of (List.mem_of_getElem? (i := 1014) (by decide +kernel)) rfl, UW_of (List.mem_of_getElem? (i := 99) (by decide +kernel)) rfl, ⟨by decide +kernel, by decide +kernel⟩, by decide +kernel, by decide⟩
theorem hv_X2_menToLevel : hVirt MX2_menToLevel 2 := ⟨UW_of (List.mem_of_getElem? (i := 1012) (by decide +kernel)) rfl, UW_of (List.mem_of_getElem? (i := 1013) (by decide +kernel)) rfl, ⟨_, _, rfl⟩, by decide⟩
theorem ln_X2_134 : hLnk RX2 134 yX1_menOf := Or.inl (UW_of (List.mem_of_getElem? (i := 1015) (by decide +kernel)) rfl)
theorem ln_X2_137 : hLnk RX2 137 yX1_menAt := Or.inl (UW_of (List.mem_of_getElem? (i := 1016) (by decide +kernel)) rfl)
abbrev MX2_seesAll : MI := (yX2_seesAll, cX2_seesAll, 5, (Option.some Jvm.ClassFile.FieldType.boolean))
theorem hm_X2_seesAll : hMeth MX2_seesAll 2 := ⟨UW_of (List.mem_of_getElem? (i := 1027) (by decide +kernel)) rfl, UW_of (List.mem_of_getElem? (i := 99) (by decide +kernel)) rfl, ⟨by decide +kernel, by decide +kernel⟩, by decide +kernel, by decide⟩
theorem hs_X2_seesAll : Cond.static MX2_seesAll.1 ∈ UW := UW_of (List.mem_of_getElem? (i := 1026) (by decide +kernel)) rfl
abbrev MX2_columnsForPosts : MI := (yX2_columnsForPosts, cX2_columnsForPosts, 4, (Option.some Jvm.ClassFile.FieldType.int))
theorem hm_X2_columnsForPosts : hMeth MX2_columnsForPosts 1 := ⟨UW_of (List.mem_of_getElem? (i := 1024) (by decide +kernel)) rfl, UW_of (List.mem_of_getElem? (i := 99) (by decide +kernel)) rfl, ⟨by decide +kernel, by decide +kernel⟩, by decide +kernel, by decide⟩
theorem hv_X2_columnsForPosts : hVirt MX2_columnsForPosts 2 := ⟨UW_of (List.mem_of_getElem? (i := 1022) (by decide +kernel)) rfl, UW_of (List.mem_of_getElem? (i := 1023) (by decide +kernel)) rfl, ⟨_, _, rfl⟩, by decide⟩
theorem ln_X2_140 : hLnk RX2 140 yX2_seesAll := Or.inl (UW_of (List.mem_of_getElem? (i := 1025) (by decide +kernel)) rfl)
abbrev MJ9_floorMod_7cf53 : MI := (yJ9_floorMod_7cf53, cJ9_floorMod_7cf53, 3, (Option.some Jvm.ClassFile.FieldType.int))
theorem hm_J9_floorMod_7cf53 : hMeth MJ9_floorMod_7cf53 2 := ⟨UW_of (List.mem_of_getElem? (i := 1038) (by decide +kernel)) rfl, UW_of (List.mem_of_getElem? (i := 104) (by decide +kernel)) rfl, ⟨by decide +kernel, by decide +kernel⟩, by decide +kernel, by decide⟩
theorem hs_J9_floorMod_7cf53 : Cond.static MJ9_floorMod_7cf53.1 ∈ UW := UW_of (List.mem_of_getElem? (i := 1037) (by decide +kernel)) rfl
abbrev MX2_foesOnWay : MI := (yX2_foesOnWay, cX2_foesOnWay, 8, (Option.some Jvm.ClassFile.FieldType.int))
theorem hm_X2_foesOnWay : hMeth MX2_foesOnWay 4 := ⟨UW_of (List.mem_of_getElem? (i := 1035) (by decide +kernel)) rfl, UW_of (List.mem_of_getElem? (i := 99) (by decide +kernel)) rfl, ⟨by decide +kernel, by decide +kernel⟩, by decide +kernel, by decide⟩
theorem hv_X2_foesOnWay : hVirt MX2_foesOnWay 2 := ⟨UW_of (List.mem_of_getElem? (i := 1033) (by decide +kernel)) rfl, UW_of (List.mem_of_getElem? (i := 1034) (by decide +kernel)) rfl, ⟨_, _, rfl⟩, by decide⟩
theorem ln_X2_143 : hLnk RX2 143 yJ9_floorMod_7cf53 := Or.inl (UW_of (List.mem_of_getElem? (i := 1036) (by decide +kernel)) rfl)
abbrev MX2_chanceToHold : MI := (yX2_chanceToHold, cX2_chanceToHold, 5, (Option.some Jvm.ClassFile.FieldType.long))
theorem hm_X2_chanceToHold : hMeth MX2_chanceToHold 1 := ⟨UW_of (List.mem_of_getElem? (i := 1047) (by decide +kernel)) rfl, UW_of (List.mem_of_getElem? (i := 99) (by decide +kernel)) rfl, ⟨by decide +kernel, by decide +kernel⟩, by decide +kernel, by decide⟩
theorem hv_X2_chanceToHold : hVirt MX2_chanceToHold 2 := ⟨UW_of (List.mem_of_getElem? (i := 1045) (by decide +kernel)) rfl, UW_of (List.mem_of_getElem? (i := 1046) (by decide +kernel)) rfl, ⟨_, _, rfl⟩, by decide⟩
theorem cn_X2_146 : Cond.constantLong RX2 146 (1000000000000) ∈ UW := UW_of (List.mem_of_getElem? (i := 1048) (by decide +kernel)) rfl
theorem ln_X2_148 : hLnk RX2 148 yX1_temperOf := Or.inl (UW_of (List.mem_of_getElem? (i := 1049) (by decide +kernel)) rfl)
theorem cn_X2_151 : Cond.constantLong RX2 151 (100) ∈ UW := UW_of (List.mem_of_getElem? (i := 1050) (by decide +kernel)) rfl
abbrev MX7_readingOf : MI := (yX7_readingOf, cX7_readingOf, 5, (Option.some Jvm.ClassFile.FieldType.int))
theorem hm_X7_readingOf : hMeth MX7_readingOf 3 := ⟨UW_of (List.mem_of_getElem? (i := 550) (by decide +kernel)) rfl, UW_of (List.mem_of_getElem? (i := 97) (by decide +kernel)) rfl, ⟨by decide +kernel, by decide +kernel⟩, by decide +kernel, by decide⟩
theorem hv_X7_readingOf : hVirt MX7_readingOf 7 := ⟨UW_of (List.mem_of_getElem? (i := 548) (by decide +kernel)) rfl, UW_of (List.mem_of_getElem? (i := 549) (by decide +kernel)) rfl, ⟨_, _, rfl⟩, by decide⟩
theorem lk_X7_52 : LK RX7 52 TX5 1 := Or.inr ⟨"HyphenWar", UW_of (List.mem_of_getElem? (i := 230) (by decide +kernel)) rfl⟩
theorem lk_X7_62 : LK RX7 62 TX0 1 := Or.inr ⟨"HyphenWar", UW_of (List.mem_of_getElem? (i := 143) (by decide +kernel)) rfl⟩
theorem ln_X7_65 : hLnk RX7 65 yX8_pair := Or.inr ⟨"HyphenWar", UW_of (List.mem_of_getElem? (i := 551) (by decide +kernel)) rfl⟩
abbrev MX2_isAsTold : MI := (yX2_isAsTold, cX2_isAsTold, 3, (Option.some Jvm.ClassFile.FieldType.boolean))
theorem hm_X2_isAsTold : hMeth MX2_isAsTold 1 := ⟨UW_of (List.mem_of_getElem? (i := 1063) (by decide +kernel)) rfl, UW_of (List.mem_of_getElem? (i := 99) (by decide +kernel)) rfl, ⟨by decide +kernel, by decide +kernel⟩, by decide +kernel, by decide⟩
theorem hv_X2_isAsTold : hVirt MX2_isAsTold 2 := ⟨UW_of (List.mem_of_getElem? (i := 1062) (by decide +kernel)) rfl, UW_of (List.mem_of_getElem? (i := 26) (by decide +kernel)) rfl, ⟨_, _, rfl⟩, by decide⟩
theorem lk_X2_156 : LK RX2 156 TX0 10 := Or.inr ⟨"HyphenWar", UW_of (List.mem_of_getElem? (i := 171) (by decide +kernel)) rfl⟩
theorem lk_X2_159 : LK RX2 159 TX0 8 := Or.inr ⟨"HyphenWar", UW_of (List.mem_of_getElem? (i := 165) (by decide +kernel)) rfl⟩
theorem ln_X2_162 : hLnk RX2 162 yX7_readingOf := Or.inl (UW_of (List.mem_of_getElem? (i := 1064) (by decide +kernel)) rfl)
theorem lk_X2_166 : LK RX2 166 TX0 9 := Or.inr ⟨"HyphenWar", UW_of (List.mem_of_getElem? (i := 168) (by decide +kernel)) rfl⟩
abbrev MX2_signsThatFit : MI := (yX2_signsThatFit, cX2_signsThatFit, 3, (Option.some Jvm.ClassFile.FieldType.int))
theorem hm_X2_signsThatFit : hMeth MX2_signsThatFit 0 := ⟨UW_of (List.mem_of_getElem? (i := 1059) (by decide +kernel)) rfl, UW_of (List.mem_of_getElem? (i := 99) (by decide +kernel)) rfl, ⟨by decide +kernel, by decide +kernel⟩, by decide +kernel, by decide⟩
theorem hv_X2_signsThatFit : hVirt MX2_signsThatFit 2 := ⟨UW_of (List.mem_of_getElem? (i := 1057) (by decide +kernel)) rfl, UW_of (List.mem_of_getElem? (i := 1058) (by decide +kernel)) rfl, ⟨_, _, rfl⟩, by decide⟩
theorem ln_X2_153 : hLnk RX2 153 yX2_isAsTold := Or.inl (UW_of (List.mem_of_getElem? (i := 1060) (by decide +kernel)) rfl)
abbrev MX2_costOfAll : MI := (yX2_costOfAll, cX2_costOfAll, 5, (Option.some Jvm.ClassFile.FieldType.int))
theorem hm_X2_costOfAll : hMeth MX2_costOfAll 1 := ⟨UW_of (List.mem_of_getElem? (i := 1073) (by decide +kernel)) rfl, UW_of (List.mem_of_getElem? (i := 99) (by decide +kernel)) rfl, ⟨by decide +kernel, by decide +kernel⟩, by decide +kernel, by decide⟩
theorem hv_X2_costOfAll : hVirt MX2_costOfAll 2 := ⟨UW_of (List.mem_of_getElem? (i := 1071) (by decide +kernel)) rfl, UW_of (List.mem_of_getElem? (i := 1072) (by decide +kernel)) rfl, ⟨_, _, rfl⟩, by decide⟩
abbrev MX3_init : MI := (yX3_init, cX3_init, 1, none)
theorem hm_X3_init : hMeth MX3_init 0 := ⟨UW_of (List.mem_of_getElem? (i := 336) (by decide +kernel)) rfl, UW_of (List.mem_of_getElem? (i := 102) (by decide +kernel)) rfl, ⟨by decide +kernel, by decide +kernel⟩, by decide +kernel, by decide⟩
theorem hi_X3_init : Cond.instanceMethod MX3_init.1 ∈ UW := UW_of (List.mem_of_getElem? (i := 335) (by decide +kernel)) rfl
theorem ln_X3_3 : Cond.methodLink RX3 3 objectInit ∈ UW := UW_of (List.mem_of_getElem? (i := 337) (by decide +kernel)) rfl
theorem lk_X3_9 : LK RX3 9 TX3 0 := Or.inl (UW_of (List.mem_of_getElem? (i := 338) (by decide +kernel)) rfl)
theorem lkm_X3_9 : Cond.fieldLink RX3 9 (TX3 0).1 (TX3 0).2.1 (TX3 0).2.2.1 ∈ UW := UW_of (List.mem_of_getElem? (i := 338) (by decide +kernel)) rfl
theorem lk_X3_15 : LK RX3 15 TX3 1 := Or.inl (UW_of (List.mem_of_getElem? (i := 339) (by decide +kernel)) rfl)
theorem lkm_X3_15 : Cond.fieldLink RX3 15 (TX3 1).1 (TX3 1).2.1 (TX3 1).2.2.1 ∈ UW := UW_of (List.mem_of_getElem? (i := 339) (by decide +kernel)) rfl
abbrev MX3_clear : MI := (yX3_clear, cX3_clear, 1, none)
theorem hm_X3_clear : hMeth MX3_clear 0 := ⟨UW_of (List.mem_of_getElem? (i := 440) (by decide +kernel)) rfl, UW_of (List.mem_of_getElem? (i := 102) (by decide +kernel)) rfl, ⟨by decide +kernel, by decide +kernel⟩, by decide +kernel, by decide⟩
theorem hv_X3_clear : hVirt MX3_clear 3 := ⟨UW_of (List.mem_of_getElem? (i := 438) (by decide +kernel)) rfl, UW_of (List.mem_of_getElem? (i := 439) (by decide +kernel)) rfl, ⟨_, _, rfl⟩, by decide⟩
theorem lk_X3_18 : LK RX3 18 TX3 3 := Or.inl (UW_of (List.mem_of_getElem? (i := 341) (by decide +kernel)) rfl)
abbrev MX3_add : MI := (yX3_add, cX3_add, 3, none)
theorem hm_X3_add : hMeth MX3_add 2 := ⟨UW_of (List.mem_of_getElem? (i := 845) (by decide +kernel)) rfl, UW_of (List.mem_of_getElem? (i := 102) (by decide +kernel)) rfl, ⟨by decide +kernel, by decide +kernel⟩, by decide +kernel, by decide⟩
theorem hv_X3_add : hVirt MX3_add 3 := ⟨UW_of (List.mem_of_getElem? (i := 843) (by decide +kernel)) rfl, UW_of (List.mem_of_getElem? (i := 844) (by decide +kernel)) rfl, ⟨_, _, rfl⟩, by decide⟩
theorem lk_X3_22 : LK RX3 22 TX1 0 := Or.inr ⟨"HyphenWar", UW_of (List.mem_of_getElem? (i := 132) (by decide +kernel)) rfl⟩
theorem lk_X3_25 : LK RX3 25 TX3 2 := Or.inl (UW_of (List.mem_of_getElem? (i := 340) (by decide +kernel)) rfl)
theorem ln_X3_28 : Cond.methodLink RX3 28 arraycopyName ∈ UW := UW_of (List.mem_of_getElem? (i := 770) (by decide +kernel)) rfl
theorem ln_X3_34 : hLnk RX3 34 yJ9_min_7cf53 := Or.inl (UW_of (List.mem_of_getElem? (i := 846) (by decide +kernel)) rfl)
abbrev MX3_takeLatest : MI := (yX3_takeLatest, cX3_takeLatest, 2, (Option.some Jvm.ClassFile.FieldType.int))
theorem hm_X3_takeLatest : hMeth MX3_takeLatest 1 := ⟨UW_of (List.mem_of_getElem? (i := 887) (by decide +kernel)) rfl, UW_of (List.mem_of_getElem? (i := 102) (by decide +kernel)) rfl, ⟨by decide +kernel, by decide +kernel⟩, by decide +kernel, by decide⟩
theorem hv_X3_takeLatest : hVirt MX3_takeLatest 3 := ⟨UW_of (List.mem_of_getElem? (i := 885) (by decide +kernel)) rfl, UW_of (List.mem_of_getElem? (i := 886) (by decide +kernel)) rfl, ⟨_, _, rfl⟩, by decide⟩
theorem ln_X3_40 : hLnk RX3 40 yJ9_max_7cf53 := Or.inl (UW_of (List.mem_of_getElem? (i := 888) (by decide +kernel)) rfl)
abbrev MX3_copyFrom : MI := (yX3_copyFrom, cX3_copyFrom, 2, none)
theorem hm_X3_copyFrom : hMeth MX3_copyFrom 1 := ⟨UW_of (List.mem_of_getElem? (i := 769) (by decide +kernel)) rfl, UW_of (List.mem_of_getElem? (i := 102) (by decide +kernel)) rfl, ⟨by decide +kernel, by decide +kernel⟩, by decide +kernel, by decide⟩
theorem hv_X3_copyFrom : hVirt MX3_copyFrom 3 := ⟨UW_of (List.mem_of_getElem? (i := 767) (by decide +kernel)) rfl, UW_of (List.mem_of_getElem? (i := 768) (by decide +kernel)) rfl, ⟨_, _, rfl⟩, by decide⟩
abbrev MX6_init : MI := (yX6_init, cX6_init, 1, none)
theorem hm_X6_init : hMeth MX6_init 0 := ⟨UW_of (List.mem_of_getElem? (i := 271) (by decide +kernel)) rfl, UW_of (List.mem_of_getElem? (i := 101) (by decide +kernel)) rfl, ⟨by decide +kernel, by decide +kernel⟩, by decide +kernel, by decide⟩
theorem hi_X6_init : Cond.instanceMethod MX6_init.1 ∈ UW := UW_of (List.mem_of_getElem? (i := 270) (by decide +kernel)) rfl
theorem ln_X6_3 : Cond.methodLink RX6 3 objectInit ∈ UW := UW_of (List.mem_of_getElem? (i := 272) (by decide +kernel)) rfl
theorem lk_X6_9 : LK RX6 9 TX6 0 := Or.inl (UW_of (List.mem_of_getElem? (i := 273) (by decide +kernel)) rfl)
theorem lkm_X6_9 : Cond.fieldLink RX6 9 (TX6 0).1 (TX6 0).2.1 (TX6 0).2.2.1 ∈ UW := UW_of (List.mem_of_getElem? (i := 273) (by decide +kernel)) rfl
theorem lk_X6_15 : LK RX6 15 TX6 1 := Or.inl (UW_of (List.mem_of_getElem? (i := 275) (by decide +kernel)) rfl)
theorem lkm_X6_15 : Cond.fieldLink RX6 15 (TX6 1).1 (TX6 1).2.1 (TX6 1).2.2.1 ∈ UW := UW_of (List.mem_of_getElem? (i := 275) (by decide +kernel)) rfl
theorem lk_X6_18 : LK RX6 18 TX6 3 := Or.inl (UW_of (List.mem_of_getElem? (i := 279) (by decide +kernel)) rfl)
theorem lkm_X6_18 : Cond.fieldLink RX6 18 (TX6 3).1 (TX6 3).2.1 (TX6 3).2.2.1 ∈ UW := UW_of (List.mem_of_getElem? (i := 279) (by decide +kernel)) rfl
theorem lk_X6_21 : LK RX6 21 TX6 4 := Or.inl (UW_of (List.mem_of_getElem? (i := 282) (by decide +kernel)) rfl)
theorem lkm_X6_21 : Cond.fieldLink RX6 21 (TX6 4).1 (TX6 4).2.1 (TX6 4).2.2.1 ∈ UW := UW_of (List.mem_of_getElem? (i := 282) (by decide +kernel)) rfl
theorem lk_X6_24 : LK RX6 24 TX6 5 := Or.inl (UW_of (List.mem_of_getElem? (i := 284) (by decide +kernel)) rfl)
theorem lkm_X6_24 : Cond.fieldLink RX6 24 (TX6 5).1 (TX6 5).2.1 (TX6 5).2.2.1 ∈ UW := UW_of (List.mem_of_getElem? (i := 284) (by decide +kernel)) rfl
abbrev MX4_init : MI := (yX4_init, cX4_init, 1, none)
theorem hm_X4_init : hMeth MX4_init 0 := ⟨UW_of (List.mem_of_getElem? (i := 265) (by decide +kernel)) rfl, UW_of (List.mem_of_getElem? (i := 100) (by decide +kernel)) rfl, ⟨by decide +kernel, by decide +kernel⟩, by decide +kernel, by decide⟩
theorem hi_X4_init : Cond.instanceMethod MX4_init.1 ∈ UW := UW_of (List.mem_of_getElem? (i := 264) (by decide +kernel)) rfl
theorem ln_X4_3 : Cond.methodLink RX4 3 objectInit ∈ UW := UW_of (List.mem_of_getElem? (i := 266) (by decide +kernel)) rfl
theorem lk_X4_9 : LK RX4 9 TX4 0 := Or.inl (UW_of (List.mem_of_getElem? (i := 305) (by decide +kernel)) rfl)
theorem lkm_X4_9 : Cond.fieldLink RX4 9 (TX4 0).1 (TX4 0).2.1 (TX4 0).2.2.1 ∈ UW := UW_of (List.mem_of_getElem? (i := 305) (by decide +kernel)) rfl
theorem lk_X4_15 : LK RX4 15 TX4 1 := Or.inl (UW_of (List.mem_of_getElem? (i := 306) (by decide +kernel)) rfl)
theorem lkm_X4_15 : Cond.fieldLink RX4 15 (TX4 1).1 (TX4 1).2.1 (TX4 1).2.2.1 ∈ UW := UW_of (List.mem_of_getElem? (i := 306) (by decide +kernel)) rfl
theorem lk_X4_18 : LK RX4 18 TX4 2 := Or.inl (UW_of (List.mem_of_getElem? (i := 307) (by decide +kernel)) rfl)
theorem lkm_X4_18 : Cond.fieldLink RX4 18 (TX4 2).1 (TX4 2).2.1 (TX4 2).2.2.1 ∈ UW := UW_of (List.mem_of_getElem? (i := 307) (by decide +kernel)) rfl
theorem cl_X4_21 : Cond.classLink RX4 21 RX6 ∈ UW := UW_of (List.mem_of_getElem? (i := 267) (by decide +kernel)) rfl
theorem ln_X4_23 : hLnk RX4 23 yX6_init := Or.inl (UW_of (List.mem_of_getElem? (i := 269) (by decide +kernel)) rfl)
theorem lk_X4_24 : LK RX4 24 TX4 7 := Or.inl (UW_of (List.mem_of_getElem? (i := 312) (by decide +kernel)) rfl)
theorem lkm_X4_24 : Cond.fieldLink RX4 24 (TX4 7).1 (TX4 7).2.1 (TX4 7).2.2.1 ∈ UW := UW_of (List.mem_of_getElem? (i := 312) (by decide +kernel)) rfl
abbrev MX6_clear : MI := (yX6_clear, cX6_clear, 1, none)
theorem hm_X6_clear : hMeth MX6_clear 0 := ⟨UW_of (List.mem_of_getElem? (i := 615) (by decide +kernel)) rfl, UW_of (List.mem_of_getElem? (i := 101) (by decide +kernel)) rfl, ⟨by decide +kernel, by decide +kernel⟩, by decide +kernel, by decide⟩
theorem hv_X6_clear : hVirt MX6_clear 6 := ⟨UW_of (List.mem_of_getElem? (i := 613) (by decide +kernel)) rfl, UW_of (List.mem_of_getElem? (i := 614) (by decide +kernel)) rfl, ⟨_, _, rfl⟩, by decide⟩
theorem lk_X6_27 : LK RX6 27 TX6 2 := Or.inl (UW_of (List.mem_of_getElem? (i := 277) (by decide +kernel)) rfl)
theorem lk_X6_37 : LK RX6 37 TX6 6 := Or.inl (UW_of (List.mem_of_getElem? (i := 287) (by decide +kernel)) rfl)
abbrev MX4_sortOf : MI := (yX4_sortOf, cX4_sortOf, 1, (Option.some Jvm.ClassFile.FieldType.int))
theorem hm_X4_sortOf : hMeth MX4_sortOf 1 := ⟨UW_of (List.mem_of_getElem? (i := 622) (by decide +kernel)) rfl, UW_of (List.mem_of_getElem? (i := 100) (by decide +kernel)) rfl, ⟨by decide +kernel, by decide +kernel⟩, by decide +kernel, by decide⟩
theorem hs_X4_sortOf : Cond.static MX4_sortOf.1 ∈ UW := UW_of (List.mem_of_getElem? (i := 621) (by decide +kernel)) rfl
abbrev MX4_wordAt : MI := (yX4_wordAt, cX4_wordAt, 8, (Option.some Jvm.ClassFile.FieldType.int))
theorem hm_X4_wordAt : hMeth MX4_wordAt 3 := ⟨UW_of (List.mem_of_getElem? (i := 625) (by decide +kernel)) rfl, UW_of (List.mem_of_getElem? (i := 100) (by decide +kernel)) rfl, ⟨by decide +kernel, by decide +kernel⟩, by decide +kernel, by decide⟩
theorem hs_X4_wordAt : Cond.static MX4_wordAt.1 ∈ UW := UW_of (List.mem_of_getElem? (i := 624) (by decide +kernel)) rfl
theorem ln_X4_74 : hLnk RX4 74 yJ0_length_8abf5 := Or.inl (UW_of (List.mem_of_getElem? (i := 627) (by decide +kernel)) rfl)
theorem ln_X4_80 : hLnk RX4 80 yJ0_charAt_5068e := Or.inl (UW_of (List.mem_of_getElem? (i := 637) (by decide +kernel)) rfl)
abbrev MX4_addToken : MI := (yX4_addToken, cX4_addToken, 4, none)
theorem hm_X4_addToken : hMeth MX4_addToken 3 := ⟨UW_of (List.mem_of_getElem? (i := 678) (by decide +kernel)) rfl, UW_of (List.mem_of_getElem? (i := 100) (by decide +kernel)) rfl, ⟨by decide +kernel, by decide +kernel⟩, by decide +kernel, by decide⟩
theorem hv_X4_addToken : hVirt MX4_addToken 4 := ⟨UW_of (List.mem_of_getElem? (i := 677) (by decide +kernel)) rfl, UW_of (List.mem_of_getElem? (i := 5) (by decide +kernel)) rfl, ⟨_, _, rfl⟩, by decide⟩
theorem lk_X4_32 : LK RX4 32 TX4 3 := Or.inl (UW_of (List.mem_of_getElem? (i := 308) (by decide +kernel)) rfl)
abbrev MX4_numberAt : MI := (yX4_numberAt, cX4_numberAt, 5, (Option.some Jvm.ClassFile.FieldType.int))
theorem hm_X4_numberAt : hMeth MX4_numberAt 3 := ⟨UW_of (List.mem_of_getElem? (i := 681) (by decide +kernel)) rfl, UW_of (List.mem_of_getElem? (i := 100) (by decide +kernel)) rfl, ⟨by decide +kernel, by decide +kernel⟩, by decide +kernel, by decide⟩
theorem hs_X4_numberAt : Cond.static MX4_numberAt.1 ∈ UW := UW_of (List.mem_of_getElem? (i := 680) (by decide +kernel)) rfl
theorem ln_X4_84 : hLnk RX4 84 yJ9_min_7cf53 := Or.inl (UW_of (List.mem_of_getElem? (i := 682) (by decide +kernel)) rfl)
abbrev MX4_splitTape : MI := (yX4_splitTape, cX4_splitTape, 7, none)
theorem hm_X4_splitTape : hMeth MX4_splitTape 2 := ⟨UW_of (List.mem_of_getElem? (i := 619) (by decide +kernel)) rfl, UW_of (List.mem_of_getElem? (i := 100) (by decide +kernel)) rfl, ⟨by decide +kernel, by decide +kernel⟩, by decide +kernel, by decide⟩
theorem hv_X4_splitTape : hVirt MX4_splitTape 4 := ⟨UW_of (List.mem_of_getElem? (i := 618) (by decide +kernel)) rfl, UW_of (List.mem_of_getElem? (i := 4) (by decide +kernel)) rfl, ⟨_, _, rfl⟩, by decide⟩
theorem ln_X4_57 : hLnk RX4 57 yX4_sortOf := Or.inl (UW_of (List.mem_of_getElem? (i := 620) (by decide +kernel)) rfl)
theorem ln_X4_61 : hLnk RX4 61 yX4_wordAt := Or.inl (UW_of (List.mem_of_getElem? (i := 623) (by decide +kernel)) rfl)
theorem ln_X4_65 : hLnk RX4 65 yX4_addToken := Or.inl (UW_of (List.mem_of_getElem? (i := 675) (by decide +kernel)) rfl)
theorem ln_X4_69 : hLnk RX4 69 yX4_numberAt := Or.inl (UW_of (List.mem_of_getElem? (i := 679) (by decide +kernel)) rfl)
abbrev MX6_beginClause : MI := (yX6_beginClause, cX6_beginClause, 3, none)
theorem hm_X6_beginClause : hMeth MX6_beginClause 1 := ⟨UW_of (List.mem_of_getElem? (i := 690) (by decide +kernel)) rfl, UW_of (List.mem_of_getElem? (i := 101) (by decide +kernel)) rfl, ⟨by decide +kernel, by decide +kernel⟩, by decide +kernel, by decide⟩
theorem hv_X6_beginClause : hVirt MX6_beginClause 6 := ⟨UW_of (List.mem_of_getElem? (i := 688) (by decide +kernel)) rfl, UW_of (List.mem_of_getElem? (i := 689) (by decide +kernel)) rfl, ⟨_, _, rfl⟩, by decide⟩
abbrev MX4_skip : MI := (yX4_skip, cX4_skip, 2, (Option.some Jvm.ClassFile.FieldType.boolean))
theorem hm_X4_skip : hMeth MX4_skip 1 := ⟨UW_of (List.mem_of_getElem? (i := 698) (by decide +kernel)) rfl, UW_of (List.mem_of_getElem? (i := 100) (by decide +kernel)) rfl, ⟨by decide +kernel, by decide +kernel⟩, by decide +kernel, by decide⟩
theorem hv_X4_skip : hVirt MX4_skip 4 := ⟨UW_of (List.mem_of_getElem? (i := 697) (by decide +kernel)) rfl, UW_of (List.mem_of_getElem? (i := 8) (by decide +kernel)) rfl, ⟨_, _, rfl⟩, by decide⟩
theorem lk_X4_36 : LK RX4 36 TX4 4 := Or.inl (UW_of (List.mem_of_getElem? (i := 309) (by decide +kernel)) rfl)
abbrev MX6_put : MI := (yX6_put, cX6_put, 3, none)
theorem hm_X6_put : hMeth MX6_put 2 := ⟨UW_of (List.mem_of_getElem? (i := 710) (by decide +kernel)) rfl, UW_of (List.mem_of_getElem? (i := 101) (by decide +kernel)) rfl, ⟨by decide +kernel, by decide +kernel⟩, by decide +kernel, by decide⟩
theorem hv_X6_put : hVirt MX6_put 6 := ⟨UW_of (List.mem_of_getElem? (i := 708) (by decide +kernel)) rfl, UW_of (List.mem_of_getElem? (i := 709) (by decide +kernel)) rfl, ⟨_, _, rfl⟩, by decide⟩
abbrev MX6_beginPlace : MI := (yX6_beginPlace, cX6_beginPlace, 2, none)
theorem hm_X6_beginPlace : hMeth MX6_beginPlace 1 := ⟨UW_of (List.mem_of_getElem? (i := 706) (by decide +kernel)) rfl, UW_of (List.mem_of_getElem? (i := 101) (by decide +kernel)) rfl, ⟨by decide +kernel, by decide +kernel⟩, by decide +kernel, by decide⟩
theorem hv_X6_beginPlace : hVirt MX6_beginPlace 6 := ⟨UW_of (List.mem_of_getElem? (i := 704) (by decide +kernel)) rfl, UW_of (List.mem_of_getElem? (i := 705) (by decide +kernel)) rfl, ⟨_, _, rfl⟩, by decide⟩
theorem ln_X6_40 : hLnk RX6 40 yX6_put := Or.inl (UW_of (List.mem_of_getElem? (i := 707) (by decide +kernel)) rfl)
abbrev MX4_readLawWord : MI := (yX4_readLawWord, cX4_readLawWord, 2, (Option.some Jvm.ClassFile.FieldType.int))
theorem hm_X4_readLawWord : hMeth MX4_readLawWord 0 := ⟨UW_of (List.mem_of_getElem? (i := 723) (by decide +kernel)) rfl, UW_of (List.mem_of_getElem? (i := 100) (by decide +kernel)) rfl, ⟨by decide +kernel, by decide +kernel⟩, by decide +kernel, by decide⟩
theorem hv_X4_readLawWord : hVirt MX4_readLawWord 4 := ⟨UW_of (List.mem_of_getElem? (i := 722) (by decide +kernel)) rfl, UW_of (List.mem_of_getElem? (i := 12) (by decide +kernel)) rfl, ⟨_, _, rfl⟩, by decide⟩
abbrev MX4_readOrderWord : MI := (yX4_readOrderWord, cX4_readOrderWord, 4, (Option.some Jvm.ClassFile.FieldType.int))
theorem hm_X4_readOrderWord : hMeth MX4_readOrderWord 0 := ⟨UW_of (List.mem_of_getElem? (i := 727) (by decide +kernel)) rfl, UW_of (List.mem_of_getElem? (i := 100) (by decide +kernel)) rfl, ⟨by decide +kernel, by decide +kernel⟩, by decide +kernel, by decide⟩
theorem hv_X4_readOrderWord : hVirt MX4_readOrderWord 4 := ⟨UW_of (List.mem_of_getElem? (i := 726) (by decide +kernel)) rfl, UW_of (List.mem_of_getElem? (i := 13) (by decide +kernel)) rfl, ⟨_, _, rfl⟩, by decide⟩
abbrev MX4_readTest : MI := (yX4_readTest, cX4_readTest, 5, (Option.some Jvm.ClassFile.FieldType.boolean))
theorem hm_X4_readTest : hMeth MX4_readTest 2 := ⟨UW_of (List.mem_of_getElem? (i := 744) (by decide +kernel)) rfl, UW_of (List.mem_of_getElem? (i := 100) (by decide +kernel)) rfl, ⟨by decide +kernel, by decide +kernel⟩, by decide +kernel, by decide⟩
theorem hv_X4_readTest : hVirt MX4_readTest 4 := ⟨UW_of (List.mem_of_getElem? (i := 743) (by decide +kernel)) rfl, UW_of (List.mem_of_getElem? (i := 16) (by decide +kernel)) rfl, ⟨_, _, rfl⟩, by decide⟩
theorem ln_X4_123 : hLnk RX4 123 yX4_readPlain := Or.inl (UW_of (List.mem_of_getElem? (i := 745) (by decide +kernel)) rfl)
theorem ln_X4_103 : hLnk RX4 103 yX4_readTest := Or.inl (UW_of (List.mem_of_getElem? (i := 741) (by decide +kernel)) rfl)
theorem ln_X4_53 : hLnk RX4 53 yX4_skip := Or.inl (UW_of (List.mem_of_getElem? (i := 695) (by decide +kernel)) rfl)
theorem ln_X4_126 : hLnk RX4 126 yX6_put := Or.inl (UW_of (List.mem_of_getElem? (i := 719) (by decide +kernel)) rfl)
abbrev MX4_readPlain : MI := (yX4_readPlain, cX4_readPlain, 4, (Option.some Jvm.ClassFile.FieldType.boolean))
theorem hm_X4_readPlain : hMeth MX4_readPlain 1 := ⟨UW_of (List.mem_of_getElem? (i := 748) (by decide +kernel)) rfl, UW_of (List.mem_of_getElem? (i := 100) (by decide +kernel)) rfl, ⟨by decide +kernel, by decide +kernel⟩, by decide +kernel, by decide⟩
theorem hv_X4_readPlain : hVirt MX4_readPlain 4 := ⟨UW_of (List.mem_of_getElem? (i := 747) (by decide +kernel)) rfl, UW_of (List.mem_of_getElem? (i := 17) (by decide +kernel)) rfl, ⟨_, _, rfl⟩, by decide⟩
theorem ln_X4_120 : hLnk RX4 120 yX4_readSum := Or.inl (UW_of (List.mem_of_getElem? (i := 711) (by decide +kernel)) rfl)
abbrev MX4_readSum : MI := (yX4_readSum, cX4_readSum, 6, (Option.some Jvm.ClassFile.FieldType.boolean))
theorem hm_X4_readSum : hMeth MX4_readSum 2 := ⟨UW_of (List.mem_of_getElem? (i := 714) (by decide +kernel)) rfl, UW_of (List.mem_of_getElem? (i := 100) (by decide +kernel)) rfl, ⟨by decide +kernel, by decide +kernel⟩, by decide +kernel, by decide⟩
theorem hv_X4_readSum : hVirt MX4_readSum 4 := ⟨UW_of (List.mem_of_getElem? (i := 713) (by decide +kernel)) rfl, UW_of (List.mem_of_getElem? (i := 10) (by decide +kernel)) rfl, ⟨_, _, rfl⟩, by decide⟩
theorem ln_X4_130 : hLnk RX4 130 yX4_readPart := Or.inl (UW_of (List.mem_of_getElem? (i := 715) (by decide +kernel)) rfl)
abbrev MX4_readPart : MI := (yX4_readPart, cX4_readPart, 4, (Option.some Jvm.ClassFile.FieldType.boolean))
theorem hm_X4_readPart : hMeth MX4_readPart 1 := ⟨UW_of (List.mem_of_getElem? (i := 718) (by decide +kernel)) rfl, UW_of (List.mem_of_getElem? (i := 100) (by decide +kernel)) rfl, ⟨by decide +kernel, by decide +kernel⟩, by decide +kernel, by decide⟩
theorem hv_X4_readPart : hVirt MX4_readPart 4 := ⟨UW_of (List.mem_of_getElem? (i := 717) (by decide +kernel)) rfl, UW_of (List.mem_of_getElem? (i := 11) (by decide +kernel)) rfl, ⟨_, _, rfl⟩, by decide⟩
theorem lk_X4_39 : LK RX4 39 TX4 5 := Or.inl (UW_of (List.mem_of_getElem? (i := 310) (by decide +kernel)) rfl)
theorem lk_X4_28 : LK RX4 28 TX4 6 := Or.inl (UW_of (List.mem_of_getElem? (i := 311) (by decide +kernel)) rfl)
theorem ln_X4_133 : hLnk RX4 133 yX4_readLawWord := Or.inl (UW_of (List.mem_of_getElem? (i := 720) (by decide +kernel)) rfl)
theorem ln_X4_136 : hLnk RX4 136 yX4_readOrderWord := Or.inl (UW_of (List.mem_of_getElem? (i := 724) (by decide +kernel)) rfl)
abbrev MX4_readSumBehind : MI := (yX4_readSumBehind, cX4_readSumBehind, 3, (Option.some Jvm.ClassFile.FieldType.boolean))
theorem hm_X4_readSumBehind : hMeth MX4_readSumBehind 2 := ⟨UW_of (List.mem_of_getElem? (i := 702) (by decide +kernel)) rfl, UW_of (List.mem_of_getElem? (i := 100) (by decide +kernel)) rfl, ⟨by decide +kernel, by decide +kernel⟩, by decide +kernel, by decide⟩
theorem hv_X4_readSumBehind : hVirt MX4_readSumBehind 4 := ⟨UW_of (List.mem_of_getElem? (i := 701) (by decide +kernel)) rfl, UW_of (List.mem_of_getElem? (i := 9) (by decide +kernel)) rfl, ⟨_, _, rfl⟩, by decide⟩
theorem ln_X4_100 : hLnk RX4 100 yX6_beginPlace := Or.inl (UW_of (List.mem_of_getElem? (i := 703) (by decide +kernel)) rfl)
abbrev MX4_readLaw : MI := (yX4_readLaw, cX4_readLaw, 2, (Option.some Jvm.ClassFile.FieldType.boolean))
theorem hm_X4_readLaw : hMeth MX4_readLaw 1 := ⟨UW_of (List.mem_of_getElem? (i := 694) (by decide +kernel)) rfl, UW_of (List.mem_of_getElem? (i := 100) (by decide +kernel)) rfl, ⟨by decide +kernel, by decide +kernel⟩, by decide +kernel, by decide⟩
theorem hv_X4_readLaw : hVirt MX4_readLaw 4 := ⟨UW_of (List.mem_of_getElem? (i := 693) (by decide +kernel)) rfl, UW_of (List.mem_of_getElem? (i := 7) (by decide +kernel)) rfl, ⟨_, _, rfl⟩, by decide⟩
theorem ln_X4_107 : hLnk RX4 107 yX4_readSumBehind := Or.inl (UW_of (List.mem_of_getElem? (i := 699) (by decide +kernel)) rfl)
abbrev MX6_setTimes : MI := (yX6_setTimes, cX6_setTimes, 2, none)
theorem hm_X6_setTimes : hMeth MX6_setTimes 1 := ⟨UW_of (List.mem_of_getElem? (i := 740) (by decide +kernel)) rfl, UW_of (List.mem_of_getElem? (i := 101) (by decide +kernel)) rfl, ⟨by decide +kernel, by decide +kernel⟩, by decide +kernel, by decide⟩
theorem hv_X6_setTimes : hVirt MX6_setTimes 6 := ⟨UW_of (List.mem_of_getElem? (i := 738) (by decide +kernel)) rfl, UW_of (List.mem_of_getElem? (i := 739) (by decide +kernel)) rfl, ⟨_, _, rfl⟩, by decide⟩
abbrev MX4_readTimes : MI := (yX4_readTimes, cX4_readTimes, 2, (Option.some Jvm.ClassFile.FieldType.boolean))
theorem hm_X4_readTimes : hMeth MX4_readTimes 0 := ⟨UW_of (List.mem_of_getElem? (i := 735) (by decide +kernel)) rfl, UW_of (List.mem_of_getElem? (i := 100) (by decide +kernel)) rfl, ⟨by decide +kernel, by decide +kernel⟩, by decide +kernel, by decide⟩
theorem hv_X4_readTimes : hVirt MX4_readTimes 4 := ⟨UW_of (List.mem_of_getElem? (i := 734) (by decide +kernel)) rfl, UW_of (List.mem_of_getElem? (i := 15) (by decide +kernel)) rfl, ⟨_, _, rfl⟩, by decide⟩
theorem ln_X4_113 : hLnk RX4 113 yX8_within := Or.inr ⟨"HyphenWar", UW_of (List.mem_of_getElem? (i := 736) (by decide +kernel)) rfl⟩
theorem ln_X4_117 : hLnk RX4 117 yX6_setTimes := Or.inl (UW_of (List.mem_of_getElem? (i := 737) (by decide +kernel)) rfl)
abbrev MX4_readOrder : MI := (yX4_readOrder, cX4_readOrder, 3, (Option.some Jvm.ClassFile.FieldType.boolean))
theorem hm_X4_readOrder : hMeth MX4_readOrder 1 := ⟨UW_of (List.mem_of_getElem? (i := 731) (by decide +kernel)) rfl, UW_of (List.mem_of_getElem? (i := 100) (by decide +kernel)) rfl, ⟨by decide +kernel, by decide +kernel⟩, by decide +kernel, by decide⟩
theorem hv_X4_readOrder : hVirt MX4_readOrder 4 := ⟨UW_of (List.mem_of_getElem? (i := 730) (by decide +kernel)) rfl, UW_of (List.mem_of_getElem? (i := 14) (by decide +kernel)) rfl, ⟨_, _, rfl⟩, by decide⟩
theorem ln_X4_110 : hLnk RX4 110 yX4_readTimes := Or.inl (UW_of (List.mem_of_getElem? (i := 732) (by decide +kernel)) rfl)
abbrev MX4_readClause : MI := (yX4_readClause, cX4_readClause, 3, (Option.some Jvm.ClassFile.FieldType.boolean))
theorem hm_X4_readClause : hMeth MX4_readClause 0 := ⟨UW_of (List.mem_of_getElem? (i := 686) (by decide +kernel)) rfl, UW_of (List.mem_of_getElem? (i := 100) (by decide +kernel)) rfl, ⟨by decide +kernel, by decide +kernel⟩, by decide +kernel, by decide⟩
theorem hv_X4_readClause : hVirt MX4_readClause 4 := ⟨UW_of (List.mem_of_getElem? (i := 685) (by decide +kernel)) rfl, UW_of (List.mem_of_getElem? (i := 6) (by decide +kernel)) rfl, ⟨_, _, rfl⟩, by decide⟩
theorem ln_X4_90 : hLnk RX4 90 yX6_beginClause := Or.inl (UW_of (List.mem_of_getElem? (i := 687) (by decide +kernel)) rfl)
theorem ln_X4_94 : hLnk RX4 94 yX4_readLaw := Or.inl (UW_of (List.mem_of_getElem? (i := 691) (by decide +kernel)) rfl)
theorem ln_X4_97 : hLnk RX4 97 yX4_readOrder := Or.inl (UW_of (List.mem_of_getElem? (i := 728) (by decide +kernel)) rfl)
abbrev MX4_readText : MI := (yX4_readText, cX4_readText, 6, (Option.some Jvm.ClassFile.FieldType.int))
theorem hm_X4_readText : hMeth MX4_readText 3 := ⟨UW_of (List.mem_of_getElem? (i := 611) (by decide +kernel)) rfl, UW_of (List.mem_of_getElem? (i := 100) (by decide +kernel)) rfl, ⟨by decide +kernel, by decide +kernel⟩, by decide +kernel, by decide⟩
theorem hv_X4_readText : hVirt MX4_readText 4 := ⟨UW_of (List.mem_of_getElem? (i := 609) (by decide +kernel)) rfl, UW_of (List.mem_of_getElem? (i := 610) (by decide +kernel)) rfl, ⟨_, _, rfl⟩, by decide⟩
theorem ln_X4_42 : hLnk RX4 42 yX6_clear := Or.inl (UW_of (List.mem_of_getElem? (i := 612) (by decide +kernel)) rfl)
theorem ln_X4_45 : hLnk RX4 45 yX4_splitTape := Or.inl (UW_of (List.mem_of_getElem? (i := 616) (by decide +kernel)) rfl)
theorem ln_X4_49 : hLnk RX4 49 yX4_readClause := Or.inl (UW_of (List.mem_of_getElem? (i := 683) (by decide +kernel)) rfl)
abbrev MX5_init : MI := (yX5_init, cX5_init, 1, none)
theorem hm_X5_init : hMeth MX5_init 0 := ⟨UW_of (List.mem_of_getElem? (i := 226) (by decide +kernel)) rfl, UW_of (List.mem_of_getElem? (i := 98) (by decide +kernel)) rfl, ⟨by decide +kernel, by decide +kernel⟩, by decide +kernel, by decide⟩
theorem hi_X5_init : Cond.instanceMethod MX5_init.1 ∈ UW := UW_of (List.mem_of_getElem? (i := 225) (by decide +kernel)) rfl
theorem ln_X5_3 : Cond.methodLink RX5 3 objectInit ∈ UW := UW_of (List.mem_of_getElem? (i := 227) (by decide +kernel)) rfl
theorem lkm_X5_9 : Cond.fieldLink RX5 9 (TX5 0).1 (TX5 0).2.1 (TX5 0).2.2.1 ∈ UW := UW_of (List.mem_of_getElem? (i := 228) (by decide +kernel)) rfl
theorem lkm_X5_15 : Cond.fieldLink RX5 15 (TX5 1).1 (TX5 1).2.1 (TX5 1).2.2.1 ∈ UW := UW_of (List.mem_of_getElem? (i := 229) (by decide +kernel)) rfl
abbrev MX5_setOrderWords : MI := (yX5_setOrderWords, cX5_setOrderWords, 5, none)
theorem hm_X5_setOrderWords : hMeth MX5_setOrderWords 3 := ⟨UW_of (List.mem_of_getElem? (i := 778) (by decide +kernel)) rfl, UW_of (List.mem_of_getElem? (i := 98) (by decide +kernel)) rfl, ⟨by decide +kernel, by decide +kernel⟩, by decide +kernel, by decide⟩
theorem hv_X5_setOrderWords : hVirt MX5_setOrderWords 5 := ⟨UW_of (List.mem_of_getElem? (i := 776) (by decide +kernel)) rfl, UW_of (List.mem_of_getElem? (i := 777) (by decide +kernel)) rfl, ⟨_, _, rfl⟩, by decide⟩
abbrev MX6_init_ : MI := (yX6_init_, cX6_init_, 2, none)
theorem hm_X6_init_ : hMeth MX6_init_ 1 := ⟨UW_of (List.mem_of_getElem? (i := 752) (by decide +kernel)) rfl, UW_of (List.mem_of_getElem? (i := 101) (by decide +kernel)) rfl, ⟨by decide +kernel, by decide +kernel⟩, by decide +kernel, by decide⟩
theorem hi_X6_init_ : Cond.instanceMethod MX6_init_.1 ∈ UW := UW_of (List.mem_of_getElem? (i := 751) (by decide +kernel)) rfl
theorem ln_X6_31 : Cond.methodLink RX6 31 arraycopyName ∈ UW := UW_of (List.mem_of_getElem? (i := 753) (by decide +kernel)) rfl
abbrev MX7_init : MI := (yX7_init, cX7_init, 2, none)
theorem hm_X7_init : hMeth MX7_init 1 := ⟨UW_of (List.mem_of_getElem? (i := 220) (by decide +kernel)) rfl, UW_of (List.mem_of_getElem? (i := 97) (by decide +kernel)) rfl, ⟨by decide +kernel, by decide +kernel⟩, by decide +kernel, by decide⟩
theorem hi_X7_init : Cond.instanceMethod MX7_init.1 ∈ UW := UW_of (List.mem_of_getElem? (i := 219) (by decide +kernel)) rfl
theorem ln_X7_3 : Cond.methodLink RX7 3 objectInit ∈ UW := UW_of (List.mem_of_getElem? (i := 221) (by decide +kernel)) rfl
theorem cl_X7_9 : Cond.classLink RX7 9 RX5 ∈ UW := UW_of (List.mem_of_getElem? (i := 222) (by decide +kernel)) rfl
theorem ln_X7_11 : hLnk RX7 11 yX5_init := Or.inr ⟨"HyphenWar", UW_of (List.mem_of_getElem? (i := 224) (by decide +kernel)) rfl⟩
theorem lkm_X7_12 : Cond.fieldLink RX7 12 (TX7 1).1 (TX7 1).2.1 (TX7 1).2.2.1 ∈ UW := UW_of (List.mem_of_getElem? (i := 238) (by decide +kernel)) rfl
theorem lkm_X7_18 : Cond.fieldLink RX7 18 (TX7 0).1 (TX7 0).2.1 (TX7 0).2.2.1 ∈ UW := UW_of (List.mem_of_getElem? (i := 237) (by decide +kernel)) rfl
abbrev MX7_feedOf : MI := (yX7_feedOf, cX7_feedOf, 4, (Option.some Jvm.ClassFile.FieldType.int))
theorem hm_X7_feedOf : hMeth MX7_feedOf 2 := ⟨UW_of (List.mem_of_getElem? (i := 526) (by decide +kernel)) rfl, UW_of (List.mem_of_getElem? (i := 97) (by decide +kernel)) rfl, ⟨by decide +kernel, by decide +kernel⟩, by decide +kernel, by decide⟩
theorem hv_X7_feedOf : hVirt MX7_feedOf 7 := ⟨UW_of (List.mem_of_getElem? (i := 524) (by decide +kernel)) rfl, UW_of (List.mem_of_getElem? (i := 525) (by decide +kernel)) rfl, ⟨_, _, rfl⟩, by decide⟩
theorem ln_X7_56 : hLnk RX7 56 yX1_menOf := Or.inl (UW_of (List.mem_of_getElem? (i := 527) (by decide +kernel)) rfl)
abbrev MX8_isSide : MI := (yX8_isSide, cX8_isSide, 1, (Option.some Jvm.ClassFile.FieldType.boolean))
theorem hm_X8_isSide : hMeth MX8_isSide 1 := ⟨UW_of (List.mem_of_getElem? (i := 418) (by decide +kernel)) rfl, UW_of (List.mem_of_getElem? (i := 94) (by decide +kernel)) rfl, ⟨by decide +kernel, by decide +kernel⟩, by decide +kernel, by decide⟩
theorem hs_X8_isSide : Cond.static MX8_isSide.1 ∈ UW := UW_of (List.mem_of_getElem? (i := 417) (by decide +kernel)) rfl
abbrev MX8_isColumn : MI := (yX8_isColumn, cX8_isColumn, 1, (Option.some Jvm.ClassFile.FieldType.boolean))
theorem hm_X8_isColumn : hMeth MX8_isColumn 1 := ⟨UW_of (List.mem_of_getElem? (i := 424) (by decide +kernel)) rfl, UW_of (List.mem_of_getElem? (i := 94) (by decide +kernel)) rfl, ⟨by decide +kernel, by decide +kernel⟩, by decide +kernel, by decide⟩
theorem hs_X8_isColumn : Cond.static MX8_isColumn.1 ∈ UW := UW_of (List.mem_of_getElem? (i := 423) (by decide +kernel)) rfl
abbrev MX7_doAttack : MI := (yX7_doAttack, cX7_doAttack, 9, (Option.some Jvm.ClassFile.FieldType.int))
theorem hm_X7_doAttack : hMeth MX7_doAttack 3 := ⟨UW_of (List.mem_of_getElem? (i := 788) (by decide +kernel)) rfl, UW_of (List.mem_of_getElem? (i := 97) (by decide +kernel)) rfl, ⟨by decide +kernel, by decide +kernel⟩, by decide +kernel, by decide⟩
theorem hv_X7_doAttack : hVirt MX7_doAttack 7 := ⟨UW_of (List.mem_of_getElem? (i := 786) (by decide +kernel)) rfl, UW_of (List.mem_of_getElem? (i := 787) (by decide +kernel)) rfl, ⟨_, _, rfl⟩, by decide⟩
theorem ln_X7_68 : hLnk RX7 68 yX8_isSide := Or.inr ⟨"HyphenWar", UW_of (List.mem_of_getElem? (i := 789) (by decide +kernel)) rfl⟩
theorem ln_X7_72 : hLnk RX7 72 yX8_isColumn := Or.inr ⟨"HyphenWar", UW_of (List.mem_of_getElem? (i := 790) (by decide +kernel)) rfl⟩
theorem ln_X7_75 : hLnk RX7 75 yX1_menAt := Or.inl (UW_of (List.mem_of_getElem? (i := 791) (by decide +kernel)) rfl)
theorem ln_X7_78 : hLnk RX7 78 yX7_isBarred := Or.inl (UW_of (List.mem_of_getElem? (i := 792) (by decide +kernel)) rfl)
theorem ln_X7_82 : hLnk RX7 82 yX7_costOf := Or.inl (UW_of (List.mem_of_getElem? (i := 793) (by decide +kernel)) rfl)
theorem ln_X7_86 : hLnk RX7 86 yX1_supplyOf := Or.inl (UW_of (List.mem_of_getElem? (i := 794) (by decide +kernel)) rfl)
theorem ln_X7_89 : hLnk RX7 89 yX1_setSupply := Or.inl (UW_of (List.mem_of_getElem? (i := 795) (by decide +kernel)) rfl)
theorem ln_X7_93 : hLnk RX7 93 yX1_isStronger := Or.inl (UW_of (List.mem_of_getElem? (i := 800) (by decide +kernel)) rfl)
theorem ln_X7_97 : hLnk RX7 97 yX1_canGoOn := Or.inl (UW_of (List.mem_of_getElem? (i := 804) (by decide +kernel)) rfl)
theorem ln_X7_100 : hLnk RX7 100 yX1_setMen := Or.inl (UW_of (List.mem_of_getElem? (i := 809) (by decide +kernel)) rfl)
theorem ln_X7_104 : hLnk RX7 104 yX1_lineAt := Or.inl (UW_of (List.mem_of_getElem? (i := 810) (by decide +kernel)) rfl)
theorem ln_X7_107 : hLnk RX7 107 yX1_setLine := Or.inl (UW_of (List.mem_of_getElem? (i := 811) (by decide +kernel)) rfl)
abbrev MX7_doShift : MI := (yX7_doShift, cX7_doShift, 8, (Option.some Jvm.ClassFile.FieldType.int))
theorem hm_X7_doShift : hMeth MX7_doShift 4 := ⟨UW_of (List.mem_of_getElem? (i := 818) (by decide +kernel)) rfl, UW_of (List.mem_of_getElem? (i := 97) (by decide +kernel)) rfl, ⟨by decide +kernel, by decide +kernel⟩, by decide +kernel, by decide⟩
theorem hv_X7_doShift : hVirt MX7_doShift 7 := ⟨UW_of (List.mem_of_getElem? (i := 816) (by decide +kernel)) rfl, UW_of (List.mem_of_getElem? (i := 817) (by decide +kernel)) rfl, ⟨_, _, rfl⟩, by decide⟩
theorem ln_X7_110 : hLnk RX7 110 yX8_within := Or.inr ⟨"HyphenWar", UW_of (List.mem_of_getElem? (i := 819) (by decide +kernel)) rfl⟩
theorem ln_X7_114 : hLnk RX7 114 yJ9_abs_0f7a4 := Or.inl (UW_of (List.mem_of_getElem? (i := 820) (by decide +kernel)) rfl)
abbrev MX7_doShow : MI := (yX7_doShow, cX7_doShow, 7, (Option.some Jvm.ClassFile.FieldType.int))
theorem hm_X7_doShow : hMeth MX7_doShow 3 := ⟨UW_of (List.mem_of_getElem? (i := 826) (by decide +kernel)) rfl, UW_of (List.mem_of_getElem? (i := 97) (by decide +kernel)) rfl, ⟨by decide +kernel, by decide +kernel⟩, by decide +kernel, by decide⟩
theorem hv_X7_doShow : hVirt MX7_doShow 7 := ⟨UW_of (List.mem_of_getElem? (i := 824) (by decide +kernel)) rfl, UW_of (List.mem_of_getElem? (i := 825) (by decide +kernel)) rfl, ⟨_, _, rfl⟩, by decide⟩
theorem ln_X7_117 : hLnk RX7 117 yX8_isSign := Or.inr ⟨"HyphenWar", UW_of (List.mem_of_getElem? (i := 827) (by decide +kernel)) rfl⟩
theorem ln_X7_120 : hLnk RX7 120 yX1_temperOf := Or.inl (UW_of (List.mem_of_getElem? (i := 828) (by decide +kernel)) rfl)
theorem ln_X7_123 : hLnk RX7 123 yX7_readingOf := Or.inl (UW_of (List.mem_of_getElem? (i := 829) (by decide +kernel)) rfl)
theorem ln_X7_127 : hLnk RX7 127 yX1_setTemper := Or.inl (UW_of (List.mem_of_getElem? (i := 830) (by decide +kernel)) rfl)
theorem lk_X7_130 : LK RX7 130 TX0 2 := Or.inr ⟨"HyphenWar", UW_of (List.mem_of_getElem? (i := 147) (by decide +kernel)) rfl⟩
abbrev MX7_doPass : MI := (yX7_doPass, cX7_doPass, 4, (Option.some Jvm.ClassFile.FieldType.int))
theorem hm_X7_doPass : hMeth MX7_doPass 1 := ⟨UW_of (List.mem_of_getElem? (i := 838) (by decide +kernel)) rfl, UW_of (List.mem_of_getElem? (i := 97) (by decide +kernel)) rfl, ⟨by decide +kernel, by decide +kernel⟩, by decide +kernel, by decide⟩
theorem hv_X7_doPass : hVirt MX7_doPass 7 := ⟨UW_of (List.mem_of_getElem? (i := 836) (by decide +kernel)) rfl, UW_of (List.mem_of_getElem? (i := 837) (by decide +kernel)) rfl, ⟨_, _, rfl⟩, by decide⟩
theorem ln_X7_133 : hLnk RX7 133 yX1_theDay := Or.inl (UW_of (List.mem_of_getElem? (i := 839) (by decide +kernel)) rfl)
theorem ln_X7_137 : hLnk RX7 137 yX7_feedOf := Or.inl (UW_of (List.mem_of_getElem? (i := 840) (by decide +kernel)) rfl)
theorem ln_X7_141 : hLnk RX7 141 yX1_setDay := Or.inl (UW_of (List.mem_of_getElem? (i := 841) (by decide +kernel)) rfl)
abbrev MX7_nextDraw : MI := (yX7_nextDraw, cX7_nextDraw, 1, (Option.some Jvm.ClassFile.FieldType.int))
theorem hm_X7_nextDraw : hMeth MX7_nextDraw 1 := ⟨UW_of (List.mem_of_getElem? (i := 1085) (by decide +kernel)) rfl, UW_of (List.mem_of_getElem? (i := 97) (by decide +kernel)) rfl, ⟨by decide +kernel, by decide +kernel⟩, by decide +kernel, by decide⟩
theorem hs_X7_nextDraw : Cond.static MX7_nextDraw.1 ∈ UW := UW_of (List.mem_of_getElem? (i := 1084) (by decide +kernel)) rfl
theorem cn_X7_158 : Cond.constantLong RX7 158 (1103) ∈ UW := UW_of (List.mem_of_getElem? (i := 1086) (by decide +kernel)) rfl
theorem cn_X7_160 : Cond.constantLong RX7 160 (12345) ∈ UW := UW_of (List.mem_of_getElem? (i := 1087) (by decide +kernel)) rfl
theorem cn_X7_162 : Cond.constantLong RX7 162 (1000003) ∈ UW := UW_of (List.mem_of_getElem? (i := 1088) (by decide +kernel)) rfl
abbrev MX7_runDecades : MI := (yX7_runDecades, cX7_runDecades, 10, (Option.some Jvm.ClassFile.FieldType.int))
theorem hm_X7_runDecades : hMeth MX7_runDecades 3 := ⟨UW_of (List.mem_of_getElem? (i := 1082) (by decide +kernel)) rfl, UW_of (List.mem_of_getElem? (i := 97) (by decide +kernel)) rfl, ⟨by decide +kernel, by decide +kernel⟩, by decide +kernel, by decide⟩
