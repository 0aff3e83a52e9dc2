abbrev MX9_leaf : MI := (yX9_leaf, cX9_leaf, 4, none)
theorem hm_X9_leaf : hMeth MX9_leaf 3 := ⟨UW_of (List.mem_of_getElem? (i := 1529) (by decide +kernel)) rfl, UW_of (List.mem_of_getElem? (i := 103) (by decide +kernel)) rfl, ⟨by decide +kernel, by decide +kernel⟩, by decide +kernel, by decide⟩
theorem hv_X9_leaf : hVirt MX9_leaf 9 := ⟨UW_of (List.mem_of_getElem? (i := 1528) (by decide +kernel)) rfl, UW_of (List.mem_of_getElem? (i := 56) (by decide +kernel)) rfl, ⟨_, _, rfl⟩, by decide⟩
theorem lk_X9_287 : LK RX9 287 TX9 26 := Or.inl (UW_of (List.mem_of_getElem? (i := 1170) (by decide +kernel)) rfl)
abbrev MX9_readPart : MI := (yX9_readPart, cX9_readPart, 4, (Option.some Jvm.ClassFile.FieldType.int))
theorem hm_X9_readPart : hMeth MX9_readPart 0 := ⟨UW_of (List.mem_of_getElem? (i := 1516) (by decide +kernel)) rfl, UW_of (List.mem_of_getElem? (i := 103) (by decide +kernel)) rfl, ⟨by decide +kernel, by decide +kernel⟩, by decide +kernel, by decide⟩
theorem hv_X9_readPart : hVirt MX9_readPart 9 := ⟨UW_of (List.mem_of_getElem? (i := 1515) (by decide +kernel)) rfl, UW_of (List.mem_of_getElem? (i := 53) (by decide +kernel)) rfl, ⟨_, _, rfl⟩, by decide⟩
theorem ln_X9_290 : hLnk RX9 290 yX9_isSign := Or.inl (UW_of (List.mem_of_getElem? (i := 1505) (by decide +kernel)) rfl)
theorem ln_X9_293 : hLnk RX9 293 yX9_openBracket := Or.inl (UW_of (List.mem_of_getElem? (i := 1509) (by decide +kernel)) rfl)
theorem ln_X9_299 : hLnk RX9 299 yX9_orderPartAt := Or.inl (UW_of (List.mem_of_getElem? (i := 1517) (by decide +kernel)) rfl)
theorem ln_X9_303 : hLnk RX9 303 yX9_partAt := Or.inl (UW_of (List.mem_of_getElem? (i := 1521) (by decide +kernel)) rfl)
theorem cn_X9_306 : Cond.constantLong RX9 306 (1000) ∈ UW := UW_of (List.mem_of_getElem? (i := 1525) (by decide +kernel)) rfl
theorem ln_X9_308 : hLnk RX9 308 yX9_leaf := Or.inl (UW_of (List.mem_of_getElem? (i := 1526) (by decide +kernel)) rfl)
theorem ln_X9_312 : hLnk RX9 312 yX9_number := Or.inl (UW_of (List.mem_of_getElem? (i := 1534) (by decide +kernel)) rfl)
abbrev MX9_readPlain : MI := (yX9_readPlain, cX9_readPlain, 1, (Option.some Jvm.ClassFile.FieldType.int))
theorem hm_X9_readPlain : hMeth MX9_readPlain 0 := ⟨UW_of (List.mem_of_getElem? (i := 1499) (by decide +kernel)) rfl, UW_of (List.mem_of_getElem? (i := 103) (by decide +kernel)) rfl, ⟨by decide +kernel, by decide +kernel⟩, by decide +kernel, by decide⟩
theorem hv_X9_readPlain : hVirt MX9_readPlain 9 := ⟨UW_of (List.mem_of_getElem? (i := 1498) (by decide +kernel)) rfl, UW_of (List.mem_of_getElem? (i := 49) (by decide +kernel)) rfl, ⟨_, _, rfl⟩, by decide⟩
theorem cn_X9_316 : Cond.constantLong RX9 316 (14836) ∈ UW := UW_of (List.mem_of_getElem? (i := 1500) (by decide +kernel)) rfl
theorem ln_X9_318 : hLnk RX9 318 yX9_readPart := Or.inl (UW_of (List.mem_of_getElem? (i := 1513) (by decide +kernel)) rfl)
abbrev MX9_behindSum : MI := (yX9_behindSum, cX9_behindSum, 4, (Option.some Jvm.ClassFile.FieldType.int))
theorem hm_X9_behindSum : hMeth MX9_behindSum 1 := ⟨UW_of (List.mem_of_getElem? (i := 1541) (by decide +kernel)) rfl, UW_of (List.mem_of_getElem? (i := 103) (by decide +kernel)) rfl, ⟨by decide +kernel, by decide +kernel⟩, by decide +kernel, by decide⟩
theorem hv_X9_behindSum : hVirt MX9_behindSum 9 := ⟨UW_of (List.mem_of_getElem? (i := 1540) (by decide +kernel)) rfl, UW_of (List.mem_of_getElem? (i := 59) (by decide +kernel)) rfl, ⟨_, _, rfl⟩, by decide⟩
theorem ln_X9_321 : hLnk RX9 321 yX9_settle := Or.inl (UW_of (List.mem_of_getElem? (i := 1545) (by decide +kernel)) rfl)
theorem ln_X9_324 : hLnk RX9 324 yX9_inner := Or.inl (UW_of (List.mem_of_getElem? (i := 1549) (by decide +kernel)) rfl)
theorem ln_X9_327 : hLnk RX9 327 yX9_isCompared := Or.inl (UW_of (List.mem_of_getElem? (i := 1553) (by decide +kernel)) rfl)
abbrev MX9_behindTest : MI := (yX9_behindTest, cX9_behindTest, 2, (Option.some Jvm.ClassFile.FieldType.int))
theorem hm_X9_behindTest : hMeth MX9_behindTest 0 := ⟨UW_of (List.mem_of_getElem? (i := 1563) (by decide +kernel)) rfl, UW_of (List.mem_of_getElem? (i := 103) (by decide +kernel)) rfl, ⟨by decide +kernel, by decide +kernel⟩, by decide +kernel, by decide⟩
theorem hv_X9_behindTest : hVirt MX9_behindTest 9 := ⟨UW_of (List.mem_of_getElem? (i := 1562) (by decide +kernel)) rfl, UW_of (List.mem_of_getElem? (i := 63) (by decide +kernel)) rfl, ⟨_, _, rfl⟩, by decide⟩
theorem cn_X9_331 : Cond.constantLong RX9 331 (1476) ∈ UW := UW_of (List.mem_of_getElem? (i := 1564) (by decide +kernel)) rfl
theorem cn_X9_333 : Cond.constantLong RX9 333 (498) ∈ UW := UW_of (List.mem_of_getElem? (i := 1565) (by decide +kernel)) rfl
abbrev MX9_readExpression : MI := (yX9_readExpression, cX9_readExpression, 3, none)
theorem hm_X9_readExpression : hMeth MX9_readExpression 1 := ⟨UW_of (List.mem_of_getElem? (i := 1495) (by decide +kernel)) rfl, UW_of (List.mem_of_getElem? (i := 103) (by decide +kernel)) rfl, ⟨by decide +kernel, by decide +kernel⟩, by decide +kernel, by decide⟩
theorem hv_X9_readExpression : hVirt MX9_readExpression 9 := ⟨UW_of (List.mem_of_getElem? (i := 1494) (by decide +kernel)) rfl, UW_of (List.mem_of_getElem? (i := 48) (by decide +kernel)) rfl, ⟨_, _, rfl⟩, by decide⟩
theorem ln_X9_335 : hLnk RX9 335 yX9_readPlain := Or.inl (UW_of (List.mem_of_getElem? (i := 1496) (by decide +kernel)) rfl)
theorem ln_X9_338 : hLnk RX9 338 yX9_behindSum := Or.inl (UW_of (List.mem_of_getElem? (i := 1538) (by decide +kernel)) rfl)
theorem ln_X9_342 : hLnk RX9 342 yX9_behindTest := Or.inl (UW_of (List.mem_of_getElem? (i := 1560) (by decide +kernel)) rfl)
abbrev MX9_beginText : MI := (yX9_beginText, cX9_beginText, 2, none)
theorem hm_X9_beginText : hMeth MX9_beginText 1 := ⟨UW_of (List.mem_of_getElem? (i := 1461) (by decide +kernel)) rfl, UW_of (List.mem_of_getElem? (i := 103) (by decide +kernel)) rfl, ⟨by decide +kernel, by decide +kernel⟩, by decide +kernel, by decide⟩
theorem hv_X9_beginText : hVirt MX9_beginText 9 := ⟨UW_of (List.mem_of_getElem? (i := 1460) (by decide +kernel)) rfl, UW_of (List.mem_of_getElem? (i := 42) (by decide +kernel)) rfl, ⟨_, _, rfl⟩, by decide⟩
theorem ln_X9_345 : hLnk RX9 345 yX9_begin := Or.inl (UW_of (List.mem_of_getElem? (i := 1462) (by decide +kernel)) rfl)
theorem lk_X9_348 : LK RX9 348 TX9 21 := Or.inl (UW_of (List.mem_of_getElem? (i := 1165) (by decide +kernel)) rfl)
abbrev MX9_endText : MI := (yX9_endText, cX9_endText, 1, none)
theorem hm_X9_endText : hMeth MX9_endText 0 := ⟨UW_of (List.mem_of_getElem? (i := 1570) (by decide +kernel)) rfl, UW_of (List.mem_of_getElem? (i := 103) (by decide +kernel)) rfl, ⟨by decide +kernel, by decide +kernel⟩, by decide +kernel, by decide⟩
theorem hv_X9_endText : hVirt MX9_endText 9 := ⟨UW_of (List.mem_of_getElem? (i := 1569) (by decide +kernel)) rfl, UW_of (List.mem_of_getElem? (i := 64) (by decide +kernel)) rfl, ⟨_, _, rfl⟩, by decide⟩
abbrev MX9_readLaw : MI := (yX9_readLaw, cX9_readLaw, 4, none)
theorem hm_X9_readLaw : hMeth MX9_readLaw 0 := ⟨UW_of (List.mem_of_getElem? (i := 1483) (by decide +kernel)) rfl, UW_of (List.mem_of_getElem? (i := 103) (by decide +kernel)) rfl, ⟨by decide +kernel, by decide +kernel⟩, by decide +kernel, by decide⟩
theorem hv_X9_readLaw : hVirt MX9_readLaw 9 := ⟨UW_of (List.mem_of_getElem? (i := 1482) (by decide +kernel)) rfl, UW_of (List.mem_of_getElem? (i := 45) (by decide +kernel)) rfl, ⟨_, _, rfl⟩, by decide⟩
theorem ln_X9_351 : hLnk RX9 351 yX9_readExpression := Or.inl (UW_of (List.mem_of_getElem? (i := 1492) (by decide +kernel)) rfl)
theorem cn_X9_354 : Cond.constantLong RX9 354 (294) ∈ UW := UW_of (List.mem_of_getElem? (i := 1566) (by decide +kernel)) rfl
abbrev MX9_law : MI := (yX9_law, cX9_law, 3, (Option.some Jvm.ClassFile.FieldType.int))
theorem hm_X9_law : hMeth MX9_law 0 := ⟨UW_of (List.mem_of_getElem? (i := 1457) (by decide +kernel)) rfl, UW_of (List.mem_of_getElem? (i := 103) (by decide +kernel)) rfl, ⟨by decide +kernel, by decide +kernel⟩, by decide +kernel, by decide⟩
theorem hv_X9_law : hVirt MX9_law 9 := ⟨UW_of (List.mem_of_getElem? (i := 1455) (by decide +kernel)) rfl, UW_of (List.mem_of_getElem? (i := 1456) (by decide +kernel)) rfl, ⟨_, _, rfl⟩, by decide⟩
theorem ln_X9_356 : hLnk RX9 356 yX9_beginText := Or.inl (UW_of (List.mem_of_getElem? (i := 1458) (by decide +kernel)) rfl)
theorem ln_X9_359 : hLnk RX9 359 yX9_readLaw := Or.inl (UW_of (List.mem_of_getElem? (i := 1480) (by decide +kernel)) rfl)
theorem ln_X9_362 : hLnk RX9 362 yX9_endText := Or.inl (UW_of (List.mem_of_getElem? (i := 1567) (by decide +kernel)) rfl)
abbrev MX9_isLaw : MI := (yX9_isLaw, cX9_isLaw, 2, (Option.some Jvm.ClassFile.FieldType.boolean))
theorem hm_X9_isLaw : hMeth MX9_isLaw 1 := ⟨UW_of (List.mem_of_getElem? (i := 1578) (by decide +kernel)) rfl, UW_of (List.mem_of_getElem? (i := 103) (by decide +kernel)) rfl, ⟨by decide +kernel, by decide +kernel⟩, by decide +kernel, by decide⟩
theorem hv_X9_isLaw : hVirt MX9_isLaw 9 := ⟨UW_of (List.mem_of_getElem? (i := 1577) (by decide +kernel)) rfl, UW_of (List.mem_of_getElem? (i := 65) (by decide +kernel)) rfl, ⟨_, _, rfl⟩, by decide⟩
abbrev MX9_force : MI := (yX9_force, cX9_force, 2, (Option.some Jvm.ClassFile.FieldType.int))
theorem hm_X9_force : hMeth MX9_force 1 := ⟨UW_of (List.mem_of_getElem? (i := 1574) (by decide +kernel)) rfl, UW_of (List.mem_of_getElem? (i := 103) (by decide +kernel)) rfl, ⟨by decide +kernel, by decide +kernel⟩, by decide +kernel, by decide⟩
theorem hv_X9_force : hVirt MX9_force 9 := ⟨UW_of (List.mem_of_getElem? (i := 1572) (by decide +kernel)) rfl, UW_of (List.mem_of_getElem? (i := 1573) (by decide +kernel)) rfl, ⟨_, _, rfl⟩, by decide⟩
theorem ln_X9_365 : hLnk RX9 365 yX9_isLaw := Or.inl (UW_of (List.mem_of_getElem? (i := 1575) (by decide +kernel)) rfl)
abbrev MX9_canAttack : MI := (yX9_canAttack, cX9_canAttack, 3, (Option.some Jvm.ClassFile.FieldType.boolean))
theorem hm_X9_canAttack : hMeth MX9_canAttack 2 := ⟨UW_of (List.mem_of_getElem? (i := 1590) (by decide +kernel)) rfl, UW_of (List.mem_of_getElem? (i := 103) (by decide +kernel)) rfl, ⟨by decide +kernel, by decide +kernel⟩, by decide +kernel, by decide⟩
theorem hv_X9_canAttack : hVirt MX9_canAttack 9 := ⟨UW_of (List.mem_of_getElem? (i := 1589) (by decide +kernel)) rfl, UW_of (List.mem_of_getElem? (i := 67) (by decide +kernel)) rfl, ⟨_, _, rfl⟩, by decide⟩
abbrev MX9_canGoOn : MI := (yX9_canGoOn, cX9_canGoOn, 3, (Option.some Jvm.ClassFile.FieldType.boolean))
theorem hm_X9_canGoOn : hMeth MX9_canGoOn 2 := ⟨UW_of (List.mem_of_getElem? (i := 1606) (by decide +kernel)) rfl, UW_of (List.mem_of_getElem? (i := 103) (by decide +kernel)) rfl, ⟨by decide +kernel, by decide +kernel⟩, by decide +kernel, by decide⟩
theorem hv_X9_canGoOn : hVirt MX9_canGoOn 9 := ⟨UW_of (List.mem_of_getElem? (i := 1605) (by decide +kernel)) rfl, UW_of (List.mem_of_getElem? (i := 71) (by decide +kernel)) rfl, ⟨_, _, rfl⟩, by decide⟩
abbrev MX9_attackIt : MI := (yX9_attackIt, cX9_attackIt, 6, (Option.some Jvm.ClassFile.FieldType.int))
theorem hm_X9_attackIt : hMeth MX9_attackIt 2 := ⟨UW_of (List.mem_of_getElem? (i := 1602) (by decide +kernel)) rfl, UW_of (List.mem_of_getElem? (i := 103) (by decide +kernel)) rfl, ⟨by decide +kernel, by decide +kernel⟩, by decide +kernel, by decide⟩
theorem hv_X9_attackIt : hVirt MX9_attackIt 9 := ⟨UW_of (List.mem_of_getElem? (i := 1601) (by decide +kernel)) rfl, UW_of (List.mem_of_getElem? (i := 70) (by decide +kernel)) rfl, ⟨_, _, rfl⟩, by decide⟩
theorem ln_X9_406 : hLnk RX9 406 yX9_canGoOn := Or.inl (UW_of (List.mem_of_getElem? (i := 1603) (by decide +kernel)) rfl)
abbrev MX9_attackNow : MI := (yX9_attackNow, cX9_attackNow, 3, (Option.some Jvm.ClassFile.FieldType.int))
theorem hm_X9_attackNow : hMeth MX9_attackNow 2 := ⟨UW_of (List.mem_of_getElem? (i := 1586) (by decide +kernel)) rfl, UW_of (List.mem_of_getElem? (i := 103) (by decide +kernel)) rfl, ⟨by decide +kernel, by decide +kernel⟩, by decide +kernel, by decide⟩
theorem hv_X9_attackNow : hVirt MX9_attackNow 9 := ⟨UW_of (List.mem_of_getElem? (i := 1585) (by decide +kernel)) rfl, UW_of (List.mem_of_getElem? (i := 66) (by decide +kernel)) rfl, ⟨_, _, rfl⟩, by decide⟩
theorem ln_X9_409 : hLnk RX9 409 yX9_canAttack := Or.inl (UW_of (List.mem_of_getElem? (i := 1587) (by decide +kernel)) rfl)
theorem ln_X9_412 : hLnk RX9 412 yX9_remember := Or.inl (UW_of (List.mem_of_getElem? (i := 1591) (by decide +kernel)) rfl)
theorem ln_X9_415 : hLnk RX9 415 yX9_attackIt := Or.inl (UW_of (List.mem_of_getElem? (i := 1599) (by decide +kernel)) rfl)
abbrev MX9_attack : MI := (yX9_attack, cX9_attack, 3, (Option.some Jvm.ClassFile.FieldType.int))
theorem hm_X9_attack : hMeth MX9_attack 2 := ⟨UW_of (List.mem_of_getElem? (i := 1582) (by decide +kernel)) rfl, UW_of (List.mem_of_getElem? (i := 103) (by decide +kernel)) rfl, ⟨by decide +kernel, by decide +kernel⟩, by decide +kernel, by decide⟩
theorem hv_X9_attack : hVirt MX9_attack 9 := ⟨UW_of (List.mem_of_getElem? (i := 1580) (by decide +kernel)) rfl, UW_of (List.mem_of_getElem? (i := 1581) (by decide +kernel)) rfl, ⟨_, _, rfl⟩, by decide⟩
theorem ln_X9_418 : hLnk RX9 418 yX9_attackNow := Or.inl (UW_of (List.mem_of_getElem? (i := 1583) (by decide +kernel)) rfl)
abbrev MX9_shiftNow : MI := (yX9_shiftNow, cX9_shiftNow, 6, (Option.some Jvm.ClassFile.FieldType.int))
theorem hm_X9_shiftNow : hMeth MX9_shiftNow 3 := ⟨UW_of (List.mem_of_getElem? (i := 1614) (by decide +kernel)) rfl, UW_of (List.mem_of_getElem? (i := 103) (by decide +kernel)) rfl, ⟨by decide +kernel, by decide +kernel⟩, by decide +kernel, by decide⟩
theorem hv_X9_shiftNow : hVirt MX9_shiftNow 9 := ⟨UW_of (List.mem_of_getElem? (i := 1613) (by decide +kernel)) rfl, UW_of (List.mem_of_getElem? (i := 72) (by decide +kernel)) rfl, ⟨_, _, rfl⟩, by decide⟩
theorem cn_X9_421 : Cond.constantLong RX9 421 (-99) ∈ UW := UW_of (List.mem_of_getElem? (i := 1615) (by decide +kernel)) rfl
theorem ln_X9_423 : hLnk RX9 423 yX9_sizeOf := Or.inl (UW_of (List.mem_of_getElem? (i := 1616) (by decide +kernel)) rfl)
abbrev MX9_shift : MI := (yX9_shift, cX9_shift, 4, (Option.some Jvm.ClassFile.FieldType.int))
theorem hm_X9_shift : hMeth MX9_shift 3 := ⟨UW_of (List.mem_of_getElem? (i := 1610) (by decide +kernel)) rfl, UW_of (List.mem_of_getElem? (i := 103) (by decide +kernel)) rfl, ⟨by decide +kernel, by decide +kernel⟩, by decide +kernel, by decide⟩
theorem hv_X9_shift : hVirt MX9_shift 9 := ⟨UW_of (List.mem_of_getElem? (i := 1608) (by decide +kernel)) rfl, UW_of (List.mem_of_getElem? (i := 1609) (by decide +kernel)) rfl, ⟨_, _, rfl⟩, by decide⟩
theorem ln_X9_426 : hLnk RX9 426 yX9_shiftNow := Or.inl (UW_of (List.mem_of_getElem? (i := 1611) (by decide +kernel)) rfl)
abbrev MX9_showIt : MI := (yX9_showIt, cX9_showIt, 6, (Option.some Jvm.ClassFile.FieldType.int))
theorem hm_X9_showIt : hMeth MX9_showIt 2 := ⟨UW_of (List.mem_of_getElem? (i := 1630) (by decide +kernel)) rfl, UW_of (List.mem_of_getElem? (i := 103) (by decide +kernel)) rfl, ⟨by decide +kernel, by decide +kernel⟩, by decide +kernel, by decide⟩
theorem hv_X9_showIt : hVirt MX9_showIt 9 := ⟨UW_of (List.mem_of_getElem? (i := 1629) (by decide +kernel)) rfl, UW_of (List.mem_of_getElem? (i := 74) (by decide +kernel)) rfl, ⟨_, _, rfl⟩, by decide⟩
abbrev MX9_showNow : MI := (yX9_showNow, cX9_showNow, 3, (Option.some Jvm.ClassFile.FieldType.int))
theorem hm_X9_showNow : hMeth MX9_showNow 2 := ⟨UW_of (List.mem_of_getElem? (i := 1626) (by decide +kernel)) rfl, UW_of (List.mem_of_getElem? (i := 103) (by decide +kernel)) rfl, ⟨by decide +kernel, by decide +kernel⟩, by decide +kernel, by decide⟩
theorem hv_X9_showNow : hVirt MX9_showNow 9 := ⟨UW_of (List.mem_of_getElem? (i := 1625) (by decide +kernel)) rfl, UW_of (List.mem_of_getElem? (i := 73) (by decide +kernel)) rfl, ⟨_, _, rfl⟩, by decide⟩
theorem ln_X9_430 : hLnk RX9 430 yX9_showIt := Or.inl (UW_of (List.mem_of_getElem? (i := 1627) (by decide +kernel)) rfl)
abbrev MX9_show : MI := (yX9_show, cX9_show, 3, (Option.some Jvm.ClassFile.FieldType.int))
theorem hm_X9_show : hMeth MX9_show 2 := ⟨UW_of (List.mem_of_getElem? (i := 1622) (by decide +kernel)) rfl, UW_of (List.mem_of_getElem? (i := 103) (by decide +kernel)) rfl, ⟨by decide +kernel, by decide +kernel⟩, by decide +kernel, by decide⟩
theorem hv_X9_show : hVirt MX9_show 9 := ⟨UW_of (List.mem_of_getElem? (i := 1620) (by decide +kernel)) rfl, UW_of (List.mem_of_getElem? (i := 1621) (by decide +kernel)) rfl, ⟨_, _, rfl⟩, by decide⟩
theorem ln_X9_433 : hLnk RX9 433 yX9_showNow := Or.inl (UW_of (List.mem_of_getElem? (i := 1623) (by decide +kernel)) rfl)
abbrev MX9_passIt : MI := (yX9_passIt, cX9_passIt, 3, none)
theorem hm_X9_passIt : hMeth MX9_passIt 0 := ⟨UW_of (List.mem_of_getElem? (i := 1642) (by decide +kernel)) rfl, UW_of (List.mem_of_getElem? (i := 103) (by decide +kernel)) rfl, ⟨by decide +kernel, by decide +kernel⟩, by decide +kernel, by decide⟩
theorem hv_X9_passIt : hVirt MX9_passIt 9 := ⟨UW_of (List.mem_of_getElem? (i := 1641) (by decide +kernel)) rfl, UW_of (List.mem_of_getElem? (i := 76) (by decide +kernel)) rfl, ⟨_, _, rfl⟩, by decide⟩
abbrev MX9_passNow : MI := (yX9_passNow, cX9_passNow, 1, (Option.some Jvm.ClassFile.FieldType.int))
theorem hm_X9_passNow : hMeth MX9_passNow 0 := ⟨UW_of (List.mem_of_getElem? (i := 1638) (by decide +kernel)) rfl, UW_of (List.mem_of_getElem? (i := 103) (by decide +kernel)) rfl, ⟨by decide +kernel, by decide +kernel⟩, by decide +kernel, by decide⟩
theorem hv_X9_passNow : hVirt MX9_passNow 9 := ⟨UW_of (List.mem_of_getElem? (i := 1637) (by decide +kernel)) rfl, UW_of (List.mem_of_getElem? (i := 75) (by decide +kernel)) rfl, ⟨_, _, rfl⟩, by decide⟩
theorem ln_X9_436 : hLnk RX9 436 yX9_passIt := Or.inl (UW_of (List.mem_of_getElem? (i := 1639) (by decide +kernel)) rfl)
abbrev MX9_pass : MI := (yX9_pass, cX9_pass, 1, (Option.some Jvm.ClassFile.FieldType.int))
theorem hm_X9_pass : hMeth MX9_pass 0 := ⟨UW_of (List.mem_of_getElem? (i := 1634) (by decide +kernel)) rfl, UW_of (List.mem_of_getElem? (i := 103) (by decide +kernel)) rfl, ⟨by decide +kernel, by decide +kernel⟩, by decide +kernel, by decide⟩
theorem hv_X9_pass : hVirt MX9_pass 9 := ⟨UW_of (List.mem_of_getElem? (i := 1632) (by decide +kernel)) rfl, UW_of (List.mem_of_getElem? (i := 1633) (by decide +kernel)) rfl, ⟨_, _, rfl⟩, by decide⟩
theorem ln_X9_439 : hLnk RX9 439 yX9_passNow := Or.inl (UW_of (List.mem_of_getElem? (i := 1635) (by decide +kernel)) rfl)
abbrev MX9_worthOf : MI := (yX9_worthOf, cX9_worthOf, 5, (Option.some Jvm.ClassFile.FieldType.int))
theorem hm_X9_worthOf : hMeth MX9_worthOf 2 := ⟨UW_of (List.mem_of_getElem? (i := 1654) (by decide +kernel)) rfl, UW_of (List.mem_of_getElem? (i := 103) (by decide +kernel)) rfl, ⟨by decide +kernel, by decide +kernel⟩, by decide +kernel, by decide⟩
theorem hv_X9_worthOf : hVirt MX9_worthOf 9 := ⟨UW_of (List.mem_of_getElem? (i := 1653) (by decide +kernel)) rfl, UW_of (List.mem_of_getElem? (i := 77) (by decide +kernel)) rfl, ⟨_, _, rfl⟩, by decide⟩
theorem ln_X9_442 : hLnk RX9 442 yX9_is := Or.inl (UW_of (List.mem_of_getElem? (i := 1655) (by decide +kernel)) rfl)
abbrev MX9_treaty : MI := (yX9_treaty, cX9_treaty, 7, (Option.some Jvm.ClassFile.FieldType.int))
theorem hm_X9_treaty : hMeth MX9_treaty 1 := ⟨UW_of (List.mem_of_getElem? (i := 1646) (by decide +kernel)) rfl, UW_of (List.mem_of_getElem? (i := 103) (by decide +kernel)) rfl, ⟨by decide +kernel, by decide +kernel⟩, by decide +kernel, by decide⟩
theorem hv_X9_treaty : hVirt MX9_treaty 9 := ⟨UW_of (List.mem_of_getElem? (i := 1644) (by decide +kernel)) rfl, UW_of (List.mem_of_getElem? (i := 1645) (by decide +kernel)) rfl, ⟨_, _, rfl⟩, by decide⟩
theorem cn_X9_445 : Cond.constant RX9 445 (100000000) ∈ UW := UW_of (List.mem_of_getElem? (i := 1647) (by decide +kernel)) rfl
theorem ln_X9_446 : hLnk RX9 446 yX9_ones := Or.inl (UW_of (List.mem_of_getElem? (i := 1648) (by decide +kernel)) rfl)
theorem ln_X9_449 : hLnk RX9 449 yX9_worthOf := Or.inl (UW_of (List.mem_of_getElem? (i := 1651) (by decide +kernel)) rfl)
abbrev MX9_hear : MI := (yX9_hear, cX9_hear, 4, (Option.some Jvm.ClassFile.FieldType.int))
theorem hm_X9_hear : hMeth MX9_hear 2 := ⟨UW_of (List.mem_of_getElem? (i := 1661) (by decide +kernel)) rfl, UW_of (List.mem_of_getElem? (i := 103) (by decide +kernel)) rfl, ⟨by decide +kernel, by decide +kernel⟩, by decide +kernel, by decide⟩
theorem hv_X9_hear : hVirt MX9_hear 9 := ⟨UW_of (List.mem_of_getElem? (i := 1659) (by decide +kernel)) rfl, UW_of (List.mem_of_getElem? (i := 1660) (by decide +kernel)) rfl, ⟨_, _, rfl⟩, by decide⟩
abbrev MX9_tell : MI := (yX9_tell, cX9_tell, 4, (Option.some Jvm.ClassFile.FieldType.int))
theorem hm_X9_tell : hMeth MX9_tell 2 := ⟨UW_of (List.mem_of_getElem? (i := 1665) (by decide +kernel)) rfl, UW_of (List.mem_of_getElem? (i := 103) (by decide +kernel)) rfl, ⟨by decide +kernel, by decide +kernel⟩, by decide +kernel, by decide⟩
theorem hv_X9_tell : hVirt MX9_tell 9 := ⟨UW_of (List.mem_of_getElem? (i := 1663) (by decide +kernel)) rfl, UW_of (List.mem_of_getElem? (i := 1664) (by decide +kernel)) rfl, ⟨_, _, rfl⟩, by decide⟩
abbrev MX9_forget : MI := (yX9_forget, cX9_forget, 2, (Option.some Jvm.ClassFile.FieldType.int))
theorem hm_X9_forget : hMeth MX9_forget 0 := ⟨UW_of (List.mem_of_getElem? (i := 1669) (by decide +kernel)) rfl, UW_of (List.mem_of_getElem? (i := 103) (by decide +kernel)) rfl, ⟨by decide +kernel, by decide +kernel⟩, by decide +kernel, by decide⟩
theorem hv_X9_forget : hVirt MX9_forget 9 := ⟨UW_of (List.mem_of_getElem? (i := 1667) (by decide +kernel)) rfl, UW_of (List.mem_of_getElem? (i := 1668) (by decide +kernel)) rfl, ⟨_, _, rfl⟩, by decide⟩
abbrev MX9_pausesOf : MI := (yX9_pausesOf, cX9_pausesOf, 5, (Option.some Jvm.ClassFile.FieldType.long))
theorem hm_X9_pausesOf : hMeth MX9_pausesOf 3 := ⟨UW_of (List.mem_of_getElem? (i := 1681) (by decide +kernel)) rfl, UW_of (List.mem_of_getElem? (i := 103) (by decide +kernel)) rfl, ⟨by decide +kernel, by decide +kernel⟩, by decide +kernel, by decide⟩
theorem hv_X9_pausesOf : hVirt MX9_pausesOf 9 := ⟨UW_of (List.mem_of_getElem? (i := 1680) (by decide +kernel)) rfl, UW_of (List.mem_of_getElem? (i := 79) (by decide +kernel)) rfl, ⟨_, _, rfl⟩, by decide⟩
abbrev MX9_probablyBy : MI := (yX9_probablyBy, cX9_probablyBy, 8, (Option.some Jvm.ClassFile.FieldType.int))
theorem hm_X9_probablyBy : hMeth MX9_probablyBy 2 := ⟨UW_of (List.mem_of_getElem? (i := 1677) (by decide +kernel)) rfl, UW_of (List.mem_of_getElem? (i := 103) (by decide +kernel)) rfl, ⟨by decide +kernel, by decide +kernel⟩, by decide +kernel, by decide⟩
theorem hv_X9_probablyBy : hVirt MX9_probablyBy 9 := ⟨UW_of (List.mem_of_getElem? (i := 1676) (by decide +kernel)) rfl, UW_of (List.mem_of_getElem? (i := 78) (by decide +kernel)) rfl, ⟨_, _, rfl⟩, by decide⟩
theorem ln_X9_452 : hLnk RX9 452 yX9_pausesOf := Or.inl (UW_of (List.mem_of_getElem? (i := 1678) (by decide +kernel)) rfl)
theorem cn_X9_456 : Cond.constant RX9 456 (500000) ∈ UW := UW_of (List.mem_of_getElem? (i := 1682) (by decide +kernel)) rfl
abbrev MX9_probably : MI := (yX9_probably, cX9_probably, 1, (Option.some Jvm.ClassFile.FieldType.int))
theorem hm_X9_probably : hMeth MX9_probably 0 := ⟨UW_of (List.mem_of_getElem? (i := 1673) (by decide +kernel)) rfl, UW_of (List.mem_of_getElem? (i := 103) (by decide +kernel)) rfl, ⟨by decide +kernel, by decide +kernel⟩, by decide +kernel, by decide⟩
theorem hv_X9_probably : hVirt MX9_probably 9 := ⟨UW_of (List.mem_of_getElem? (i := 1671) (by decide +kernel)) rfl, UW_of (List.mem_of_getElem? (i := 1672) (by decide +kernel)) rfl, ⟨_, _, rfl⟩, by decide⟩
theorem ln_X9_457 : hLnk RX9 457 yX9_probablyBy := Or.inl (UW_of (List.mem_of_getElem? (i := 1674) (by decide +kernel)) rfl)
abbrev MX9_ask : MI := (yX9_ask, cX9_ask, 6, (Option.some Jvm.ClassFile.FieldType.int))
theorem hm_X9_ask : hMeth MX9_ask 1 := ⟨UW_of (List.mem_of_getElem? (i := 1686) (by decide +kernel)) rfl, UW_of (List.mem_of_getElem? (i := 103) (by decide +kernel)) rfl, ⟨by decide +kernel, by decide +kernel⟩, by decide +kernel, by decide⟩
theorem hv_X9_ask : hVirt MX9_ask 9 := ⟨UW_of (List.mem_of_getElem? (i := 1684) (by decide +kernel)) rfl, UW_of (List.mem_of_getElem? (i := 1685) (by decide +kernel)) rfl, ⟨_, _, rfl⟩, by decide⟩
abbrev MX9_chainOf : MI := (yX9_chainOf, cX9_chainOf, 7, (Option.some Jvm.ClassFile.FieldType.int))
theorem hm_X9_chainOf : hMeth MX9_chainOf 3 := ⟨UW_of (List.mem_of_getElem? (i := 1694) (by decide +kernel)) rfl, UW_of (List.mem_of_getElem? (i := 103) (by decide +kernel)) rfl, ⟨by decide +kernel, by decide +kernel⟩, by decide +kernel, by decide⟩
theorem hv_X9_chainOf : hVirt MX9_chainOf 9 := ⟨UW_of (List.mem_of_getElem? (i := 1693) (by decide +kernel)) rfl, UW_of (List.mem_of_getElem? (i := 80) (by decide +kernel)) rfl, ⟨_, _, rfl⟩, by decide⟩
abbrev MX9_chain : MI := (yX9_chain, cX9_chain, 5, (Option.some Jvm.ClassFile.FieldType.int))
theorem hm_X9_chain : hMeth MX9_chain 3 := ⟨UW_of (List.mem_of_getElem? (i := 1690) (by decide +kernel)) rfl, UW_of (List.mem_of_getElem? (i := 103) (by decide +kernel)) rfl, ⟨by decide +kernel, by decide +kernel⟩, by decide +kernel, by decide⟩
theorem hv_X9_chain : hVirt MX9_chain 9 := ⟨UW_of (List.mem_of_getElem? (i := 1688) (by decide +kernel)) rfl, UW_of (List.mem_of_getElem? (i := 1689) (by decide +kernel)) rfl, ⟨_, _, rfl⟩, by decide⟩
theorem ln_X9_460 : hLnk RX9 460 yX9_chainOf := Or.inl (UW_of (List.mem_of_getElem? (i := 1691) (by decide +kernel)) rfl)
abbrev MX9_isStill : MI := (yX9_isStill, cX9_isStill, 4, (Option.some Jvm.ClassFile.FieldType.boolean))
theorem hm_X9_isStill : hMeth MX9_isStill 1 := ⟨UW_of (List.mem_of_getElem? (i := 1702) (by decide +kernel)) rfl, UW_of (List.mem_of_getElem? (i := 103) (by decide +kernel)) rfl, ⟨by decide +kernel, by decide +kernel⟩, by decide +kernel, by decide⟩
theorem hv_X9_isStill : hVirt MX9_isStill 9 := ⟨UW_of (List.mem_of_getElem? (i := 1701) (by decide +kernel)) rfl, UW_of (List.mem_of_getElem? (i := 81) (by decide +kernel)) rfl, ⟨_, _, rfl⟩, by decide⟩
abbrev MX9_stilled : MI := (yX9_stilled, cX9_stilled, 6, (Option.some Jvm.ClassFile.FieldType.int))
theorem hm_X9_stilled : hMeth MX9_stilled 1 := ⟨UW_of (List.mem_of_getElem? (i := 1698) (by decide +kernel)) rfl, UW_of (List.mem_of_getElem? (i := 103) (by decide +kernel)) rfl, ⟨by decide +kernel, by decide +kernel⟩, by decide +kernel, by decide⟩
theorem hv_X9_stilled : hVirt MX9_stilled 9 := ⟨UW_of (List.mem_of_getElem? (i := 1696) (by decide +kernel)) rfl, UW_of (List.mem_of_getElem? (i := 1697) (by decide +kernel)) rfl, ⟨_, _, rfl⟩, by decide⟩
theorem ln_X9_463 : hLnk RX9 463 yX9_isStill := Or.inl (UW_of (List.mem_of_getElem? (i := 1699) (by decide +kernel)) rfl)
abbrev MX9_pricesOf : MI := (yX9_pricesOf, cX9_pricesOf, 4, (Option.some Jvm.ClassFile.FieldType.int))
theorem hm_X9_pricesOf : hMeth MX9_pricesOf 1 := ⟨UW_of (List.mem_of_getElem? (i := 1711) (by decide +kernel)) rfl, UW_of (List.mem_of_getElem? (i := 103) (by decide +kernel)) rfl, ⟨by decide +kernel, by decide +kernel⟩, by decide +kernel, by decide⟩
theorem hv_X9_pricesOf : hVirt MX9_pricesOf 9 := ⟨UW_of (List.mem_of_getElem? (i := 1710) (by decide +kernel)) rfl, UW_of (List.mem_of_getElem? (i := 82) (by decide +kernel)) rfl, ⟨_, _, rfl⟩, by decide⟩
abbrev MX9_pushed : MI := (yX9_pushed, cX9_pushed, 8, (Option.some Jvm.ClassFile.FieldType.int))
theorem hm_X9_pushed : hMeth MX9_pushed 2 := ⟨UW_of (List.mem_of_getElem? (i := 1706) (by decide +kernel)) rfl, UW_of (List.mem_of_getElem? (i := 103) (by decide +kernel)) rfl, ⟨by decide +kernel, by decide +kernel⟩, by decide +kernel, by decide⟩
theorem hv_X9_pushed : hVirt MX9_pushed 9 := ⟨UW_of (List.mem_of_getElem? (i := 1704) (by decide +kernel)) rfl, UW_of (List.mem_of_getElem? (i := 1705) (by decide +kernel)) rfl, ⟨_, _, rfl⟩, by decide⟩
theorem cn_X9_466 : Cond.constantLong RX9 466 (2) ∈ UW := UW_of (List.mem_of_getElem? (i := 1707) (by decide +kernel)) rfl
theorem ln_X9_468 : hLnk RX9 468 yX9_pricesOf := Or.inl (UW_of (List.mem_of_getElem? (i := 1708) (by decide +kernel)) rfl)
abbrev MX9_level : MI := (yX9_level, cX9_level, 6, (Option.some Jvm.ClassFile.FieldType.int))
theorem hm_X9_level : hMeth MX9_level 1 := ⟨UW_of (List.mem_of_getElem? (i := 1715) (by decide +kernel)) rfl, UW_of (List.mem_of_getElem? (i := 103) (by decide +kernel)) rfl, ⟨by decide +kernel, by decide +kernel⟩, by decide +kernel, by decide⟩
theorem hv_X9_level : hVirt MX9_level 9 := ⟨UW_of (List.mem_of_getElem? (i := 1713) (by decide +kernel)) rfl, UW_of (List.mem_of_getElem? (i := 1714) (by decide +kernel)) rfl, ⟨_, _, rfl⟩, by decide⟩
abbrev MX9_isSeen : MI := (yX9_isSeen, cX9_isSeen, 6, (Option.some Jvm.ClassFile.FieldType.boolean))
theorem hm_X9_isSeen : hMeth MX9_isSeen 3 := ⟨UW_of (List.mem_of_getElem? (i := 1723) (by decide +kernel)) rfl, UW_of (List.mem_of_getElem? (i := 103) (by decide +kernel)) rfl, ⟨by decide +kernel, by decide +kernel⟩, by decide +kernel, by decide⟩
theorem hv_X9_isSeen : hVirt MX9_isSeen 9 := ⟨UW_of (List.mem_of_getElem? (i := 1722) (by decide +kernel)) rfl, UW_of (List.mem_of_getElem? (i := 83) (by decide +kernel)) rfl, ⟨_, _, rfl⟩, by decide⟩
abbrev MX9_posts : MI := (yX9_posts, cX9_posts, 8, (Option.some Jvm.ClassFile.FieldType.int))
theorem hm_X9_posts : hMeth MX9_posts 2 := ⟨UW_of (List.mem_of_getElem? (i := 1719) (by decide +kernel)) rfl, UW_of (List.mem_of_getElem? (i := 103) (by decide +kernel)) rfl, ⟨by decide +kernel, by decide +kernel⟩, by decide +kernel, by decide⟩
theorem hv_X9_posts : hVirt MX9_posts 9 := ⟨UW_of (List.mem_of_getElem? (i := 1717) (by decide +kernel)) rfl, UW_of (List.mem_of_getElem? (i := 1718) (by decide +kernel)) rfl, ⟨_, _, rfl⟩, by decide⟩
theorem ln_X9_471 : hLnk RX9 471 yX9_isSeen := Or.inl (UW_of (List.mem_of_getElem? (i := 1720) (by decide +kernel)) rfl)
abbrev MX9_foesBy : MI := (yX9_foesBy, cX9_foesBy, 6, (Option.some Jvm.ClassFile.FieldType.int))
theorem hm_X9_foesBy : hMeth MX9_foesBy 4 := ⟨UW_of (List.mem_of_getElem? (i := 1731) (by decide +kernel)) rfl, UW_of (List.mem_of_getElem? (i := 103) (by decide +kernel)) rfl, ⟨by decide +kernel, by decide +kernel⟩, by decide +kernel, by decide⟩
theorem hv_X9_foesBy : hVirt MX9_foesBy 9 := ⟨UW_of (List.mem_of_getElem? (i := 1730) (by decide +kernel)) rfl, UW_of (List.mem_of_getElem? (i := 84) (by decide +kernel)) rfl, ⟨_, _, rfl⟩, by decide⟩
theorem lk_X9_475 : LK RX9 475 TX9 43 := Or.inl (UW_of (List.mem_of_getElem? (i := 1187) (by decide +kernel)) rfl)
theorem lk_X9_478 : LK RX9 478 TX9 44 := Or.inl (UW_of (List.mem_of_getElem? (i := 1188) (by decide +kernel)) rfl)
abbrev MX9_way : MI := (yX9_way, cX9_way, 6, (Option.some Jvm.ClassFile.FieldType.int))
theorem hm_X9_way : hMeth MX9_way 4 := ⟨UW_of (List.mem_of_getElem? (i := 1727) (by decide +kernel)) rfl, UW_of (List.mem_of_getElem? (i := 103) (by decide +kernel)) rfl, ⟨by decide +kernel, by decide +kernel⟩, by decide +kernel, by decide⟩
theorem hv_X9_way : hVirt MX9_way 9 := ⟨UW_of (List.mem_of_getElem? (i := 1725) (by decide +kernel)) rfl, UW_of (List.mem_of_getElem? (i := 1726) (by decide +kernel)) rfl, ⟨_, _, rfl⟩, by decide⟩
theorem ln_X9_481 : hLnk RX9 481 yX9_foesBy := Or.inl (UW_of (List.mem_of_getElem? (i := 1728) (by decide +kernel)) rfl)
abbrev MX9_holds : MI := (yX9_holds, cX9_holds, 5, (Option.some Jvm.ClassFile.FieldType.long))
theorem hm_X9_holds : hMeth MX9_holds 1 := ⟨UW_of (List.mem_of_getElem? (i := 1735) (by decide +kernel)) rfl, UW_of (List.mem_of_getElem? (i := 103) (by decide +kernel)) rfl, ⟨by decide +kernel, by decide +kernel⟩, by decide +kernel, by decide⟩
theorem hv_X9_holds : hVirt MX9_holds 9 := ⟨UW_of (List.mem_of_getElem? (i := 1733) (by decide +kernel)) rfl, UW_of (List.mem_of_getElem? (i := 1734) (by decide +kernel)) rfl, ⟨_, _, rfl⟩, by decide⟩
theorem cn_X9_485 : Cond.constantLong RX9 485 (60) ∈ UW := UW_of (List.mem_of_getElem? (i := 1736) (by decide +kernel)) rfl
theorem cn_X9_487 : Cond.constantLong RX9 487 (1000000000000) ∈ UW := UW_of (List.mem_of_getElem? (i := 1737) (by decide +kernel)) rfl
theorem cn_X9_489 : Cond.constantLong RX9 489 (100) ∈ UW := UW_of (List.mem_of_getElem? (i := 1738) (by decide +kernel)) rfl
abbrev MX9_which : MI := (yX9_which, cX9_which, 5, (Option.some Jvm.ClassFile.FieldType.int))
theorem hm_X9_which : hMeth MX9_which 0 := ⟨UW_of (List.mem_of_getElem? (i := 1742) (by decide +kernel)) rfl, UW_of (List.mem_of_getElem? (i := 103) (by decide +kernel)) rfl, ⟨by decide +kernel, by decide +kernel⟩, by decide +kernel, by decide⟩
theorem hv_X9_which : hVirt MX9_which 9 := ⟨UW_of (List.mem_of_getElem? (i := 1740) (by decide +kernel)) rfl, UW_of (List.mem_of_getElem? (i := 1741) (by decide +kernel)) rfl, ⟨_, _, rfl⟩, by decide⟩
abbrev MX9_compare : MI := (yX9_compare, cX9_compare, 5, (Option.some Jvm.ClassFile.FieldType.int))
theorem hm_X9_compare : hMeth MX9_compare 1 := ⟨UW_of (List.mem_of_getElem? (i := 1746) (by decide +kernel)) rfl, UW_of (List.mem_of_getElem? (i := 103) (by decide +kernel)) rfl, ⟨by decide +kernel, by decide +kernel⟩, by decide +kernel, by decide⟩
theorem hv_X9_compare : hVirt MX9_compare 9 := ⟨UW_of (List.mem_of_getElem? (i := 1744) (by decide +kernel)) rfl, UW_of (List.mem_of_getElem? (i := 1745) (by decide +kernel)) rfl, ⟨_, _, rfl⟩, by decide⟩
abbrev MX9_readSum : MI := (yX9_readSum, cX9_readSum, 2, none)
theorem hm_X9_readSum : hMeth MX9_readSum 1 := ⟨UW_of (List.mem_of_getElem? (i := 1758) (by decide +kernel)) rfl, UW_of (List.mem_of_getElem? (i := 103) (by decide +kernel)) rfl, ⟨by decide +kernel, by decide +kernel⟩, by decide +kernel, by decide⟩
theorem hv_X9_readSum : hVirt MX9_readSum 9 := ⟨UW_of (List.mem_of_getElem? (i := 1757) (by decide +kernel)) rfl, UW_of (List.mem_of_getElem? (i := 86) (by decide +kernel)) rfl, ⟨_, _, rfl⟩, by decide⟩
abbrev MX9_behind : MI := (yX9_behind, cX9_behind, 4, none)
theorem hm_X9_behind : hMeth MX9_behind 2 := ⟨UW_of (List.mem_of_getElem? (i := 1764) (by decide +kernel)) rfl, UW_of (List.mem_of_getElem? (i := 103) (by decide +kernel)) rfl, ⟨by decide +kernel, by decide +kernel⟩, by decide +kernel, by decide⟩
theorem hv_X9_behind : hVirt MX9_behind 9 := ⟨UW_of (List.mem_of_getElem? (i := 1763) (by decide +kernel)) rfl, UW_of (List.mem_of_getElem? (i := 87) (by decide +kernel)) rfl, ⟨_, _, rfl⟩, by decide⟩
theorem ln_X9_491 : hLnk RX9 491 yX9_readSum := Or.inl (UW_of (List.mem_of_getElem? (i := 1755) (by decide +kernel)) rfl)
abbrev MX9_readOrder : MI := (yX9_readOrder, cX9_readOrder, 4, none)
theorem hm_X9_readOrder : hMeth MX9_readOrder 0 := ⟨UW_of (List.mem_of_getElem? (i := 1754) (by decide +kernel)) rfl, UW_of (List.mem_of_getElem? (i := 103) (by decide +kernel)) rfl, ⟨by decide +kernel, by decide +kernel⟩, by decide +kernel, by decide⟩
theorem hv_X9_readOrder : hVirt MX9_readOrder 9 := ⟨UW_of (List.mem_of_getElem? (i := 1753) (by decide +kernel)) rfl, UW_of (List.mem_of_getElem? (i := 85) (by decide +kernel)) rfl, ⟨_, _, rfl⟩, by decide⟩
theorem cn_X9_494 : Cond.constantLong RX9 494 (655) ∈ UW := UW_of (List.mem_of_getElem? (i := 1759) (by decide +kernel)) rfl
theorem cn_X9_496 : Cond.constantLong RX9 496 (52) ∈ UW := UW_of (List.mem_of_getElem? (i := 1760) (by decide +kernel)) rfl
theorem ln_X9_498 : hLnk RX9 498 yX9_behind := Or.inl (UW_of (List.mem_of_getElem? (i := 1761) (by decide +kernel)) rfl)
theorem cn_X9_502 : Cond.constantLong RX9 502 (89) ∈ UW := UW_of (List.mem_of_getElem? (i := 1765) (by decide +kernel)) rfl
theorem cn_X9_504 : Cond.constantLong RX9 504 (21279923) ∈ UW := UW_of (List.mem_of_getElem? (i := 1766) (by decide +kernel)) rfl
abbrev MX9_sumOf : MI := (yX9_sumOf, cX9_sumOf, 2, (Option.some Jvm.ClassFile.FieldType.int))
theorem hm_X9_sumOf : hMeth MX9_sumOf 1 := ⟨UW_of (List.mem_of_getElem? (i := 1774) (by decide +kernel)) rfl, UW_of (List.mem_of_getElem? (i := 103) (by decide +kernel)) rfl, ⟨by decide +kernel, by decide +kernel⟩, by decide +kernel, by decide⟩
theorem hv_X9_sumOf : hVirt MX9_sumOf 9 := ⟨UW_of (List.mem_of_getElem? (i := 1773) (by decide +kernel)) rfl, UW_of (List.mem_of_getElem? (i := 89) (by decide +kernel)) rfl, ⟨_, _, rfl⟩, by decide⟩
theorem lk_X9_506 : LK RX9 506 TX9 50 := Or.inl (UW_of (List.mem_of_getElem? (i := 1194) (by decide +kernel)) rfl)
abbrev MX9_act : MI := (yX9_act, cX9_act, 5, (Option.some Jvm.ClassFile.FieldType.int))
theorem hm_X9_act : hMeth MX9_act 4 := ⟨UW_of (List.mem_of_getElem? (i := 1778) (by decide +kernel)) rfl, UW_of (List.mem_of_getElem? (i := 103) (by decide +kernel)) rfl, ⟨by decide +kernel, by decide +kernel⟩, by decide +kernel, by decide⟩
theorem hv_X9_act : hVirt MX9_act 9 := ⟨UW_of (List.mem_of_getElem? (i := 1777) (by decide +kernel)) rfl, UW_of (List.mem_of_getElem? (i := 90) (by decide +kernel)) rfl, ⟨_, _, rfl⟩, by decide⟩
abbrev MX9_run : MI := (yX9_run, cX9_run, 6, (Option.some Jvm.ClassFile.FieldType.int))
theorem hm_X9_run : hMeth MX9_run 1 := ⟨UW_of (List.mem_of_getElem? (i := 1770) (by decide +kernel)) rfl, UW_of (List.mem_of_getElem? (i := 103) (by decide +kernel)) rfl, ⟨by decide +kernel, by decide +kernel⟩, by decide +kernel, by decide⟩
theorem hv_X9_run : hVirt MX9_run 9 := ⟨UW_of (List.mem_of_getElem? (i := 1769) (by decide +kernel)) rfl, UW_of (List.mem_of_getElem? (i := 88) (by decide +kernel)) rfl, ⟨_, _, rfl⟩, by decide⟩
theorem lk_X9_509 : LK RX9 509 TX9 47 := Or.inl (UW_of (List.mem_of_getElem? (i := 1191) (by decide +kernel)) rfl)
theorem lk_X9_512 : LK RX9 512 TX9 48 := Or.inl (UW_of (List.mem_of_getElem? (i := 1192) (by decide +kernel)) rfl)
theorem ln_X9_515 : hLnk RX9 515 yX9_sumOf := Or.inl (UW_of (List.mem_of_getElem? (i := 1771) (by decide +kernel)) rfl)
theorem ln_X9_518 : hLnk RX9 518 yX9_act := Or.inl (UW_of (List.mem_of_getElem? (i := 1775) (by decide +kernel)) rfl)
abbrev MX9_giveBack : MI := (yX9_giveBack, cX9_giveBack, 3, none)
theorem hm_X9_giveBack : hMeth MX9_giveBack 1 := ⟨UW_of (List.mem_of_getElem? (i := 1782) (by decide +kernel)) rfl, UW_of (List.mem_of_getElem? (i := 103) (by decide +kernel)) rfl, ⟨by decide +kernel, by decide +kernel⟩, by decide +kernel, by decide⟩
theorem hv_X9_giveBack : hVirt MX9_giveBack 9 := ⟨UW_of (List.mem_of_getElem? (i := 1781) (by decide +kernel)) rfl, UW_of (List.mem_of_getElem? (i := 91) (by decide +kernel)) rfl, ⟨_, _, rfl⟩, by decide⟩
abbrev MX9_orders : MI := (yX9_orders, cX9_orders, 4, (Option.some Jvm.ClassFile.FieldType.int))
theorem hm_X9_orders : hMeth MX9_orders 0 := ⟨UW_of (List.mem_of_getElem? (i := 1750) (by decide +kernel)) rfl, UW_of (List.mem_of_getElem? (i := 103) (by decide +kernel)) rfl, ⟨by decide +kernel, by decide +kernel⟩, by decide +kernel, by decide⟩
theorem hv_X9_orders : hVirt MX9_orders 9 := ⟨UW_of (List.mem_of_getElem? (i := 1748) (by decide +kernel)) rfl, UW_of (List.mem_of_getElem? (i := 1749) (by decide +kernel)) rfl, ⟨_, _, rfl⟩, by decide⟩
theorem ln_X9_521 : hLnk RX9 521 yX9_readOrder := Or.inl (UW_of (List.mem_of_getElem? (i := 1751) (by decide +kernel)) rfl)
theorem ln_X9_524 : hLnk RX9 524 yX9_run := Or.inl (UW_of (List.mem_of_getElem? (i := 1767) (by decide +kernel)) rfl)
theorem ln_X9_527 : hLnk RX9 527 yX9_giveBack := Or.inl (UW_of (List.mem_of_getElem? (i := 1779) (by decide +kernel)) rfl)
abbrev MX9_stopped : MI := (yX9_stopped, cX9_stopped, 1, (Option.some Jvm.ClassFile.FieldType.int))
theorem hm_X9_stopped : hMeth MX9_stopped 0 := ⟨UW_of (List.mem_of_getElem? (i := 1786) (by decide +kernel)) rfl, UW_of (List.mem_of_getElem? (i := 103) (by decide +kernel)) rfl, ⟨by decide +kernel, by decide +kernel⟩, by decide +kernel, by decide⟩
theorem hv_X9_stopped : hVirt MX9_stopped 9 := ⟨UW_of (List.mem_of_getElem? (i := 1784) (by decide +kernel)) rfl, UW_of (List.mem_of_getElem? (i := 1785) (by decide +kernel)) rfl, ⟨_, _, rfl⟩, by decide⟩
abbrev MX9_draw : MI := (yX9_draw, cX9_draw, 2, (Option.some Jvm.ClassFile.FieldType.int))
theorem hm_X9_draw : hMeth MX9_draw 1 := ⟨UW_of (List.mem_of_getElem? (i := 1794) (by decide +kernel)) rfl, UW_of (List.mem_of_getElem? (i := 103) (by decide +kernel)) rfl, ⟨by decide +kernel, by decide +kernel⟩, by decide +kernel, by decide⟩
theorem hv_X9_draw : hVirt MX9_draw 9 := ⟨UW_of (List.mem_of_getElem? (i := 1793) (by decide +kernel)) rfl, UW_of (List.mem_of_getElem? (i := 92) (by decide +kernel)) rfl, ⟨_, _, rfl⟩, by decide⟩
theorem lk_X9_530 : LK RX9 530 TX9 51 := Or.inl (UW_of (List.mem_of_getElem? (i := 1195) (by decide +kernel)) rfl)
theorem cn_X9_533 : Cond.constantLong RX9 533 (1103) ∈ UW := UW_of (List.mem_of_getElem? (i := 1795) (by decide +kernel)) rfl
theorem cn_X9_535 : Cond.constantLong RX9 535 (12345) ∈ UW := UW_of (List.mem_of_getElem? (i := 1796) (by decide +kernel)) rfl
theorem cn_X9_537 : Cond.constantLong RX9 537 (1000003) ∈ UW := UW_of (List.mem_of_getElem? (i := 1797) (by decide +kernel)) rfl
abbrev MX9_decades : MI := (yX9_decades, cX9_decades, 8, (Option.some Jvm.ClassFile.FieldType.int))
theorem hm_X9_decades : hMeth MX9_decades 2 := ⟨UW_of (List.mem_of_getElem? (i := 1790) (by decide +kernel)) rfl, UW_of (List.mem_of_getElem? (i := 103) (by decide +kernel)) rfl, ⟨by decide +kernel, by decide +kernel⟩, by decide +kernel, by decide⟩
theorem hv_X9_decades : hVirt MX9_decades 9 := ⟨UW_of (List.mem_of_getElem? (i := 1788) (by decide +kernel)) rfl, UW_of (List.mem_of_getElem? (i := 1789) (by decide +kernel)) rfl, ⟨_, _, rfl⟩, by decide⟩
theorem ln_X9_539 : hLnk RX9 539 yX9_draw := Or.inl (UW_of (List.mem_of_getElem? (i := 1791) (by decide +kernel)) rfl)
theorem lk_X9_542 : LK RX9 542 TX9 53 := Or.inl (UW_of (List.mem_of_getElem? (i := 1197) (by decide +kernel)) rfl)
abbrev MX9_drawn : MI := (yX9_drawn, cX9_drawn, 4, (Option.some Jvm.ClassFile.FieldType.int))
theorem hm_X9_drawn : hMeth MX9_drawn 2 := ⟨UW_of (List.mem_of_getElem? (i := 1801) (by decide +kernel)) rfl, UW_of (List.mem_of_getElem? (i := 103) (by decide +kernel)) rfl, ⟨by decide +kernel, by decide +kernel⟩, by decide +kernel, by decide⟩
theorem hv_X9_drawn : hVirt MX9_drawn 9 := ⟨UW_of (List.mem_of_getElem? (i := 1799) (by decide +kernel)) rfl, UW_of (List.mem_of_getElem? (i := 1800) (by decide +kernel)) rfl, ⟨_, _, rfl⟩, by decide⟩
theorem cn_X9_545 : Cond.constantLong RX9 545 (4) ∈ UW := UW_of (List.mem_of_getElem? (i := 1802) (by decide +kernel)) rfl
abbrev MX9_count : MI := (yX9_count, cX9_count, 2, (Option.some Jvm.ClassFile.FieldType.int))
theorem hm_X9_count : hMeth MX9_count 1 := ⟨UW_of (List.mem_of_getElem? (i := 1806) (by decide +kernel)) rfl, UW_of (List.mem_of_getElem? (i := 103) (by decide +kernel)) rfl, ⟨by decide +kernel, by decide +kernel⟩, by decide +kernel, by decide⟩
theorem hv_X9_count : hVirt MX9_count 9 := ⟨UW_of (List.mem_of_getElem? (i := 1804) (by decide +kernel)) rfl, UW_of (List.mem_of_getElem? (i := 1805) (by decide +kernel)) rfl, ⟨_, _, rfl⟩, by decide⟩
theorem cn_X9_547 : Cond.constantLong RX9 547 (11) ∈ UW := UW_of (List.mem_of_getElem? (i := 1807) (by decide +kernel)) rfl
theorem cn_X9_549 : Cond.constantLong RX9 549 (13) ∈ UW := UW_of (List.mem_of_getElem? (i := 1808) (by decide +kernel)) rfl
abbrev MX9_status : MI := (yX9_status, cX9_status, 1, (Option.some Jvm.ClassFile.FieldType.int))
theorem hm_X9_status : hMeth MX9_status 0 := ⟨UW_of (List.mem_of_getElem? (i := 1812) (by decide +kernel)) rfl, UW_of (List.mem_of_getElem? (i := 103) (by decide +kernel)) rfl, ⟨by decide +kernel, by decide +kernel⟩, by decide +kernel, by decide⟩
theorem hv_X9_status : hVirt MX9_status 9 := ⟨UW_of (List.mem_of_getElem? (i := 1810) (by decide +kernel)) rfl, UW_of (List.mem_of_getElem? (i := 1811) (by decide +kernel)) rfl, ⟨_, _, rfl⟩, by decide⟩
