theorem hv_X7_runDecades : hVirt MX7_runDecades 7 := ⟨UW_of (List.mem_of_getElem? (i := 1080) (by decide +kernel)) rfl, UW_of (List.mem_of_getElem? (i := 1081) (by decide +kernel)) rfl, ⟨_, _, rfl⟩, by decide⟩
theorem ln_X7_145 : hLnk RX7 145 yX7_nextDraw := Or.inl (UW_of (List.mem_of_getElem? (i := 1083) (by decide +kernel)) rfl)
theorem ln_X7_148 : hLnk RX7 148 yX7_doAttack := Or.inl (UW_of (List.mem_of_getElem? (i := 1089) (by decide +kernel)) rfl)
theorem ln_X7_151 : hLnk RX7 151 yX7_doShow := Or.inl (UW_of (List.mem_of_getElem? (i := 1090) (by decide +kernel)) rfl)
theorem ln_X7_154 : hLnk RX7 154 yX7_doPass := Or.inl (UW_of (List.mem_of_getElem? (i := 1091) (by decide +kernel)) rfl)
abbrev MX8_init : MI := (yX8_init, cX8_init, 1, none)
theorem hm_X8_init : hMeth MX8_init 0 := ⟨UW_of (List.mem_of_getElem? (i := 115) (by decide +kernel)) rfl, UW_of (List.mem_of_getElem? (i := 94) (by decide +kernel)) rfl, ⟨by decide +kernel, by decide +kernel⟩, by decide +kernel, by decide⟩
theorem hi_X8_init : Cond.instanceMethod MX8_init.1 ∈ UW := UW_of (List.mem_of_getElem? (i := 114) (by decide +kernel)) rfl
theorem ln_X8_1 : Cond.methodLink RX8 1 objectInit ∈ UW := UW_of (List.mem_of_getElem? (i := 116) (by decide +kernel)) rfl
theorem cl_X8_7 : Cond.classLink RX8 7 RX0 ∈ UW := UW_of (List.mem_of_getElem? (i := 119) (by decide +kernel)) rfl
theorem ln_X8_9 : hLnk RX8 9 yX0_init := Or.inl (UW_of (List.mem_of_getElem? (i := 121) (by decide +kernel)) rfl)
theorem lk_X8_10 : LK RX8 10 TX8 0 := Or.inl (UW_of (List.mem_of_getElem? (i := 354) (by decide +kernel)) rfl)
theorem lkm_X8_10 : Cond.fieldLink RX8 10 (TX8 0).1 (TX8 0).2.1 (TX8 0).2.2.1 ∈ UW := UW_of (List.mem_of_getElem? (i := 354) (by decide +kernel)) rfl
theorem cl_X8_16 : Cond.classLink RX8 16 RX7 ∈ UW := UW_of (List.mem_of_getElem? (i := 216) (by decide +kernel)) rfl
theorem ln_X8_18 : hLnk RX8 18 yX7_init := Or.inl (UW_of (List.mem_of_getElem? (i := 218) (by decide +kernel)) rfl)
theorem lk_X8_21 : LK RX8 21 TX8 1 := Or.inl (UW_of (List.mem_of_getElem? (i := 355) (by decide +kernel)) rfl)
theorem lkm_X8_21 : Cond.fieldLink RX8 21 (TX8 1).1 (TX8 1).2.1 (TX8 1).2.2.1 ∈ UW := UW_of (List.mem_of_getElem? (i := 355) (by decide +kernel)) rfl
theorem cl_X8_25 : Cond.classLink RX8 25 RX2 ∈ UW := UW_of (List.mem_of_getElem? (i := 245) (by decide +kernel)) rfl
theorem ln_X8_27 : hLnk RX8 27 yX2_init := Or.inl (UW_of (List.mem_of_getElem? (i := 247) (by decide +kernel)) rfl)
theorem lk_X8_30 : LK RX8 30 TX8 2 := Or.inl (UW_of (List.mem_of_getElem? (i := 356) (by decide +kernel)) rfl)
theorem lkm_X8_30 : Cond.fieldLink RX8 30 (TX8 2).1 (TX8 2).2.1 (TX8 2).2.2.1 ∈ UW := UW_of (List.mem_of_getElem? (i := 356) (by decide +kernel)) rfl
theorem cl_X8_34 : Cond.classLink RX8 34 RX4 ∈ UW := UW_of (List.mem_of_getElem? (i := 261) (by decide +kernel)) rfl
theorem ln_X8_36 : hLnk RX8 36 yX4_init := Or.inr ⟨"HyphenWar", UW_of (List.mem_of_getElem? (i := 263) (by decide +kernel)) rfl⟩
theorem lk_X8_37 : LK RX8 37 TX8 3 := Or.inl (UW_of (List.mem_of_getElem? (i := 357) (by decide +kernel)) rfl)
theorem lkm_X8_37 : Cond.fieldLink RX8 37 (TX8 3).1 (TX8 3).2.1 (TX8 3).2.2.1 ∈ UW := UW_of (List.mem_of_getElem? (i := 357) (by decide +kernel)) rfl
theorem lk_X8_41 : LK RX8 41 TX8 4 := Or.inl (UW_of (List.mem_of_getElem? (i := 358) (by decide +kernel)) rfl)
theorem lkm_X8_41 : Cond.fieldLink RX8 41 (TX8 4).1 (TX8 4).2.1 (TX8 4).2.2.1 ∈ UW := UW_of (List.mem_of_getElem? (i := 358) (by decide +kernel)) rfl
theorem cl_X8_45 : Cond.classLink RX8 45 RX3 ∈ UW := UW_of (List.mem_of_getElem? (i := 332) (by decide +kernel)) rfl
theorem ln_X8_47 : hLnk RX8 47 yX3_init := Or.inr ⟨"HyphenWar", UW_of (List.mem_of_getElem? (i := 334) (by decide +kernel)) rfl⟩
theorem lk_X8_48 : LK RX8 48 TX8 5 := Or.inl (UW_of (List.mem_of_getElem? (i := 359) (by decide +kernel)) rfl)
theorem lkm_X8_48 : Cond.fieldLink RX8 48 (TX8 5).1 (TX8 5).2.1 (TX8 5).2.2.1 ∈ UW := UW_of (List.mem_of_getElem? (i := 359) (by decide +kernel)) rfl
theorem lk_X8_52 : LK RX8 52 TX8 6 := Or.inl (UW_of (List.mem_of_getElem? (i := 360) (by decide +kernel)) rfl)
theorem lkm_X8_52 : Cond.fieldLink RX8 52 (TX8 6).1 (TX8 6).2.1 (TX8 6).2.2.1 ∈ UW := UW_of (List.mem_of_getElem? (i := 360) (by decide +kernel)) rfl
theorem cl_X8_55 : Cond.classLink RX8 55 RX1 ∈ UW := UW_of (List.mem_of_getElem? (i := 352) (by decide +kernel)) rfl
theorem ln_X8_57 : hLnk RX8 57 yX1_init := Or.inl (UW_of (List.mem_of_getElem? (i := 353) (by decide +kernel)) rfl)
theorem lk_X8_58 : LK RX8 58 TX8 7 := Or.inl (UW_of (List.mem_of_getElem? (i := 361) (by decide +kernel)) rfl)
theorem lkm_X8_58 : Cond.fieldLink RX8 58 (TX8 7).1 (TX8 7).2.1 (TX8 7).2.2.1 ∈ UW := UW_of (List.mem_of_getElem? (i := 361) (by decide +kernel)) rfl
theorem lk_X8_62 : LK RX8 62 TX8 8 := Or.inl (UW_of (List.mem_of_getElem? (i := 362) (by decide +kernel)) rfl)
theorem lkm_X8_62 : Cond.fieldLink RX8 62 (TX8 8).1 (TX8 8).2.1 (TX8 8).2.2.1 ∈ UW := UW_of (List.mem_of_getElem? (i := 362) (by decide +kernel)) rfl
theorem lk_X8_65 : LK RX8 65 TX8 9 := Or.inl (UW_of (List.mem_of_getElem? (i := 363) (by decide +kernel)) rfl)
theorem lkm_X8_65 : Cond.fieldLink RX8 65 (TX8 9).1 (TX8 9).2.1 (TX8 9).2.2.1 ∈ UW := UW_of (List.mem_of_getElem? (i := 363) (by decide +kernel)) rfl
theorem lk_X8_68 : LK RX8 68 TX8 11 := Or.inl (UW_of (List.mem_of_getElem? (i := 365) (by decide +kernel)) rfl)
theorem lkm_X8_68 : Cond.fieldLink RX8 68 (TX8 11).1 (TX8 11).2.1 (TX8 11).2.2.1 ∈ UW := UW_of (List.mem_of_getElem? (i := 365) (by decide +kernel)) rfl
theorem lk_X8_72 : LK RX8 72 TX8 13 := Or.inl (UW_of (List.mem_of_getElem? (i := 367) (by decide +kernel)) rfl)
theorem lk_X8_76 : LK RX8 76 TX8 15 := Or.inl (UW_of (List.mem_of_getElem? (i := 369) (by decide +kernel)) rfl)
theorem lk_X8_79 : LK RX8 79 TX8 16 := Or.inl (UW_of (List.mem_of_getElem? (i := 370) (by decide +kernel)) rfl)
theorem lkm_X8_79 : Cond.fieldLink RX8 79 (TX8 16).1 (TX8 16).2.1 (TX8 16).2.2.1 ∈ UW := UW_of (List.mem_of_getElem? (i := 370) (by decide +kernel)) rfl
theorem lk_X8_82 : LK RX8 82 TX8 17 := Or.inl (UW_of (List.mem_of_getElem? (i := 371) (by decide +kernel)) rfl)
theorem lkm_X8_82 : Cond.fieldLink RX8 82 (TX8 17).1 (TX8 17).2.1 (TX8 17).2.2.1 ∈ UW := UW_of (List.mem_of_getElem? (i := 371) (by decide +kernel)) rfl
abbrev MX8_refuse : MI := (yX8_refuse, cX8_refuse, 2, (Option.some Jvm.ClassFile.FieldType.int))
theorem hm_X8_refuse : hMeth MX8_refuse 1 := ⟨UW_of (List.mem_of_getElem? (i := 428) (by decide +kernel)) rfl, UW_of (List.mem_of_getElem? (i := 94) (by decide +kernel)) rfl, ⟨by decide +kernel, by decide +kernel⟩, by decide +kernel, by decide⟩
theorem hv_X8_refuse : hVirt MX8_refuse 8 := ⟨UW_of (List.mem_of_getElem? (i := 427) (by decide +kernel)) rfl, UW_of (List.mem_of_getElem? (i := 0) (by decide +kernel)) rfl, ⟨_, _, rfl⟩, by decide⟩
theorem lk_X8_335 : LK RX8 335 TX8 18 := Or.inl (UW_of (List.mem_of_getElem? (i := 372) (by decide +kernel)) rfl)
abbrev MX8_accept : MI := (yX8_accept, cX8_accept, 2, (Option.some Jvm.ClassFile.FieldType.int))
theorem hm_X8_accept : hMeth MX8_accept 1 := ⟨UW_of (List.mem_of_getElem? (i := 444) (by decide +kernel)) rfl, UW_of (List.mem_of_getElem? (i := 94) (by decide +kernel)) rfl, ⟨by decide +kernel, by decide +kernel⟩, by decide +kernel, by decide⟩
theorem hv_X8_accept : hVirt MX8_accept 8 := ⟨UW_of (List.mem_of_getElem? (i := 443) (by decide +kernel)) rfl, UW_of (List.mem_of_getElem? (i := 1) (by decide +kernel)) rfl, ⟨_, _, rfl⟩, by decide⟩
abbrev MX8_men : MI := (yX8_men, cX8_men, 5, (Option.some Jvm.ClassFile.FieldType.int))
theorem hm_X8_men : hMeth MX8_men 3 := ⟨UW_of (List.mem_of_getElem? (i := 415) (by decide +kernel)) rfl, UW_of (List.mem_of_getElem? (i := 94) (by decide +kernel)) rfl, ⟨by decide +kernel, by decide +kernel⟩, by decide +kernel, by decide⟩
theorem hv_X8_men : hVirt MX8_men 8 := ⟨UW_of (List.mem_of_getElem? (i := 413) (by decide +kernel)) rfl, UW_of (List.mem_of_getElem? (i := 414) (by decide +kernel)) rfl, ⟨_, _, rfl⟩, by decide⟩
theorem ln_X8_85 : hLnk RX8 85 yX8_isSide := Or.inl (UW_of (List.mem_of_getElem? (i := 416) (by decide +kernel)) rfl)
theorem ln_X8_89 : hLnk RX8 89 yX8_isColumn := Or.inl (UW_of (List.mem_of_getElem? (i := 422) (by decide +kernel)) rfl)
theorem ln_X8_96 : hLnk RX8 96 yX8_refuse := Or.inl (UW_of (List.mem_of_getElem? (i := 425) (by decide +kernel)) rfl)
theorem lk_X8_100 : LK RX8 100 TX0 0 := Or.inr ⟨"HyphenWar", UW_of (List.mem_of_getElem? (i := 140) (by decide +kernel)) rfl⟩
theorem ln_X8_103 : hLnk RX8 103 yX1_menAt := Or.inl (UW_of (List.mem_of_getElem? (i := 429) (by decide +kernel)) rfl)
theorem ln_X8_107 : hLnk RX8 107 yX1_setMen := Or.inl (UW_of (List.mem_of_getElem? (i := 433) (by decide +kernel)) rfl)
theorem ln_X8_111 : hLnk RX8 111 yX3_clear := Or.inl (UW_of (List.mem_of_getElem? (i := 437) (by decide +kernel)) rfl)
theorem ln_X8_114 : hLnk RX8 114 yX8_accept := Or.inl (UW_of (List.mem_of_getElem? (i := 441) (by decide +kernel)) rfl)
abbrev MX8_at : MI := (yX8_at, cX8_at, 4, (Option.some Jvm.ClassFile.FieldType.int))
theorem hm_X8_at : hMeth MX8_at 2 := ⟨UW_of (List.mem_of_getElem? (i := 448) (by decide +kernel)) rfl, UW_of (List.mem_of_getElem? (i := 94) (by decide +kernel)) rfl, ⟨by decide +kernel, by decide +kernel⟩, by decide +kernel, by decide⟩
theorem hv_X8_at : hVirt MX8_at 8 := ⟨UW_of (List.mem_of_getElem? (i := 446) (by decide +kernel)) rfl, UW_of (List.mem_of_getElem? (i := 447) (by decide +kernel)) rfl, ⟨_, _, rfl⟩, by decide⟩
theorem ln_X8_117 : hLnk RX8 117 yX1_lineAt := Or.inl (UW_of (List.mem_of_getElem? (i := 449) (by decide +kernel)) rfl)
theorem ln_X8_120 : hLnk RX8 120 yX0_lawInForce := Or.inl (UW_of (List.mem_of_getElem? (i := 453) (by decide +kernel)) rfl)
theorem ln_X8_124 : hLnk RX8 124 yX7_costOf := Or.inl (UW_of (List.mem_of_getElem? (i := 465) (by decide +kernel)) rfl)
theorem ln_X8_128 : hLnk RX8 128 yX7_isBarred := Or.inl (UW_of (List.mem_of_getElem? (i := 512) (by decide +kernel)) rfl)
abbrev MX8_of : MI := (yX8_of, cX8_of, 4, (Option.some Jvm.ClassFile.FieldType.int))
theorem hm_X8_of : hMeth MX8_of 2 := ⟨UW_of (List.mem_of_getElem? (i := 520) (by decide +kernel)) rfl, UW_of (List.mem_of_getElem? (i := 94) (by decide +kernel)) rfl, ⟨by decide +kernel, by decide +kernel⟩, by decide +kernel, by decide⟩
theorem hv_X8_of : hVirt MX8_of 8 := ⟨UW_of (List.mem_of_getElem? (i := 518) (by decide +kernel)) rfl, UW_of (List.mem_of_getElem? (i := 519) (by decide +kernel)) rfl, ⟨_, _, rfl⟩, by decide⟩
theorem ln_X8_132 : hLnk RX8 132 yX1_supplyOf := Or.inl (UW_of (List.mem_of_getElem? (i := 521) (by decide +kernel)) rfl)
theorem ln_X8_135 : hLnk RX8 135 yX1_temperOf := Or.inl (UW_of (List.mem_of_getElem? (i := 522) (by decide +kernel)) rfl)
theorem ln_X8_138 : hLnk RX8 138 yX7_feedOf := Or.inl (UW_of (List.mem_of_getElem? (i := 523) (by decide +kernel)) rfl)
theorem ln_X8_142 : hLnk RX8 142 yX1_menOf := Or.inl (UW_of (List.mem_of_getElem? (i := 532) (by decide +kernel)) rfl)
abbrev MX8_sign : MI := (yX8_sign, cX8_sign, 8, (Option.some Jvm.ClassFile.FieldType.int))
theorem hm_X8_sign : hMeth MX8_sign 4 := ⟨UW_of (List.mem_of_getElem? (i := 536) (by decide +kernel)) rfl, UW_of (List.mem_of_getElem? (i := 94) (by decide +kernel)) rfl, ⟨by decide +kernel, by decide +kernel⟩, by decide +kernel, by decide⟩
theorem hv_X8_sign : hVirt MX8_sign 8 := ⟨UW_of (List.mem_of_getElem? (i := 534) (by decide +kernel)) rfl, UW_of (List.mem_of_getElem? (i := 535) (by decide +kernel)) rfl, ⟨_, _, rfl⟩, by decide⟩
theorem ln_X8_145 : hLnk RX8 145 yX8_isSign := Or.inl (UW_of (List.mem_of_getElem? (i := 537) (by decide +kernel)) rfl)
theorem lk_X8_148 : LK RX8 148 TX0 2 := Or.inr ⟨"HyphenWar", UW_of (List.mem_of_getElem? (i := 146) (by decide +kernel)) rfl⟩
theorem lk_X8_151 : LK RX8 151 TX0 1 := Or.inr ⟨"HyphenWar", UW_of (List.mem_of_getElem? (i := 144) (by decide +kernel)) rfl⟩
theorem ln_X8_154 : hLnk RX8 154 yX8_pair := Or.inl (UW_of (List.mem_of_getElem? (i := 540) (by decide +kernel)) rfl)
abbrev MX8_reads : MI := (yX8_reads, cX8_reads, 4, (Option.some Jvm.ClassFile.FieldType.int))
theorem hm_X8_reads : hMeth MX8_reads 3 := ⟨UW_of (List.mem_of_getElem? (i := 546) (by decide +kernel)) rfl, UW_of (List.mem_of_getElem? (i := 94) (by decide +kernel)) rfl, ⟨by decide +kernel, by decide +kernel⟩, by decide +kernel, by decide⟩
theorem hv_X8_reads : hVirt MX8_reads 8 := ⟨UW_of (List.mem_of_getElem? (i := 544) (by decide +kernel)) rfl, UW_of (List.mem_of_getElem? (i := 545) (by decide +kernel)) rfl, ⟨_, _, rfl⟩, by decide⟩
theorem ln_X8_157 : hLnk RX8 157 yX7_readingOf := Or.inl (UW_of (List.mem_of_getElem? (i := 547) (by decide +kernel)) rfl)
abbrev MX8_word : MI := (yX8_word, cX8_word, 8, (Option.some Jvm.ClassFile.FieldType.int))
theorem hm_X8_word : hMeth MX8_word 4 := ⟨UW_of (List.mem_of_getElem? (i := 555) (by decide +kernel)) rfl, UW_of (List.mem_of_getElem? (i := 94) (by decide +kernel)) rfl, ⟨by decide +kernel, by decide +kernel⟩, by decide +kernel, by decide⟩
theorem hv_X8_word : hVirt MX8_word 8 := ⟨UW_of (List.mem_of_getElem? (i := 553) (by decide +kernel)) rfl, UW_of (List.mem_of_getElem? (i := 554) (by decide +kernel)) rfl, ⟨_, _, rfl⟩, by decide⟩
theorem ln_X8_161 : hLnk RX8 161 yX8_isWord := Or.inl (UW_of (List.mem_of_getElem? (i := 556) (by decide +kernel)) rfl)
theorem lk_X8_164 : LK RX8 164 TX0 4 := Or.inr ⟨"HyphenWar", UW_of (List.mem_of_getElem? (i := 154) (by decide +kernel)) rfl⟩
theorem lk_X8_167 : LK RX8 167 TX0 3 := Or.inr ⟨"HyphenWar", UW_of (List.mem_of_getElem? (i := 151) (by decide +kernel)) rfl⟩
abbrev MX8_terms : MI := (yX8_terms, cX8_terms, 4, (Option.some Jvm.ClassFile.FieldType.int))
theorem hm_X8_terms : hMeth MX8_terms 2 := ⟨UW_of (List.mem_of_getElem? (i := 562) (by decide +kernel)) rfl, UW_of (List.mem_of_getElem? (i := 94) (by decide +kernel)) rfl, ⟨by decide +kernel, by decide +kernel⟩, by decide +kernel, by decide⟩
theorem hv_X8_terms : hVirt MX8_terms 8 := ⟨UW_of (List.mem_of_getElem? (i := 560) (by decide +kernel)) rfl, UW_of (List.mem_of_getElem? (i := 561) (by decide +kernel)) rfl, ⟨_, _, rfl⟩, by decide⟩
theorem ln_X8_170 : hLnk RX8 170 yX0_termOf := Or.inl (UW_of (List.mem_of_getElem? (i := 563) (by decide +kernel)) rfl)
theorem ln_X8_173 : hLnk RX8 173 yX0_termFits := Or.inl (UW_of (List.mem_of_getElem? (i := 568) (by decide +kernel)) rfl)
theorem ln_X8_177 : hLnk RX8 177 yX0_setTerm := Or.inl (UW_of (List.mem_of_getElem? (i := 572) (by decide +kernel)) rfl)
abbrev MX8_addBytes : MI := (yX8_addBytes, cX8_addBytes, 3, none)
theorem hm_X8_addBytes : hMeth MX8_addBytes 1 := ⟨UW_of (List.mem_of_getElem? (i := 587) (by decide +kernel)) rfl, UW_of (List.mem_of_getElem? (i := 94) (by decide +kernel)) rfl, ⟨by decide +kernel, by decide +kernel⟩, by decide +kernel, by decide⟩
theorem hv_X8_addBytes : hVirt MX8_addBytes 8 := ⟨UW_of (List.mem_of_getElem? (i := 586) (by decide +kernel)) rfl, UW_of (List.mem_of_getElem? (i := 2) (by decide +kernel)) rfl, ⟨_, _, rfl⟩, by decide⟩
theorem lk_X8_181 : LK RX8 181 TX8 12 := Or.inl (UW_of (List.mem_of_getElem? (i := 366) (by decide +kernel)) rfl)
abbrev MX8_feed : MI := (yX8_feed, cX8_feed, 6, (Option.some Jvm.ClassFile.FieldType.int))
theorem hm_X8_feed : hMeth MX8_feed 5 := ⟨UW_of (List.mem_of_getElem? (i := 583) (by decide +kernel)) rfl, UW_of (List.mem_of_getElem? (i := 94) (by decide +kernel)) rfl, ⟨by decide +kernel, by decide +kernel⟩, by decide +kernel, by decide⟩
theorem hv_X8_feed : hVirt MX8_feed 8 := ⟨UW_of (List.mem_of_getElem? (i := 581) (by decide +kernel)) rfl, UW_of (List.mem_of_getElem? (i := 582) (by decide +kernel)) rfl, ⟨_, _, rfl⟩, by decide⟩
theorem ln_X8_184 : hLnk RX8 184 yX8_addBytes := Or.inl (UW_of (List.mem_of_getElem? (i := 584) (by decide +kernel)) rfl)
abbrev MX8_end : MI := (yX8_end, cX8_end, 2, (Option.some Jvm.ClassFile.FieldType.int))
theorem hm_X8_end : hMeth MX8_end 1 := ⟨UW_of (List.mem_of_getElem? (i := 591) (by decide +kernel)) rfl, UW_of (List.mem_of_getElem? (i := 94) (by decide +kernel)) rfl, ⟨by decide +kernel, by decide +kernel⟩, by decide +kernel, by decide⟩
theorem hv_X8_end : hVirt MX8_end 8 := ⟨UW_of (List.mem_of_getElem? (i := 589) (by decide +kernel)) rfl, UW_of (List.mem_of_getElem? (i := 590) (by decide +kernel)) rfl, ⟨_, _, rfl⟩, by decide⟩
abbrev MX8_tellMen : MI := (yX8_tellMen, cX8_tellMen, 2, (Option.some Jvm.ClassFile.FieldType.boolean))
theorem hm_X8_tellMen : hMeth MX8_tellMen 1 := ⟨UW_of (List.mem_of_getElem? (i := 599) (by decide +kernel)) rfl, UW_of (List.mem_of_getElem? (i := 94) (by decide +kernel)) rfl, ⟨by decide +kernel, by decide +kernel⟩, by decide +kernel, by decide⟩
theorem hv_X8_tellMen : hVirt MX8_tellMen 8 := ⟨UW_of (List.mem_of_getElem? (i := 598) (by decide +kernel)) rfl, UW_of (List.mem_of_getElem? (i := 3) (by decide +kernel)) rfl, ⟨_, _, rfl⟩, by decide⟩
abbrev MX8_row : MI := (yX8_row, cX8_row, 3, (Option.some Jvm.ClassFile.FieldType.int))
theorem hm_X8_row : hMeth MX8_row 0 := ⟨UW_of (List.mem_of_getElem? (i := 595) (by decide +kernel)) rfl, UW_of (List.mem_of_getElem? (i := 94) (by decide +kernel)) rfl, ⟨by decide +kernel, by decide +kernel⟩, by decide +kernel, by decide⟩
theorem hv_X8_row : hVirt MX8_row 8 := ⟨UW_of (List.mem_of_getElem? (i := 593) (by decide +kernel)) rfl, UW_of (List.mem_of_getElem? (i := 594) (by decide +kernel)) rfl, ⟨_, _, rfl⟩, by decide⟩
theorem lk_X8_188 : LK RX8 188 TX8 14 := Or.inl (UW_of (List.mem_of_getElem? (i := 368) (by decide +kernel)) rfl)
theorem ln_X8_191 : hLnk RX8 191 yX8_tellMen := Or.inl (UW_of (List.mem_of_getElem? (i := 596) (by decide +kernel)) rfl)
abbrev MX8_strokes : MI := (yX8_strokes, cX8_strokes, 1, (Option.some Jvm.ClassFile.FieldType.int))
theorem hm_X8_strokes : hMeth MX8_strokes 0 := ⟨UW_of (List.mem_of_getElem? (i := 603) (by decide +kernel)) rfl, UW_of (List.mem_of_getElem? (i := 94) (by decide +kernel)) rfl, ⟨by decide +kernel, by decide +kernel⟩, by decide +kernel, by decide⟩
theorem hv_X8_strokes : hVirt MX8_strokes 8 := ⟨UW_of (List.mem_of_getElem? (i := 601) (by decide +kernel)) rfl, UW_of (List.mem_of_getElem? (i := 602) (by decide +kernel)) rfl, ⟨_, _, rfl⟩, by decide⟩
abbrev MX8_law : MI := (yX8_law, cX8_law, 3, (Option.some Jvm.ClassFile.FieldType.int))
theorem hm_X8_law : hMeth MX8_law 0 := ⟨UW_of (List.mem_of_getElem? (i := 607) (by decide +kernel)) rfl, UW_of (List.mem_of_getElem? (i := 94) (by decide +kernel)) rfl, ⟨by decide +kernel, by decide +kernel⟩, by decide +kernel, by decide⟩
theorem hv_X8_law : hVirt MX8_law 8 := ⟨UW_of (List.mem_of_getElem? (i := 605) (by decide +kernel)) rfl, UW_of (List.mem_of_getElem? (i := 606) (by decide +kernel)) rfl, ⟨_, _, rfl⟩, by decide⟩
theorem lk_X8_194 : LK RX8 194 TX0 14 := Or.inr ⟨"HyphenWar", UW_of (List.mem_of_getElem? (i := 180) (by decide +kernel)) rfl⟩
theorem ln_X8_197 : hLnk RX8 197 yX4_readText := Or.inl (UW_of (List.mem_of_getElem? (i := 608) (by decide +kernel)) rfl)
theorem lk_X8_201 : LK RX8 201 TX0 13 := Or.inr ⟨"HyphenWar", UW_of (List.mem_of_getElem? (i := 178) (by decide +kernel)) rfl⟩
theorem cl_X8_205 : Cond.classLink RX8 205 RX6 ∈ UW := UW_of (List.mem_of_getElem? (i := 749) (by decide +kernel)) rfl
theorem lk_X8_207 : LK RX8 207 TX4 7 := Or.inr ⟨"HyphenWar", UW_of (List.mem_of_getElem? (i := 313) (by decide +kernel)) rfl⟩
theorem ln_X8_211 : hLnk RX8 211 yX6_init_ := Or.inl (UW_of (List.mem_of_getElem? (i := 750) (by decide +kernel)) rfl)
abbrev MX8_act : MI := (yX8_act, cX8_act, 6, (Option.some Jvm.ClassFile.FieldType.int))
theorem hm_X8_act : hMeth MX8_act 4 := ⟨UW_of (List.mem_of_getElem? (i := 784) (by decide +kernel)) rfl, UW_of (List.mem_of_getElem? (i := 94) (by decide +kernel)) rfl, ⟨by decide +kernel, by decide +kernel⟩, by decide +kernel, by decide⟩
theorem hv_X8_act : hVirt MX8_act 8 := ⟨UW_of (List.mem_of_getElem? (i := 783) (by decide +kernel)) rfl, UW_of (List.mem_of_getElem? (i := 19) (by decide +kernel)) rfl, ⟨_, _, rfl⟩, by decide⟩
theorem ln_X8_214 : hLnk RX8 214 yX1_copyFrom := Or.inl (UW_of (List.mem_of_getElem? (i := 761) (by decide +kernel)) rfl)
theorem ln_X8_343 : hLnk RX8 343 yX7_doAttack := Or.inl (UW_of (List.mem_of_getElem? (i := 785) (by decide +kernel)) rfl)
theorem ln_X8_346 : hLnk RX8 346 yX7_doShift := Or.inl (UW_of (List.mem_of_getElem? (i := 815) (by decide +kernel)) rfl)
theorem ln_X8_350 : hLnk RX8 350 yX7_doShow := Or.inl (UW_of (List.mem_of_getElem? (i := 823) (by decide +kernel)) rfl)
theorem ln_X8_353 : hLnk RX8 353 yX7_doPass := Or.inl (UW_of (List.mem_of_getElem? (i := 835) (by decide +kernel)) rfl)
theorem ln_X8_356 : hLnk RX8 356 yX3_add := Or.inl (UW_of (List.mem_of_getElem? (i := 842) (by decide +kernel)) rfl)
abbrev MX8_runOrders : MI := (yX8_runOrders, cX8_runOrders, 12, (Option.some Jvm.ClassFile.FieldType.int))
theorem hm_X8_runOrders : hMeth MX8_runOrders 1 := ⟨UW_of (List.mem_of_getElem? (i := 774) (by decide +kernel)) rfl, UW_of (List.mem_of_getElem? (i := 94) (by decide +kernel)) rfl, ⟨by decide +kernel, by decide +kernel⟩, by decide +kernel, by decide⟩
theorem hv_X8_runOrders : hVirt MX8_runOrders 8 := ⟨UW_of (List.mem_of_getElem? (i := 773) (by decide +kernel)) rfl, UW_of (List.mem_of_getElem? (i := 18) (by decide +kernel)) rfl, ⟨_, _, rfl⟩, by decide⟩
theorem lk_X8_360 : LK RX8 360 TX7 1 := Or.inr ⟨"HyphenWar", UW_of (List.mem_of_getElem? (i := 239) (by decide +kernel)) rfl⟩
theorem lk_X8_364 : LK RX8 364 TX6 6 := Or.inr ⟨"HyphenWar", UW_of (List.mem_of_getElem? (i := 289) (by decide +kernel)) rfl⟩
theorem lk_X8_367 : LK RX8 367 TX6 4 := Or.inr ⟨"HyphenWar", UW_of (List.mem_of_getElem? (i := 283) (by decide +kernel)) rfl⟩
theorem ln_X8_370 : hLnk RX8 370 yX5_setOrderWords := Or.inl (UW_of (List.mem_of_getElem? (i := 775) (by decide +kernel)) rfl)
theorem lk_X8_376 : LK RX8 376 TX6 5 := Or.inr ⟨"HyphenWar", UW_of (List.mem_of_getElem? (i := 286) (by decide +kernel)) rfl⟩
theorem ln_X8_379 : hLnk RX8 379 yX5_valueOf := Or.inl (UW_of (List.mem_of_getElem? (i := 779) (by decide +kernel)) rfl)
theorem cn_X8_383 : Cond.constantLong RX8 383 (4000000000) ∈ UW := UW_of (List.mem_of_getElem? (i := 780) (by decide +kernel)) rfl
theorem lk_X8_385 : LK RX8 385 TX6 3 := Or.inr ⟨"HyphenWar", UW_of (List.mem_of_getElem? (i := 281) (by decide +kernel)) rfl⟩
theorem ln_X8_231 : hLnk RX8 231 yX8_act := Or.inl (UW_of (List.mem_of_getElem? (i := 781) (by decide +kernel)) rfl)
abbrev MX8_orders : MI := (yX8_orders, cX8_orders, 2, (Option.some Jvm.ClassFile.FieldType.int))
theorem hm_X8_orders : hMeth MX8_orders 0 := ⟨UW_of (List.mem_of_getElem? (i := 760) (by decide +kernel)) rfl, UW_of (List.mem_of_getElem? (i := 94) (by decide +kernel)) rfl, ⟨by decide +kernel, by decide +kernel⟩, by decide +kernel, by decide⟩
theorem hv_X8_orders : hVirt MX8_orders 8 := ⟨UW_of (List.mem_of_getElem? (i := 758) (by decide +kernel)) rfl, UW_of (List.mem_of_getElem? (i := 759) (by decide +kernel)) rfl, ⟨_, _, rfl⟩, by decide⟩
theorem ln_X8_218 : hLnk RX8 218 yX3_copyFrom := Or.inl (UW_of (List.mem_of_getElem? (i := 766) (by decide +kernel)) rfl)
theorem ln_X8_221 : hLnk RX8 221 yX8_runOrders := Or.inl (UW_of (List.mem_of_getElem? (i := 771) (by decide +kernel)) rfl)
abbrev MX8_fault : MI := (yX8_fault, cX8_fault, 1, (Option.some Jvm.ClassFile.FieldType.int))
theorem hm_X8_fault : hMeth MX8_fault 0 := ⟨UW_of (List.mem_of_getElem? (i := 850) (by decide +kernel)) rfl, UW_of (List.mem_of_getElem? (i := 94) (by decide +kernel)) rfl, ⟨by decide +kernel, by decide +kernel⟩, by decide +kernel, by decide⟩
theorem hv_X8_fault : hVirt MX8_fault 8 := ⟨UW_of (List.mem_of_getElem? (i := 848) (by decide +kernel)) rfl, UW_of (List.mem_of_getElem? (i := 849) (by decide +kernel)) rfl, ⟨_, _, rfl⟩, by decide⟩
abbrev MX8_stopped : MI := (yX8_stopped, cX8_stopped, 1, (Option.some Jvm.ClassFile.FieldType.int))
theorem hm_X8_stopped : hMeth MX8_stopped 0 := ⟨UW_of (List.mem_of_getElem? (i := 854) (by decide +kernel)) rfl, UW_of (List.mem_of_getElem? (i := 94) (by decide +kernel)) rfl, ⟨by decide +kernel, by decide +kernel⟩, by decide +kernel, by decide⟩
theorem hv_X8_stopped : hVirt MX8_stopped 8 := ⟨UW_of (List.mem_of_getElem? (i := 852) (by decide +kernel)) rfl, UW_of (List.mem_of_getElem? (i := 853) (by decide +kernel)) rfl, ⟨_, _, rfl⟩, by decide⟩
abbrev MX8_force : MI := (yX8_force, cX8_force, 3, (Option.some Jvm.ClassFile.FieldType.int))
theorem hm_X8_force : hMeth MX8_force 1 := ⟨UW_of (List.mem_of_getElem? (i := 858) (by decide +kernel)) rfl, UW_of (List.mem_of_getElem? (i := 94) (by decide +kernel)) rfl, ⟨by decide +kernel, by decide +kernel⟩, by decide +kernel, by decide⟩
theorem hv_X8_force : hVirt MX8_force 8 := ⟨UW_of (List.mem_of_getElem? (i := 856) (by decide +kernel)) rfl, UW_of (List.mem_of_getElem? (i := 857) (by decide +kernel)) rfl, ⟨_, _, rfl⟩, by decide⟩
theorem ln_X8_225 : hLnk RX8 225 yX0_hasLaw := Or.inl (UW_of (List.mem_of_getElem? (i := 859) (by decide +kernel)) rfl)
theorem lk_X8_228 : LK RX8 228 TX0 15 := Or.inr ⟨"HyphenWar", UW_of (List.mem_of_getElem? (i := 182) (by decide +kernel)) rfl⟩
abbrev MX8_answer : MI := (yX8_answer, cX8_answer, 2, (Option.some Jvm.ClassFile.FieldType.int))
theorem hm_X8_answer : hMeth MX8_answer 1 := ⟨UW_of (List.mem_of_getElem? (i := 867) (by decide +kernel)) rfl, UW_of (List.mem_of_getElem? (i := 94) (by decide +kernel)) rfl, ⟨by decide +kernel, by decide +kernel⟩, by decide +kernel, by decide⟩
theorem hv_X8_answer : hVirt MX8_answer 8 := ⟨UW_of (List.mem_of_getElem? (i := 866) (by decide +kernel)) rfl, UW_of (List.mem_of_getElem? (i := 20) (by decide +kernel)) rfl, ⟨_, _, rfl⟩, by decide⟩
abbrev MX8_attack : MI := (yX8_attack, cX8_attack, 3, (Option.some Jvm.ClassFile.FieldType.int))
theorem hm_X8_attack : hMeth MX8_attack 2 := ⟨UW_of (List.mem_of_getElem? (i := 863) (by decide +kernel)) rfl, UW_of (List.mem_of_getElem? (i := 94) (by decide +kernel)) rfl, ⟨by decide +kernel, by decide +kernel⟩, by decide +kernel, by decide⟩
theorem hv_X8_attack : hVirt MX8_attack 8 := ⟨UW_of (List.mem_of_getElem? (i := 861) (by decide +kernel)) rfl, UW_of (List.mem_of_getElem? (i := 862) (by decide +kernel)) rfl, ⟨_, _, rfl⟩, by decide⟩
theorem ln_X8_235 : hLnk RX8 235 yX8_answer := Or.inl (UW_of (List.mem_of_getElem? (i := 864) (by decide +kernel)) rfl)
abbrev MX8_shift : MI := (yX8_shift, cX8_shift, 4, (Option.some Jvm.ClassFile.FieldType.int))
theorem hm_X8_shift : hMeth MX8_shift 3 := ⟨UW_of (List.mem_of_getElem? (i := 871) (by decide +kernel)) rfl, UW_of (List.mem_of_getElem? (i := 94) (by decide +kernel)) rfl, ⟨by decide +kernel, by decide +kernel⟩, by decide +kernel, by decide⟩
theorem hv_X8_shift : hVirt MX8_shift 8 := ⟨UW_of (List.mem_of_getElem? (i := 869) (by decide +kernel)) rfl, UW_of (List.mem_of_getElem? (i := 870) (by decide +kernel)) rfl, ⟨_, _, rfl⟩, by decide⟩
abbrev MX8_show : MI := (yX8_show, cX8_show, 3, (Option.some Jvm.ClassFile.FieldType.int))
theorem hm_X8_show : hMeth MX8_show 2 := ⟨UW_of (List.mem_of_getElem? (i := 875) (by decide +kernel)) rfl, UW_of (List.mem_of_getElem? (i := 94) (by decide +kernel)) rfl, ⟨by decide +kernel, by decide +kernel⟩, by decide +kernel, by decide⟩
theorem hv_X8_show : hVirt MX8_show 8 := ⟨UW_of (List.mem_of_getElem? (i := 873) (by decide +kernel)) rfl, UW_of (List.mem_of_getElem? (i := 874) (by decide +kernel)) rfl, ⟨_, _, rfl⟩, by decide⟩
abbrev MX8_pass : MI := (yX8_pass, cX8_pass, 1, (Option.some Jvm.ClassFile.FieldType.int))
theorem hm_X8_pass : hMeth MX8_pass 0 := ⟨UW_of (List.mem_of_getElem? (i := 879) (by decide +kernel)) rfl, UW_of (List.mem_of_getElem? (i := 94) (by decide +kernel)) rfl, ⟨by decide +kernel, by decide +kernel⟩, by decide +kernel, by decide⟩
theorem hv_X8_pass : hVirt MX8_pass 8 := ⟨UW_of (List.mem_of_getElem? (i := 877) (by decide +kernel)) rfl, UW_of (List.mem_of_getElem? (i := 878) (by decide +kernel)) rfl, ⟨_, _, rfl⟩, by decide⟩
abbrev MX8_undo : MI := (yX8_undo, cX8_undo, 1, (Option.some Jvm.ClassFile.FieldType.int))
theorem hm_X8_undo : hMeth MX8_undo 0 := ⟨UW_of (List.mem_of_getElem? (i := 883) (by decide +kernel)) rfl, UW_of (List.mem_of_getElem? (i := 94) (by decide +kernel)) rfl, ⟨by decide +kernel, by decide +kernel⟩, by decide +kernel, by decide⟩
theorem hv_X8_undo : hVirt MX8_undo 8 := ⟨UW_of (List.mem_of_getElem? (i := 881) (by decide +kernel)) rfl, UW_of (List.mem_of_getElem? (i := 882) (by decide +kernel)) rfl, ⟨_, _, rfl⟩, by decide⟩
theorem lk_X8_238 : LK RX8 238 TX3 3 := Or.inr ⟨"HyphenWar", UW_of (List.mem_of_getElem? (i := 342) (by decide +kernel)) rfl⟩
theorem ln_X8_241 : hLnk RX8 241 yX3_takeLatest := Or.inl (UW_of (List.mem_of_getElem? (i := 884) (by decide +kernel)) rfl)
abbrev MX8_countOrSet : MI := (yX8_countOrSet, cX8_countOrSet, 2, (Option.some Jvm.ClassFile.FieldType.int))
theorem hm_X8_countOrSet : hMeth MX8_countOrSet 2 := ⟨UW_of (List.mem_of_getElem? (i := 913) (by decide +kernel)) rfl, UW_of (List.mem_of_getElem? (i := 94) (by decide +kernel)) rfl, ⟨by decide +kernel, by decide +kernel⟩, by decide +kernel, by decide⟩
theorem hs_X8_countOrSet : Cond.static MX8_countOrSet.1 ∈ UW := UW_of (List.mem_of_getElem? (i := 912) (by decide +kernel)) rfl
theorem ln_X8_338 : hLnk RX8 338 yJ6_bitCount_0f7a4 := Or.inl (UW_of (List.mem_of_getElem? (i := 914) (by decide +kernel)) rfl)
abbrev MX8_treaty : MI := (yX8_treaty, cX8_treaty, 2, (Option.some Jvm.ClassFile.FieldType.int))
theorem hm_X8_treaty : hMeth MX8_treaty 1 := ⟨UW_of (List.mem_of_getElem? (i := 892) (by decide +kernel)) rfl, UW_of (List.mem_of_getElem? (i := 94) (by decide +kernel)) rfl, ⟨by decide +kernel, by decide +kernel⟩, by decide +kernel, by decide⟩
theorem hv_X8_treaty : hVirt MX8_treaty 8 := ⟨UW_of (List.mem_of_getElem? (i := 890) (by decide +kernel)) rfl, UW_of (List.mem_of_getElem? (i := 891) (by decide +kernel)) rfl, ⟨_, _, rfl⟩, by decide⟩
theorem ln_X8_245 : hLnk RX8 245 yX2_treatyWords := Or.inl (UW_of (List.mem_of_getElem? (i := 893) (by decide +kernel)) rfl)
theorem ln_X8_249 : hLnk RX8 249 yX8_countOrSet := Or.inl (UW_of (List.mem_of_getElem? (i := 911) (by decide +kernel)) rfl)
abbrev MX8_hear : MI := (yX8_hear, cX8_hear, 4, (Option.some Jvm.ClassFile.FieldType.int))
theorem hm_X8_hear : hMeth MX8_hear 2 := ⟨UW_of (List.mem_of_getElem? (i := 918) (by decide +kernel)) rfl, UW_of (List.mem_of_getElem? (i := 94) (by decide +kernel)) rfl, ⟨by decide +kernel, by decide +kernel⟩, by decide +kernel, by decide⟩
theorem hv_X8_hear : hVirt MX8_hear 8 := ⟨UW_of (List.mem_of_getElem? (i := 916) (by decide +kernel)) rfl, UW_of (List.mem_of_getElem? (i := 917) (by decide +kernel)) rfl, ⟨_, _, rfl⟩, by decide⟩
theorem lk_X8_252 : LK RX8 252 TX0 7 := Or.inr ⟨"HyphenWar", UW_of (List.mem_of_getElem? (i := 163) (by decide +kernel)) rfl⟩
theorem lk_X8_255 : LK RX8 255 TX0 5 := Or.inr ⟨"HyphenWar", UW_of (List.mem_of_getElem? (i := 157) (by decide +kernel)) rfl⟩
theorem lk_X8_258 : LK RX8 258 TX0 6 := Or.inr ⟨"HyphenWar", UW_of (List.mem_of_getElem? (i := 160) (by decide +kernel)) rfl⟩
abbrev MX8_tell : MI := (yX8_tell, cX8_tell, 4, (Option.some Jvm.ClassFile.FieldType.int))
theorem hm_X8_tell : hMeth MX8_tell 2 := ⟨UW_of (List.mem_of_getElem? (i := 922) (by decide +kernel)) rfl, UW_of (List.mem_of_getElem? (i := 94) (by decide +kernel)) rfl, ⟨by decide +kernel, by decide +kernel⟩, by decide +kernel, by decide⟩
theorem hv_X8_tell : hVirt MX8_tell 8 := ⟨UW_of (List.mem_of_getElem? (i := 920) (by decide +kernel)) rfl, UW_of (List.mem_of_getElem? (i := 921) (by decide +kernel)) rfl, ⟨_, _, rfl⟩, by decide⟩
theorem lk_X8_261 : LK RX8 261 TX0 10 := Or.inr ⟨"HyphenWar", UW_of (List.mem_of_getElem? (i := 172) (by decide +kernel)) rfl⟩
theorem lk_X8_264 : LK RX8 264 TX0 8 := Or.inr ⟨"HyphenWar", UW_of (List.mem_of_getElem? (i := 166) (by decide +kernel)) rfl⟩
theorem lk_X8_267 : LK RX8 267 TX0 9 := Or.inr ⟨"HyphenWar", UW_of (List.mem_of_getElem? (i := 169) (by decide +kernel)) rfl⟩
abbrev MX8_forget : MI := (yX8_forget, cX8_forget, 2, (Option.some Jvm.ClassFile.FieldType.int))
theorem hm_X8_forget : hMeth MX8_forget 0 := ⟨UW_of (List.mem_of_getElem? (i := 926) (by decide +kernel)) rfl, UW_of (List.mem_of_getElem? (i := 94) (by decide +kernel)) rfl, ⟨by decide +kernel, by decide +kernel⟩, by decide +kernel, by decide⟩
theorem hv_X8_forget : hVirt MX8_forget 8 := ⟨UW_of (List.mem_of_getElem? (i := 924) (by decide +kernel)) rfl, UW_of (List.mem_of_getElem? (i := 925) (by decide +kernel)) rfl, ⟨_, _, rfl⟩, by decide⟩
abbrev MX8_probably : MI := (yX8_probably, cX8_probably, 1, (Option.some Jvm.ClassFile.FieldType.int))
theorem hm_X8_probably : hMeth MX8_probably 0 := ⟨UW_of (List.mem_of_getElem? (i := 930) (by decide +kernel)) rfl, UW_of (List.mem_of_getElem? (i := 94) (by decide +kernel)) rfl, ⟨by decide +kernel, by decide +kernel⟩, by decide +kernel, by decide⟩
theorem hv_X8_probably : hVirt MX8_probably 8 := ⟨UW_of (List.mem_of_getElem? (i := 928) (by decide +kernel)) rfl, UW_of (List.mem_of_getElem? (i := 929) (by decide +kernel)) rfl, ⟨_, _, rfl⟩, by decide⟩
theorem ln_X8_270 : hLnk RX8 270 yX2_probablyWith := Or.inl (UW_of (List.mem_of_getElem? (i := 931) (by decide +kernel)) rfl)
abbrev MX8_ask : MI := (yX8_ask, cX8_ask, 3, (Option.some Jvm.ClassFile.FieldType.int))
theorem hm_X8_ask : hMeth MX8_ask 1 := ⟨UW_of (List.mem_of_getElem? (i := 949) (by decide +kernel)) rfl, UW_of (List.mem_of_getElem? (i := 94) (by decide +kernel)) rfl, ⟨by decide +kernel, by decide +kernel⟩, by decide +kernel, by decide⟩
theorem hv_X8_ask : hVirt MX8_ask 8 := ⟨UW_of (List.mem_of_getElem? (i := 947) (by decide +kernel)) rfl, UW_of (List.mem_of_getElem? (i := 948) (by decide +kernel)) rfl, ⟨_, _, rfl⟩, by decide⟩
theorem ln_X8_273 : hLnk RX8 273 yX2_wordToAsk := Or.inl (UW_of (List.mem_of_getElem? (i := 950) (by decide +kernel)) rfl)
theorem ln_X8_276 : hLnk RX8 276 yX2_differenceAt := Or.inl (UW_of (List.mem_of_getElem? (i := 960) (by decide +kernel)) rfl)
abbrev MX8_chain : MI := (yX8_chain, cX8_chain, 5, (Option.some Jvm.ClassFile.FieldType.int))
theorem hm_X8_chain : hMeth MX8_chain 3 := ⟨UW_of (List.mem_of_getElem? (i := 964) (by decide +kernel)) rfl, UW_of (List.mem_of_getElem? (i := 94) (by decide +kernel)) rfl, ⟨by decide +kernel, by decide +kernel⟩, by decide +kernel, by decide⟩
theorem hv_X8_chain : hVirt MX8_chain 8 := ⟨UW_of (List.mem_of_getElem? (i := 962) (by decide +kernel)) rfl, UW_of (List.mem_of_getElem? (i := 963) (by decide +kernel)) rfl, ⟨_, _, rfl⟩, by decide⟩
theorem ln_X8_279 : hLnk RX8 279 yX2_chainFrom := Or.inl (UW_of (List.mem_of_getElem? (i := 965) (by decide +kernel)) rfl)
theorem ln_X8_283 : hLnk RX8 283 yJ9_abs_0f7a4 := Or.inl (UW_of (List.mem_of_getElem? (i := 970) (by decide +kernel)) rfl)
abbrev MX8_stilled : MI := (yX8_stilled, cX8_stilled, 2, (Option.some Jvm.ClassFile.FieldType.int))
theorem hm_X8_stilled : hMeth MX8_stilled 1 := ⟨UW_of (List.mem_of_getElem? (i := 974) (by decide +kernel)) rfl, UW_of (List.mem_of_getElem? (i := 94) (by decide +kernel)) rfl, ⟨by decide +kernel, by decide +kernel⟩, by decide +kernel, by decide⟩
theorem hv_X8_stilled : hVirt MX8_stilled 8 := ⟨UW_of (List.mem_of_getElem? (i := 972) (by decide +kernel)) rfl, UW_of (List.mem_of_getElem? (i := 973) (by decide +kernel)) rfl, ⟨_, _, rfl⟩, by decide⟩
theorem ln_X8_288 : hLnk RX8 288 yX2_signsToStill := Or.inl (UW_of (List.mem_of_getElem? (i := 975) (by decide +kernel)) rfl)
abbrev MX8_pushed : MI := (yX8_pushed, cX8_pushed, 4, (Option.some Jvm.ClassFile.FieldType.int))
theorem hm_X8_pushed : hMeth MX8_pushed 2 := ⟨UW_of (List.mem_of_getElem? (i := 987) (by decide +kernel)) rfl, UW_of (List.mem_of_getElem? (i := 94) (by decide +kernel)) rfl, ⟨by decide +kernel, by decide +kernel⟩, by decide +kernel, by decide⟩
theorem hv_X8_pushed : hVirt MX8_pushed 8 := ⟨UW_of (List.mem_of_getElem? (i := 985) (by decide +kernel)) rfl, UW_of (List.mem_of_getElem? (i := 986) (by decide +kernel)) rfl, ⟨_, _, rfl⟩, by decide⟩
theorem ln_X8_291 : hLnk RX8 291 yX2_columnsToPush := Or.inl (UW_of (List.mem_of_getElem? (i := 988) (by decide +kernel)) rfl)
theorem ln_X8_294 : hLnk RX8 294 yX2_costOfSet := Or.inl (UW_of (List.mem_of_getElem? (i := 1006) (by decide +kernel)) rfl)
abbrev MX8_level : MI := (yX8_level, cX8_level, 2, (Option.some Jvm.ClassFile.FieldType.int))
theorem hm_X8_level : hMeth MX8_level 1 := ⟨UW_of (List.mem_of_getElem? (i := 1010) (by decide +kernel)) rfl, UW_of (List.mem_of_getElem? (i := 94) (by decide +kernel)) rfl, ⟨by decide +kernel, by decide +kernel⟩, by decide +kernel, by decide⟩
theorem hv_X8_level : hVirt MX8_level 8 := ⟨UW_of (List.mem_of_getElem? (i := 1008) (by decide +kernel)) rfl, UW_of (List.mem_of_getElem? (i := 1009) (by decide +kernel)) rfl, ⟨_, _, rfl⟩, by decide⟩
theorem ln_X8_297 : hLnk RX8 297 yX2_menToLevel := Or.inl (UW_of (List.mem_of_getElem? (i := 1011) (by decide +kernel)) rfl)
abbrev MX8_posts : MI := (yX8_posts, cX8_posts, 3, (Option.some Jvm.ClassFile.FieldType.int))
theorem hm_X8_posts : hMeth MX8_posts 2 := ⟨UW_of (List.mem_of_getElem? (i := 1020) (by decide +kernel)) rfl, UW_of (List.mem_of_getElem? (i := 94) (by decide +kernel)) rfl, ⟨by decide +kernel, by decide +kernel⟩, by decide +kernel, by decide⟩
theorem hv_X8_posts : hVirt MX8_posts 8 := ⟨UW_of (List.mem_of_getElem? (i := 1018) (by decide +kernel)) rfl, UW_of (List.mem_of_getElem? (i := 1019) (by decide +kernel)) rfl, ⟨_, _, rfl⟩, by decide⟩
theorem ln_X8_300 : hLnk RX8 300 yX2_columnsForPosts := Or.inl (UW_of (List.mem_of_getElem? (i := 1021) (by decide +kernel)) rfl)
abbrev MX8_way : MI := (yX8_way, cX8_way, 8, (Option.some Jvm.ClassFile.FieldType.int))
theorem hm_X8_way : hMeth MX8_way 4 := ⟨UW_of (List.mem_of_getElem? (i := 1031) (by decide +kernel)) rfl, UW_of (List.mem_of_getElem? (i := 94) (by decide +kernel)) rfl, ⟨by decide +kernel, by decide +kernel⟩, by decide +kernel, by decide⟩
theorem hv_X8_way : hVirt MX8_way 8 := ⟨UW_of (List.mem_of_getElem? (i := 1029) (by decide +kernel)) rfl, UW_of (List.mem_of_getElem? (i := 1030) (by decide +kernel)) rfl, ⟨_, _, rfl⟩, by decide⟩
theorem ln_X8_303 : hLnk RX8 303 yX2_foesOnWay := Or.inl (UW_of (List.mem_of_getElem? (i := 1032) (by decide +kernel)) rfl)
theorem ln_X8_306 : hLnk RX8 306 yJ9_floorMod_7cf53 := Or.inl (UW_of (List.mem_of_getElem? (i := 1039) (by decide +kernel)) rfl)
abbrev MX8_holds : MI := (yX8_holds, cX8_holds, 2, (Option.some Jvm.ClassFile.FieldType.long))
theorem hm_X8_holds : hMeth MX8_holds 1 := ⟨UW_of (List.mem_of_getElem? (i := 1043) (by decide +kernel)) rfl, UW_of (List.mem_of_getElem? (i := 94) (by decide +kernel)) rfl, ⟨by decide +kernel, by decide +kernel⟩, by decide +kernel, by decide⟩
theorem hv_X8_holds : hVirt MX8_holds 8 := ⟨UW_of (List.mem_of_getElem? (i := 1041) (by decide +kernel)) rfl, UW_of (List.mem_of_getElem? (i := 1042) (by decide +kernel)) rfl, ⟨_, _, rfl⟩, by decide⟩
theorem ln_X8_309 : hLnk RX8 309 yX2_chanceToHold := Or.inl (UW_of (List.mem_of_getElem? (i := 1044) (by decide +kernel)) rfl)
theorem cn_X8_313 : Cond.constantLong RX8 313 (-1) ∈ UW := UW_of (List.mem_of_getElem? (i := 1051) (by decide +kernel)) rfl
abbrev MX8_which : MI := (yX8_which, cX8_which, 1, (Option.some Jvm.ClassFile.FieldType.int))
theorem hm_X8_which : hMeth MX8_which 0 := ⟨UW_of (List.mem_of_getElem? (i := 1055) (by decide +kernel)) rfl, UW_of (List.mem_of_getElem? (i := 94) (by decide +kernel)) rfl, ⟨by decide +kernel, by decide +kernel⟩, by decide +kernel, by decide⟩
theorem hv_X8_which : hVirt MX8_which 8 := ⟨UW_of (List.mem_of_getElem? (i := 1053) (by decide +kernel)) rfl, UW_of (List.mem_of_getElem? (i := 1054) (by decide +kernel)) rfl, ⟨_, _, rfl⟩, by decide⟩
theorem ln_X8_315 : hLnk RX8 315 yX2_signsThatFit := Or.inl (UW_of (List.mem_of_getElem? (i := 1056) (by decide +kernel)) rfl)
abbrev MX8_compare : MI := (yX8_compare, cX8_compare, 2, (Option.some Jvm.ClassFile.FieldType.int))
theorem hm_X8_compare : hMeth MX8_compare 1 := ⟨UW_of (List.mem_of_getElem? (i := 1068) (by decide +kernel)) rfl, UW_of (List.mem_of_getElem? (i := 94) (by decide +kernel)) rfl, ⟨by decide +kernel, by decide +kernel⟩, by decide +kernel, by decide⟩
theorem hv_X8_compare : hVirt MX8_compare 8 := ⟨UW_of (List.mem_of_getElem? (i := 1066) (by decide +kernel)) rfl, UW_of (List.mem_of_getElem? (i := 1067) (by decide +kernel)) rfl, ⟨_, _, rfl⟩, by decide⟩
theorem ln_X8_318 : hLnk RX8 318 yX0_lawOf := Or.inl (UW_of (List.mem_of_getElem? (i := 1069) (by decide +kernel)) rfl)
theorem ln_X8_322 : hLnk RX8 322 yX2_costOfAll := Or.inl (UW_of (List.mem_of_getElem? (i := 1070) (by decide +kernel)) rfl)
abbrev MX8_decades : MI := (yX8_decades, cX8_decades, 3, (Option.some Jvm.ClassFile.FieldType.int))
theorem hm_X8_decades : hMeth MX8_decades 2 := ⟨UW_of (List.mem_of_getElem? (i := 1077) (by decide +kernel)) rfl, UW_of (List.mem_of_getElem? (i := 94) (by decide +kernel)) rfl, ⟨by decide +kernel, by decide +kernel⟩, by decide +kernel, by decide⟩
theorem hv_X8_decades : hVirt MX8_decades 8 := ⟨UW_of (List.mem_of_getElem? (i := 1075) (by decide +kernel)) rfl, UW_of (List.mem_of_getElem? (i := 1076) (by decide +kernel)) rfl, ⟨_, _, rfl⟩, by decide⟩
theorem cn_X8_325 : Cond.constant RX8 325 (1000000) ∈ UW := UW_of (List.mem_of_getElem? (i := 1078) (by decide +kernel)) rfl
theorem lk_X8_326 : LK RX8 326 TX8 10 := Or.inl (UW_of (List.mem_of_getElem? (i := 364) (by decide +kernel)) rfl)
theorem ln_X8_330 : hLnk RX8 330 yX7_runDecades := Or.inl (UW_of (List.mem_of_getElem? (i := 1079) (by decide +kernel)) rfl)
abbrev MX8_drawn : MI := (yX8_drawn, cX8_drawn, 5, (Option.some Jvm.ClassFile.FieldType.int))
theorem hm_X8_drawn : hMeth MX8_drawn 2 := ⟨UW_of (List.mem_of_getElem? (i := 1095) (by decide +kernel)) rfl, UW_of (List.mem_of_getElem? (i := 94) (by decide +kernel)) rfl, ⟨by decide +kernel, by decide +kernel⟩, by decide +kernel, by decide⟩
theorem hv_X8_drawn : hVirt MX8_drawn 8 := ⟨UW_of (List.mem_of_getElem? (i := 1093) (by decide +kernel)) rfl, UW_of (List.mem_of_getElem? (i := 1094) (by decide +kernel)) rfl, ⟨_, _, rfl⟩, by decide⟩
abbrev MX8_image : MI := (yX8_image, cX8_image, 2, (Option.some Jvm.ClassFile.FieldType.int))
theorem hm_X8_image : hMeth MX8_image 1 := ⟨UW_of (List.mem_of_getElem? (i := 1099) (by decide +kernel)) rfl, UW_of (List.mem_of_getElem? (i := 94) (by decide +kernel)) rfl, ⟨by decide +kernel, by decide +kernel⟩, by decide +kernel, by decide⟩
theorem hv_X8_image : hVirt MX8_image 8 := ⟨UW_of (List.mem_of_getElem? (i := 1097) (by decide +kernel)) rfl, UW_of (List.mem_of_getElem? (i := 1098) (by decide +kernel)) rfl, ⟨_, _, rfl⟩, by decide⟩
theorem ln_X8_333 : hLnk RX8 333 yX0_copyFrom := Or.inl (UW_of (List.mem_of_getElem? (i := 1100) (by decide +kernel)) rfl)
abbrev MX8_back : MI := (yX8_back, cX8_back, 2, (Option.some Jvm.ClassFile.FieldType.int))
theorem hm_X8_back : hMeth MX8_back 1 := ⟨UW_of (List.mem_of_getElem? (i := 1109) (by decide +kernel)) rfl, UW_of (List.mem_of_getElem? (i := 94) (by decide +kernel)) rfl, ⟨by decide +kernel, by decide +kernel⟩, by decide +kernel, by decide⟩
theorem hv_X8_back : hVirt MX8_back 8 := ⟨UW_of (List.mem_of_getElem? (i := 1107) (by decide +kernel)) rfl, UW_of (List.mem_of_getElem? (i := 1108) (by decide +kernel)) rfl, ⟨_, _, rfl⟩, by decide⟩
abbrev MX8_count : MI := (yX8_count, cX8_count, 2, (Option.some Jvm.ClassFile.FieldType.int))
theorem hm_X8_count : hMeth MX8_count 1 := ⟨UW_of (List.mem_of_getElem? (i := 1113) (by decide +kernel)) rfl, UW_of (List.mem_of_getElem? (i := 94) (by decide +kernel)) rfl, ⟨by decide +kernel, by decide +kernel⟩, by decide +kernel, by decide⟩
theorem hv_X8_count : hVirt MX8_count 8 := ⟨UW_of (List.mem_of_getElem? (i := 1111) (by decide +kernel)) rfl, UW_of (List.mem_of_getElem? (i := 1112) (by decide +kernel)) rfl, ⟨_, _, rfl⟩, by decide⟩
abbrev MX8_status : MI := (yX8_status, cX8_status, 1, (Option.some Jvm.ClassFile.FieldType.int))
theorem hm_X8_status : hMeth MX8_status 0 := ⟨UW_of (List.mem_of_getElem? (i := 1117) (by decide +kernel)) rfl, UW_of (List.mem_of_getElem? (i := 94) (by decide +kernel)) rfl, ⟨by decide +kernel, by decide +kernel⟩, by decide +kernel, by decide⟩
theorem hv_X8_status : hVirt MX8_status 8 := ⟨UW_of (List.mem_of_getElem? (i := 1115) (by decide +kernel)) rfl, UW_of (List.mem_of_getElem? (i := 1116) (by decide +kernel)) rfl, ⟨_, _, rfl⟩, by decide⟩
abbrev MX9_init : MI := (yX9_init, cX9_init, 2, none)
theorem hm_X9_init : hMeth MX9_init 0 := ⟨UW_of (List.mem_of_getElem? (i := 1122) (by decide +kernel)) rfl, UW_of (List.mem_of_getElem? (i := 103) (by decide +kernel)) rfl, ⟨by decide +kernel, by decide +kernel⟩, by decide +kernel, by decide⟩
theorem hi_X9_init : Cond.instanceMethod MX9_init.1 ∈ UW := UW_of (List.mem_of_getElem? (i := 1121) (by decide +kernel)) rfl
theorem ln_X9_1 : Cond.methodLink RX9 1 objectInit ∈ UW := UW_of (List.mem_of_getElem? (i := 1123) (by decide +kernel)) rfl
theorem lk_X9_7 : LK RX9 7 TX9 2 := Or.inl (UW_of (List.mem_of_getElem? (i := 1146) (by decide +kernel)) rfl)
theorem lkm_X9_7 : Cond.fieldLink RX9 7 (TX9 2).1 (TX9 2).2.1 (TX9 2).2.2.1 ∈ UW := UW_of (List.mem_of_getElem? (i := 1146) (by decide +kernel)) rfl
theorem lk_X9_13 : LK RX9 13 TX9 3 := Or.inl (UW_of (List.mem_of_getElem? (i := 1147) (by decide +kernel)) rfl)
theorem lkm_X9_13 : Cond.fieldLink RX9 13 (TX9 3).1 (TX9 3).2.1 (TX9 3).2.2.1 ∈ UW := UW_of (List.mem_of_getElem? (i := 1147) (by decide +kernel)) rfl
theorem lk_X9_16 : LK RX9 16 TX9 4 := Or.inl (UW_of (List.mem_of_getElem? (i := 1148) (by decide +kernel)) rfl)
theorem lkm_X9_16 : Cond.fieldLink RX9 16 (TX9 4).1 (TX9 4).2.1 (TX9 4).2.2.1 ∈ UW := UW_of (List.mem_of_getElem? (i := 1148) (by decide +kernel)) rfl
theorem lk_X9_19 : LK RX9 19 TX9 5 := Or.inl (UW_of (List.mem_of_getElem? (i := 1149) (by decide +kernel)) rfl)
theorem lkm_X9_19 : Cond.fieldLink RX9 19 (TX9 5).1 (TX9 5).2.1 (TX9 5).2.2.1 ∈ UW := UW_of (List.mem_of_getElem? (i := 1149) (by decide +kernel)) rfl
theorem lk_X9_23 : LK RX9 23 TX9 6 := Or.inl (UW_of (List.mem_of_getElem? (i := 1150) (by decide +kernel)) rfl)
theorem lkm_X9_23 : Cond.fieldLink RX9 23 (TX9 6).1 (TX9 6).2.1 (TX9 6).2.2.1 ∈ UW := UW_of (List.mem_of_getElem? (i := 1150) (by decide +kernel)) rfl
theorem lk_X9_26 : LK RX9 26 TX9 7 := Or.inl (UW_of (List.mem_of_getElem? (i := 1151) (by decide +kernel)) rfl)
theorem lkm_X9_26 : Cond.fieldLink RX9 26 (TX9 7).1 (TX9 7).2.1 (TX9 7).2.2.1 ∈ UW := UW_of (List.mem_of_getElem? (i := 1151) (by decide +kernel)) rfl
theorem lk_X9_29 : LK RX9 29 TX9 9 := Or.inl (UW_of (List.mem_of_getElem? (i := 1153) (by decide +kernel)) rfl)
theorem lkm_X9_29 : Cond.fieldLink RX9 29 (TX9 9).1 (TX9 9).2.1 (TX9 9).2.2.1 ∈ UW := UW_of (List.mem_of_getElem? (i := 1153) (by decide +kernel)) rfl
theorem lk_X9_32 : LK RX9 32 TX9 10 := Or.inl (UW_of (List.mem_of_getElem? (i := 1154) (by decide +kernel)) rfl)
theorem lkm_X9_32 : Cond.fieldLink RX9 32 (TX9 10).1 (TX9 10).2.1 (TX9 10).2.2.1 ∈ UW := UW_of (List.mem_of_getElem? (i := 1154) (by decide +kernel)) rfl
theorem lk_X9_35 : LK RX9 35 TX9 12 := Or.inl (UW_of (List.mem_of_getElem? (i := 1156) (by decide +kernel)) rfl)
theorem lkm_X9_35 : Cond.fieldLink RX9 35 (TX9 12).1 (TX9 12).2.1 (TX9 12).2.2.1 ∈ UW := UW_of (List.mem_of_getElem? (i := 1156) (by decide +kernel)) rfl
theorem lk_X9_38 : LK RX9 38 TX9 18 := Or.inl (UW_of (List.mem_of_getElem? (i := 1162) (by decide +kernel)) rfl)
theorem lk_X9_42 : LK RX9 42 TX9 22 := Or.inl (UW_of (List.mem_of_getElem? (i := 1166) (by decide +kernel)) rfl)
theorem lkm_X9_42 : Cond.fieldLink RX9 42 (TX9 22).1 (TX9 22).2.1 (TX9 22).2.2.1 ∈ UW := UW_of (List.mem_of_getElem? (i := 1166) (by decide +kernel)) rfl
theorem lk_X9_45 : LK RX9 45 TX9 24 := Or.inl (UW_of (List.mem_of_getElem? (i := 1168) (by decide +kernel)) rfl)
theorem lkm_X9_45 : Cond.fieldLink RX9 45 (TX9 24).1 (TX9 24).2.1 (TX9 24).2.2.1 ∈ UW := UW_of (List.mem_of_getElem? (i := 1168) (by decide +kernel)) rfl
theorem lk_X9_48 : LK RX9 48 TX9 25 := Or.inl (UW_of (List.mem_of_getElem? (i := 1169) (by decide +kernel)) rfl)
theorem lkm_X9_48 : Cond.fieldLink RX9 48 (TX9 25).1 (TX9 25).2.1 (TX9 25).2.2.1 ∈ UW := UW_of (List.mem_of_getElem? (i := 1169) (by decide +kernel)) rfl
theorem lk_X9_51 : LK RX9 51 TX9 27 := Or.inl (UW_of (List.mem_of_getElem? (i := 1171) (by decide +kernel)) rfl)
theorem lkm_X9_51 : Cond.fieldLink RX9 51 (TX9 27).1 (TX9 27).2.1 (TX9 27).2.2.1 ∈ UW := UW_of (List.mem_of_getElem? (i := 1171) (by decide +kernel)) rfl
theorem lk_X9_54 : LK RX9 54 TX9 28 := Or.inl (UW_of (List.mem_of_getElem? (i := 1172) (by decide +kernel)) rfl)
theorem lkm_X9_54 : Cond.fieldLink RX9 54 (TX9 28).1 (TX9 28).2.1 (TX9 28).2.2.1 ∈ UW := UW_of (List.mem_of_getElem? (i := 1172) (by decide +kernel)) rfl
theorem cn_X9_57 : Cond.constantLong RX9 57 (631941) ∈ UW := UW_of (List.mem_of_getElem? (i := 1124) (by decide +kernel)) rfl
theorem cn_X9_59 : Cond.constantLong RX9 59 (116807086) ∈ UW := UW_of (List.mem_of_getElem? (i := 1125) (by decide +kernel)) rfl
theorem cn_X9_61 : Cond.constantLong RX9 61 (402885) ∈ UW := UW_of (List.mem_of_getElem? (i := 1126) (by decide +kernel)) rfl
theorem cn_X9_63 : Cond.constantLong RX9 63 (13486) ∈ UW := UW_of (List.mem_of_getElem? (i := 1127) (by decide +kernel)) rfl
theorem cn_X9_65 : Cond.constantLong RX9 65 (212147) ∈ UW := UW_of (List.mem_of_getElem? (i := 1128) (by decide +kernel)) rfl
theorem cn_X9_67 : Cond.constantLong RX9 67 (660095385) ∈ UW := UW_of (List.mem_of_getElem? (i := 1129) (by decide +kernel)) rfl
theorem cn_X9_69 : Cond.constantLong RX9 69 (676774066) ∈ UW := UW_of (List.mem_of_getElem? (i := 1130) (by decide +kernel)) rfl
theorem cn_X9_71 : Cond.constantLong RX9 71 (632046) ∈ UW := UW_of (List.mem_of_getElem? (i := 1131) (by decide +kernel)) rfl
theorem cn_X9_73 : Cond.constantLong RX9 73 (4153) ∈ UW := UW_of (List.mem_of_getElem? (i := 1132) (by decide +kernel)) rfl
theorem cn_X9_75 : Cond.constantLong RX9 75 (441828) ∈ UW := UW_of (List.mem_of_getElem? (i := 1133) (by decide +kernel)) rfl
theorem lk_X9_77 : LK RX9 77 TX9 31 := Or.inl (UW_of (List.mem_of_getElem? (i := 1175) (by decide +kernel)) rfl)
theorem lkm_X9_77 : Cond.fieldLink RX9 77 (TX9 31).1 (TX9 31).2.1 (TX9 31).2.2.1 ∈ UW := UW_of (List.mem_of_getElem? (i := 1175) (by decide +kernel)) rfl
theorem cn_X9_81 : Cond.constantLong RX9 81 (146885) ∈ UW := UW_of (List.mem_of_getElem? (i := 1134) (by decide +kernel)) rfl
theorem cn_X9_83 : Cond.constantLong RX9 83 (404362868) ∈ UW := UW_of (List.mem_of_getElem? (i := 1135) (by decide +kernel)) rfl
theorem lk_X9_85 : LK RX9 85 TX9 32 := Or.inl (UW_of (List.mem_of_getElem? (i := 1176) (by decide +kernel)) rfl)
theorem lkm_X9_85 : Cond.fieldLink RX9 85 (TX9 32).1 (TX9 32).2.1 (TX9 32).2.2.1 ∈ UW := UW_of (List.mem_of_getElem? (i := 1176) (by decide +kernel)) rfl
theorem cn_X9_88 : Cond.constantLong RX9 88 (19039379) ∈ UW := UW_of (List.mem_of_getElem? (i := 1136) (by decide +kernel)) rfl
theorem cn_X9_90 : Cond.constantLong RX9 90 (3657363) ∈ UW := UW_of (List.mem_of_getElem? (i := 1137) (by decide +kernel)) rfl
theorem cn_X9_92 : Cond.constantLong RX9 92 (6460563) ∈ UW := UW_of (List.mem_of_getElem? (i := 1138) (by decide +kernel)) rfl
theorem cn_X9_94 : Cond.constantLong RX9 94 (67155) ∈ UW := UW_of (List.mem_of_getElem? (i := 1139) (by decide +kernel)) rfl
theorem lk_X9_96 : LK RX9 96 TX9 33 := Or.inl (UW_of (List.mem_of_getElem? (i := 1177) (by decide +kernel)) rfl)
theorem lkm_X9_96 : Cond.fieldLink RX9 96 (TX9 33).1 (TX9 33).2.1 (TX9 33).2.2.1 ∈ UW := UW_of (List.mem_of_getElem? (i := 1177) (by decide +kernel)) rfl
theorem lk_X9_99 : LK RX9 99 TX9 35 := Or.inl (UW_of (List.mem_of_getElem? (i := 1179) (by decide +kernel)) rfl)
theorem lkm_X9_99 : Cond.fieldLink RX9 99 (TX9 35).1 (TX9 35).2.1 (TX9 35).2.2.1 ∈ UW := UW_of (List.mem_of_getElem? (i := 1179) (by decide +kernel)) rfl
theorem lk_X9_102 : LK RX9 102 TX9 36 := Or.inl (UW_of (List.mem_of_getElem? (i := 1180) (by decide +kernel)) rfl)
theorem lkm_X9_102 : Cond.fieldLink RX9 102 (TX9 36).1 (TX9 36).2.1 (TX9 36).2.2.1 ∈ UW := UW_of (List.mem_of_getElem? (i := 1180) (by decide +kernel)) rfl
theorem lk_X9_105 : LK RX9 105 TX9 37 := Or.inl (UW_of (List.mem_of_getElem? (i := 1181) (by decide +kernel)) rfl)
theorem lkm_X9_105 : Cond.fieldLink RX9 105 (TX9 37).1 (TX9 37).2.1 (TX9 37).2.2.1 ∈ UW := UW_of (List.mem_of_getElem? (i := 1181) (by decide +kernel)) rfl
theorem lk_X9_108 : LK RX9 108 TX9 41 := Or.inl (UW_of (List.mem_of_getElem? (i := 1185) (by decide +kernel)) rfl)
theorem lkm_X9_108 : Cond.fieldLink RX9 108 (TX9 41).1 (TX9 41).2.1 (TX9 41).2.2.1 ∈ UW := UW_of (List.mem_of_getElem? (i := 1185) (by decide +kernel)) rfl
theorem lk_X9_111 : LK RX9 111 TX9 42 := Or.inl (UW_of (List.mem_of_getElem? (i := 1186) (by decide +kernel)) rfl)
theorem lkm_X9_111 : Cond.fieldLink RX9 111 (TX9 42).1 (TX9 42).2.1 (TX9 42).2.2.1 ∈ UW := UW_of (List.mem_of_getElem? (i := 1186) (by decide +kernel)) rfl
theorem cn_X9_114 : Cond.constantLong RX9 114 (55182443) ∈ UW := UW_of (List.mem_of_getElem? (i := 1140) (by decide +kernel)) rfl
theorem cn_X9_116 : Cond.constantLong RX9 116 (20194516) ∈ UW := UW_of (List.mem_of_getElem? (i := 1141) (by decide +kernel)) rfl
theorem cn_X9_118 : Cond.constantLong RX9 118 (631287) ∈ UW := UW_of (List.mem_of_getElem? (i := 1142) (by decide +kernel)) rfl
theorem cn_X9_120 : Cond.constantLong RX9 120 (525939) ∈ UW := UW_of (List.mem_of_getElem? (i := 1143) (by decide +kernel)) rfl
theorem lk_X9_122 : LK RX9 122 TX9 45 := Or.inl (UW_of (List.mem_of_getElem? (i := 1189) (by decide +kernel)) rfl)
theorem lkm_X9_122 : Cond.fieldLink RX9 122 (TX9 45).1 (TX9 45).2.1 (TX9 45).2.2.1 ∈ UW := UW_of (List.mem_of_getElem? (i := 1189) (by decide +kernel)) rfl
theorem lk_X9_125 : LK RX9 125 TX9 46 := Or.inl (UW_of (List.mem_of_getElem? (i := 1190) (by decide +kernel)) rfl)
theorem lkm_X9_125 : Cond.fieldLink RX9 125 (TX9 46).1 (TX9 46).2.1 (TX9 46).2.2.1 ∈ UW := UW_of (List.mem_of_getElem? (i := 1190) (by decide +kernel)) rfl
theorem lk_X9_128 : LK RX9 128 TX9 49 := Or.inl (UW_of (List.mem_of_getElem? (i := 1193) (by decide +kernel)) rfl)
theorem lk_X9_131 : LK RX9 131 TX9 52 := Or.inl (UW_of (List.mem_of_getElem? (i := 1196) (by decide +kernel)) rfl)
theorem lkm_X9_131 : Cond.fieldLink RX9 131 (TX9 52).1 (TX9 52).2.1 (TX9 52).2.2.1 ∈ UW := UW_of (List.mem_of_getElem? (i := 1196) (by decide +kernel)) rfl
abbrev MX9_in : MI := (yX9_in, cX9_in, 6, (Option.some Jvm.ClassFile.FieldType.boolean))
theorem hm_X9_in : hMeth MX9_in 3 := ⟨UW_of (List.mem_of_getElem? (i := 1326) (by decide +kernel)) rfl, UW_of (List.mem_of_getElem? (i := 103) (by decide +kernel)) rfl, ⟨by decide +kernel, by decide +kernel⟩, by decide +kernel, by decide⟩
theorem hs_X9_in : Cond.static MX9_in.1 ∈ UW := UW_of (List.mem_of_getElem? (i := 1325) (by decide +kernel)) rfl
abbrev MX9_is : MI := (yX9_is, cX9_is, 2, (Option.some Jvm.ClassFile.FieldType.boolean))
theorem hm_X9_is : hMeth MX9_is 2 := ⟨UW_of (List.mem_of_getElem? (i := 1657) (by decide +kernel)) rfl, UW_of (List.mem_of_getElem? (i := 103) (by decide +kernel)) rfl, ⟨by decide +kernel, by decide +kernel⟩, by decide +kernel, by decide⟩
theorem hs_X9_is : Cond.static MX9_is.1 ∈ UW := UW_of (List.mem_of_getElem? (i := 1656) (by decide +kernel)) rfl
abbrev MX9_ones : MI := (yX9_ones, cX9_ones, 3, (Option.some Jvm.ClassFile.FieldType.int))
theorem hm_X9_ones : hMeth MX9_ones 1 := ⟨UW_of (List.mem_of_getElem? (i := 1650) (by decide +kernel)) rfl, UW_of (List.mem_of_getElem? (i := 103) (by decide +kernel)) rfl, ⟨by decide +kernel, by decide +kernel⟩, by decide +kernel, by decide⟩
theorem hs_X9_ones : Cond.static MX9_ones.1 ∈ UW := UW_of (List.mem_of_getElem? (i := 1649) (by decide +kernel)) rfl
abbrev MX9_sizeOf : MI := (yX9_sizeOf, cX9_sizeOf, 1, (Option.some Jvm.ClassFile.FieldType.int))
theorem hm_X9_sizeOf : hMeth MX9_sizeOf 1 := ⟨UW_of (List.mem_of_getElem? (i := 1618) (by decide +kernel)) rfl, UW_of (List.mem_of_getElem? (i := 103) (by decide +kernel)) rfl, ⟨by decide +kernel, by decide +kernel⟩, by decide +kernel, by decide⟩
theorem hs_X9_sizeOf : Cond.static MX9_sizeOf.1 ∈ UW := UW_of (List.mem_of_getElem? (i := 1617) (by decide +kernel)) rfl
abbrev MX9_within : MI := (yX9_within, cX9_within, 4, (Option.some Jvm.ClassFile.FieldType.int))
theorem hm_X9_within : hMeth MX9_within 3 := ⟨UW_of (List.mem_of_getElem? (i := 1385) (by decide +kernel)) rfl, UW_of (List.mem_of_getElem? (i := 103) (by decide +kernel)) rfl, ⟨by decide +kernel, by decide +kernel⟩, by decide +kernel, by decide⟩
theorem hs_X9_within : Cond.static MX9_within.1 ∈ UW := UW_of (List.mem_of_getElem? (i := 1384) (by decide +kernel)) rfl
abbrev MX9_answer : MI := (yX9_answer, cX9_answer, 2, (Option.some Jvm.ClassFile.FieldType.int))
theorem hm_X9_answer : hMeth MX9_answer 1 := ⟨UW_of (List.mem_of_getElem? (i := 1315) (by decide +kernel)) rfl, UW_of (List.mem_of_getElem? (i := 103) (by decide +kernel)) rfl, ⟨by decide +kernel, by decide +kernel⟩, by decide +kernel, by decide⟩
theorem hv_X9_answer : hVirt MX9_answer 9 := ⟨UW_of (List.mem_of_getElem? (i := 1314) (by decide +kernel)) rfl, UW_of (List.mem_of_getElem? (i := 27) (by decide +kernel)) rfl, ⟨_, _, rfl⟩, by decide⟩
theorem lk_X9_137 : LK RX9 137 TX9 1 := Or.inl (UW_of (List.mem_of_getElem? (i := 1145) (by decide +kernel)) rfl)
abbrev MX9_change : MI := (yX9_change, cX9_change, 4, (Option.some Jvm.ClassFile.FieldType.int))
theorem hm_X9_change : hMeth MX9_change 2 := ⟨UW_of (List.mem_of_getElem? (i := 1350) (by decide +kernel)) rfl, UW_of (List.mem_of_getElem? (i := 103) (by decide +kernel)) rfl, ⟨by decide +kernel, by decide +kernel⟩, by decide +kernel, by decide⟩
theorem hv_X9_change : hVirt MX9_change 9 := ⟨UW_of (List.mem_of_getElem? (i := 1349) (by decide +kernel)) rfl, UW_of (List.mem_of_getElem? (i := 30) (by decide +kernel)) rfl, ⟨_, _, rfl⟩, by decide⟩
abbrev MX9_settled : MI := (yX9_settled, cX9_settled, 2, (Option.some Jvm.ClassFile.FieldType.int))
theorem hm_X9_settled : hMeth MX9_settled 1 := ⟨UW_of (List.mem_of_getElem? (i := 1334) (by decide +kernel)) rfl, UW_of (List.mem_of_getElem? (i := 103) (by decide +kernel)) rfl, ⟨by decide +kernel, by decide +kernel⟩, by decide +kernel, by decide⟩
theorem hv_X9_settled : hVirt MX9_settled 9 := ⟨UW_of (List.mem_of_getElem? (i := 1333) (by decide +kernel)) rfl, UW_of (List.mem_of_getElem? (i := 29) (by decide +kernel)) rfl, ⟨_, _, rfl⟩, by decide⟩
theorem lk_X9_140 : LK RX9 140 TX9 8 := Or.inl (UW_of (List.mem_of_getElem? (i := 1152) (by decide +kernel)) rfl)
theorem ln_X9_143 : hLnk RX9 143 yX9_answer := Or.inl (UW_of (List.mem_of_getElem? (i := 1312) (by decide +kernel)) rfl)
abbrev MX9_keepAll : MI := (yX9_keepAll, cX9_keepAll, 3, none)
theorem hm_X9_keepAll : hMeth MX9_keepAll 1 := ⟨UW_of (List.mem_of_getElem? (i := 1598) (by decide +kernel)) rfl, UW_of (List.mem_of_getElem? (i := 103) (by decide +kernel)) rfl, ⟨by decide +kernel, by decide +kernel⟩, by decide +kernel, by decide⟩
theorem hv_X9_keepAll : hVirt MX9_keepAll 9 := ⟨UW_of (List.mem_of_getElem? (i := 1597) (by decide +kernel)) rfl, UW_of (List.mem_of_getElem? (i := 69) (by decide +kernel)) rfl, ⟨_, _, rfl⟩, by decide⟩
abbrev MX9_putBack : MI := (yX9_putBack, cX9_putBack, 3, none)
theorem hm_X9_putBack : hMeth MX9_putBack 1 := ⟨UW_of (List.mem_of_getElem? (i := 1319) (by decide +kernel)) rfl, UW_of (List.mem_of_getElem? (i := 103) (by decide +kernel)) rfl, ⟨by decide +kernel, by decide +kernel⟩, by decide +kernel, by decide⟩
theorem hv_X9_putBack : hVirt MX9_putBack 9 := ⟨UW_of (List.mem_of_getElem? (i := 1318) (by decide +kernel)) rfl, UW_of (List.mem_of_getElem? (i := 28) (by decide +kernel)) rfl, ⟨_, _, rfl⟩, by decide⟩
abbrev MX9_remember : MI := (yX9_remember, cX9_remember, 3, none)
theorem hm_X9_remember : hMeth MX9_remember 1 := ⟨UW_of (List.mem_of_getElem? (i := 1594) (by decide +kernel)) rfl, UW_of (List.mem_of_getElem? (i := 103) (by decide +kernel)) rfl, ⟨by decide +kernel, by decide +kernel⟩, by decide +kernel, by decide⟩
theorem hv_X9_remember : hVirt MX9_remember 9 := ⟨UW_of (List.mem_of_getElem? (i := 1593) (by decide +kernel)) rfl, UW_of (List.mem_of_getElem? (i := 68) (by decide +kernel)) rfl, ⟨_, _, rfl⟩, by decide⟩
theorem ln_X9_147 : hLnk RX9 147 yX9_keepAll := Or.inl (UW_of (List.mem_of_getElem? (i := 1595) (by decide +kernel)) rfl)
abbrev MX9_undo : MI := (yX9_undo, cX9_undo, 1, (Option.some Jvm.ClassFile.FieldType.int))
theorem hm_X9_undo : hMeth MX9_undo 0 := ⟨UW_of (List.mem_of_getElem? (i := 1311) (by decide +kernel)) rfl, UW_of (List.mem_of_getElem? (i := 103) (by decide +kernel)) rfl, ⟨by decide +kernel, by decide +kernel⟩, by decide +kernel, by decide⟩
theorem hv_X9_undo : hVirt MX9_undo 9 := ⟨UW_of (List.mem_of_getElem? (i := 1309) (by decide +kernel)) rfl, UW_of (List.mem_of_getElem? (i := 1310) (by decide +kernel)) rfl, ⟨_, _, rfl⟩, by decide⟩
theorem lk_X9_134 : LK RX9 134 TX9 0 := Or.inl (UW_of (List.mem_of_getElem? (i := 1144) (by decide +kernel)) rfl)
theorem ln_X9_151 : hLnk RX9 151 yX9_putBack := Or.inl (UW_of (List.mem_of_getElem? (i := 1316) (by decide +kernel)) rfl)
abbrev MX9_image : MI := (yX9_image, cX9_image, 3, (Option.some Jvm.ClassFile.FieldType.int))
theorem hm_X9_image : hMeth MX9_image 1 := ⟨UW_of (List.mem_of_getElem? (i := 1323) (by decide +kernel)) rfl, UW_of (List.mem_of_getElem? (i := 103) (by decide +kernel)) rfl, ⟨by decide +kernel, by decide +kernel⟩, by decide +kernel, by decide⟩
theorem hv_X9_image : hVirt MX9_image 9 := ⟨UW_of (List.mem_of_getElem? (i := 1321) (by decide +kernel)) rfl, UW_of (List.mem_of_getElem? (i := 1322) (by decide +kernel)) rfl, ⟨_, _, rfl⟩, by decide⟩
theorem ln_X9_154 : hLnk RX9 154 yX9_in := Or.inl (UW_of (List.mem_of_getElem? (i := 1324) (by decide +kernel)) rfl)
abbrev MX9_back : MI := (yX9_back, cX9_back, 3, (Option.some Jvm.ClassFile.FieldType.int))
theorem hm_X9_back : hMeth MX9_back 1 := ⟨UW_of (List.mem_of_getElem? (i := 1330) (by decide +kernel)) rfl, UW_of (List.mem_of_getElem? (i := 103) (by decide +kernel)) rfl, ⟨by decide +kernel, by decide +kernel⟩, by decide +kernel, by decide⟩
theorem hv_X9_back : hVirt MX9_back 9 := ⟨UW_of (List.mem_of_getElem? (i := 1328) (by decide +kernel)) rfl, UW_of (List.mem_of_getElem? (i := 1329) (by decide +kernel)) rfl, ⟨_, _, rfl⟩, by decide⟩
theorem ln_X9_158 : hLnk RX9 158 yX9_settled := Or.inl (UW_of (List.mem_of_getElem? (i := 1331) (by decide +kernel)) rfl)
abbrev MX9_isSide : MI := (yX9_isSide, cX9_isSide, 1, (Option.some Jvm.ClassFile.FieldType.boolean))
theorem hm_X9_isSide : hMeth MX9_isSide 1 := ⟨UW_of (List.mem_of_getElem? (i := 1341) (by decide +kernel)) rfl, UW_of (List.mem_of_getElem? (i := 103) (by decide +kernel)) rfl, ⟨by decide +kernel, by decide +kernel⟩, by decide +kernel, by decide⟩
theorem hs_X9_isSide : Cond.static MX9_isSide.1 ∈ UW := UW_of (List.mem_of_getElem? (i := 1340) (by decide +kernel)) rfl
abbrev MX9_isEight : MI := (yX9_isEight, cX9_isEight, 1, (Option.some Jvm.ClassFile.FieldType.boolean))
theorem hm_X9_isEight : hMeth MX9_isEight 1 := ⟨UW_of (List.mem_of_getElem? (i := 1344) (by decide +kernel)) rfl, UW_of (List.mem_of_getElem? (i := 103) (by decide +kernel)) rfl, ⟨by decide +kernel, by decide +kernel⟩, by decide +kernel, by decide⟩
theorem hs_X9_isEight : Cond.static MX9_isEight.1 ∈ UW := UW_of (List.mem_of_getElem? (i := 1343) (by decide +kernel)) rfl
theorem cn_X9_161 : Cond.constantLong RX9 161 (7) ∈ UW := UW_of (List.mem_of_getElem? (i := 1345) (by decide +kernel)) rfl
abbrev MX9_menOf : MI := (yX9_menOf, cX9_menOf, 3, (Option.some Jvm.ClassFile.FieldType.int))
theorem hm_X9_menOf : hMeth MX9_menOf 2 := ⟨UW_of (List.mem_of_getElem? (i := 1358) (by decide +kernel)) rfl, UW_of (List.mem_of_getElem? (i := 103) (by decide +kernel)) rfl, ⟨by decide +kernel, by decide +kernel⟩, by decide +kernel, by decide⟩
theorem hv_X9_menOf : hVirt MX9_menOf 9 := ⟨UW_of (List.mem_of_getElem? (i := 1357) (by decide +kernel)) rfl, UW_of (List.mem_of_getElem? (i := 31) (by decide +kernel)) rfl, ⟨_, _, rfl⟩, by decide⟩
abbrev MX9_allMen : MI := (yX9_allMen, cX9_allMen, 4, (Option.some Jvm.ClassFile.FieldType.int))
theorem hm_X9_allMen : hMeth MX9_allMen 1 := ⟨UW_of (List.mem_of_getElem? (i := 1401) (by decide +kernel)) rfl, UW_of (List.mem_of_getElem? (i := 103) (by decide +kernel)) rfl, ⟨by decide +kernel, by decide +kernel⟩, by decide +kernel, by decide⟩
theorem hv_X9_allMen : hVirt MX9_allMen 9 := ⟨UW_of (List.mem_of_getElem? (i := 1400) (by decide +kernel)) rfl, UW_of (List.mem_of_getElem? (i := 39) (by decide +kernel)) rfl, ⟨_, _, rfl⟩, by decide⟩
theorem ln_X9_163 : hLnk RX9 163 yX9_menOf := Or.inl (UW_of (List.mem_of_getElem? (i := 1355) (by decide +kernel)) rfl)
abbrev MX9_men : MI := (yX9_men, cX9_men, 4, (Option.some Jvm.ClassFile.FieldType.int))
theorem hm_X9_men : hMeth MX9_men 3 := ⟨UW_of (List.mem_of_getElem? (i := 1338) (by decide +kernel)) rfl, UW_of (List.mem_of_getElem? (i := 103) (by decide +kernel)) rfl, ⟨by decide +kernel, by decide +kernel⟩, by decide +kernel, by decide⟩
theorem hv_X9_men : hVirt MX9_men 9 := ⟨UW_of (List.mem_of_getElem? (i := 1336) (by decide +kernel)) rfl, UW_of (List.mem_of_getElem? (i := 1337) (by decide +kernel)) rfl, ⟨_, _, rfl⟩, by decide⟩
theorem ln_X9_167 : hLnk RX9 167 yX9_isSide := Or.inl (UW_of (List.mem_of_getElem? (i := 1339) (by decide +kernel)) rfl)
theorem ln_X9_171 : hLnk RX9 171 yX9_isEight := Or.inl (UW_of (List.mem_of_getElem? (i := 1342) (by decide +kernel)) rfl)
theorem cn_X9_174 : Cond.constantLong RX9 174 (99) ∈ UW := UW_of (List.mem_of_getElem? (i := 1346) (by decide +kernel)) rfl
theorem ln_X9_176 : hLnk RX9 176 yX9_change := Or.inl (UW_of (List.mem_of_getElem? (i := 1347) (by decide +kernel)) rfl)
abbrev MX9_reckon : MI := (yX9_reckon, cX9_reckon, 6, (Option.some Jvm.ClassFile.FieldType.long))
theorem hm_X9_reckon : hMeth MX9_reckon 3 := ⟨UW_of (List.mem_of_getElem? (i := 1380) (by decide +kernel)) rfl, UW_of (List.mem_of_getElem? (i := 103) (by decide +kernel)) rfl, ⟨by decide +kernel, by decide +kernel⟩, by decide +kernel, by decide⟩
theorem hv_X9_reckon : hVirt MX9_reckon 9 := ⟨UW_of (List.mem_of_getElem? (i := 1379) (by decide +kernel)) rfl, UW_of (List.mem_of_getElem? (i := 36) (by decide +kernel)) rfl, ⟨_, _, rfl⟩, by decide⟩
theorem lk_X9_368 : LK RX9 368 TX9 38 := Or.inl (UW_of (List.mem_of_getElem? (i := 1182) (by decide +kernel)) rfl)
abbrev MX9_reckonAll : MI := (yX9_reckonAll, cX9_reckonAll, 7, none)
theorem hm_X9_reckonAll : hMeth MX9_reckonAll 2 := ⟨UW_of (List.mem_of_getElem? (i := 1376) (by decide +kernel)) rfl, UW_of (List.mem_of_getElem? (i := 103) (by decide +kernel)) rfl, ⟨by decide +kernel, by decide +kernel⟩, by decide +kernel, by decide⟩
theorem hv_X9_reckonAll : hVirt MX9_reckonAll 9 := ⟨UW_of (List.mem_of_getElem? (i := 1375) (by decide +kernel)) rfl, UW_of (List.mem_of_getElem? (i := 35) (by decide +kernel)) rfl, ⟨_, _, rfl⟩, by decide⟩
theorem lk_X9_296 : LK RX9 296 TX9 20 := Or.inl (UW_of (List.mem_of_getElem? (i := 1164) (by decide +kernel)) rfl)
theorem lk_X9_371 : LK RX9 371 TX9 34 := Or.inl (UW_of (List.mem_of_getElem? (i := 1178) (by decide +kernel)) rfl)
theorem ln_X9_374 : hLnk RX9 374 yX9_reckon := Or.inl (UW_of (List.mem_of_getElem? (i := 1377) (by decide +kernel)) rfl)
theorem cn_X9_378 : Cond.constantLong RX9 378 (-1000000000) ∈ UW := UW_of (List.mem_of_getElem? (i := 1381) (by decide +kernel)) rfl
theorem cn_X9_380 : Cond.constantLong RX9 380 (1000000000) ∈ UW := UW_of (List.mem_of_getElem? (i := 1382) (by decide +kernel)) rfl
theorem lk_X9_382 : LK RX9 382 TX9 39 := Or.inl (UW_of (List.mem_of_getElem? (i := 1183) (by decide +kernel)) rfl)
abbrev MX9_isSo : MI := (yX9_isSo, cX9_isSo, 2, (Option.some Jvm.ClassFile.FieldType.boolean))
theorem hm_X9_isSo : hMeth MX9_isSo 1 := ⟨UW_of (List.mem_of_getElem? (i := 1372) (by decide +kernel)) rfl, UW_of (List.mem_of_getElem? (i := 103) (by decide +kernel)) rfl, ⟨by decide +kernel, by decide +kernel⟩, by decide +kernel, by decide⟩
theorem hv_X9_isSo : hVirt MX9_isSo 9 := ⟨UW_of (List.mem_of_getElem? (i := 1371) (by decide +kernel)) rfl, UW_of (List.mem_of_getElem? (i := 34) (by decide +kernel)) rfl, ⟨_, _, rfl⟩, by decide⟩
theorem ln_X9_385 : hLnk RX9 385 yX9_reckonAll := Or.inl (UW_of (List.mem_of_getElem? (i := 1373) (by decide +kernel)) rfl)
theorem lk_X9_388 : LK RX9 388 TX9 40 := Or.inl (UW_of (List.mem_of_getElem? (i := 1184) (by decide +kernel)) rfl)
abbrev MX9_tells : MI := (yX9_tells, cX9_tells, 12, (Option.some Jvm.ClassFile.FieldType.long))
theorem hm_X9_tells : hMeth MX9_tells 6 := ⟨UW_of (List.mem_of_getElem? (i := 1367) (by decide +kernel)) rfl, UW_of (List.mem_of_getElem? (i := 103) (by decide +kernel)) rfl, ⟨by decide +kernel, by decide +kernel⟩, by decide +kernel, by decide⟩
theorem hv_X9_tells : hVirt MX9_tells 9 := ⟨UW_of (List.mem_of_getElem? (i := 1366) (by decide +kernel)) rfl, UW_of (List.mem_of_getElem? (i := 33) (by decide +kernel)) rfl, ⟨_, _, rfl⟩, by decide⟩
theorem cn_X9_196 : Cond.constantLong RX9 196 (-1) ∈ UW := UW_of (List.mem_of_getElem? (i := 1368) (by decide +kernel)) rfl
theorem ln_X9_391 : hLnk RX9 391 yX9_isSo := Or.inl (UW_of (List.mem_of_getElem? (i := 1369) (by decide +kernel)) rfl)
abbrev MX9_costsOf : MI := (yX9_costsOf, cX9_costsOf, 3, (Option.some Jvm.ClassFile.FieldType.int))
theorem hm_X9_costsOf : hMeth MX9_costsOf 2 := ⟨UW_of (List.mem_of_getElem? (i := 1362) (by decide +kernel)) rfl, UW_of (List.mem_of_getElem? (i := 103) (by decide +kernel)) rfl, ⟨by decide +kernel, by decide +kernel⟩, by decide +kernel, by decide⟩
theorem hv_X9_costsOf : hVirt MX9_costsOf 9 := ⟨UW_of (List.mem_of_getElem? (i := 1361) (by decide +kernel)) rfl, UW_of (List.mem_of_getElem? (i := 32) (by decide +kernel)) rfl, ⟨_, _, rfl⟩, by decide⟩
theorem cn_X9_402 : Cond.constantLong RX9 402 (5) ∈ UW := UW_of (List.mem_of_getElem? (i := 1363) (by decide +kernel)) rfl
theorem ln_X9_394 : hLnk RX9 394 yX9_tells := Or.inl (UW_of (List.mem_of_getElem? (i := 1364) (by decide +kernel)) rfl)
theorem ln_X9_398 : hLnk RX9 398 yX9_within := Or.inl (UW_of (List.mem_of_getElem? (i := 1383) (by decide +kernel)) rfl)
abbrev MX9_isBarred : MI := (yX9_isBarred, cX9_isBarred, 3, (Option.some Jvm.ClassFile.FieldType.boolean))
theorem hm_X9_isBarred : hMeth MX9_isBarred 2 := ⟨UW_of (List.mem_of_getElem? (i := 1389) (by decide +kernel)) rfl, UW_of (List.mem_of_getElem? (i := 103) (by decide +kernel)) rfl, ⟨by decide +kernel, by decide +kernel⟩, by decide +kernel, by decide⟩
theorem hv_X9_isBarred : hVirt MX9_isBarred 9 := ⟨UW_of (List.mem_of_getElem? (i := 1388) (by decide +kernel)) rfl, UW_of (List.mem_of_getElem? (i := 37) (by decide +kernel)) rfl, ⟨_, _, rfl⟩, by decide⟩
abbrev MX9_at : MI := (yX9_at, cX9_at, 3, (Option.some Jvm.ClassFile.FieldType.int))
theorem hm_X9_at : hMeth MX9_at 2 := ⟨UW_of (List.mem_of_getElem? (i := 1354) (by decide +kernel)) rfl, UW_of (List.mem_of_getElem? (i := 103) (by decide +kernel)) rfl, ⟨by decide +kernel, by decide +kernel⟩, by decide +kernel, by decide⟩
theorem hv_X9_at : hVirt MX9_at 9 := ⟨UW_of (List.mem_of_getElem? (i := 1352) (by decide +kernel)) rfl, UW_of (List.mem_of_getElem? (i := 1353) (by decide +kernel)) rfl, ⟨_, _, rfl⟩, by decide⟩
theorem ln_X9_179 : hLnk RX9 179 yX9_costsOf := Or.inl (UW_of (List.mem_of_getElem? (i := 1359) (by decide +kernel)) rfl)
theorem ln_X9_182 : hLnk RX9 182 yX9_isBarred := Or.inl (UW_of (List.mem_of_getElem? (i := 1386) (by decide +kernel)) rfl)
abbrev MX9_feedsOf : MI := (yX9_feedsOf, cX9_feedsOf, 2, (Option.some Jvm.ClassFile.FieldType.int))
theorem hm_X9_feedsOf : hMeth MX9_feedsOf 1 := ⟨UW_of (List.mem_of_getElem? (i := 1397) (by decide +kernel)) rfl, UW_of (List.mem_of_getElem? (i := 103) (by decide +kernel)) rfl, ⟨by decide +kernel, by decide +kernel⟩, by decide +kernel, by decide⟩
theorem hv_X9_feedsOf : hVirt MX9_feedsOf 9 := ⟨UW_of (List.mem_of_getElem? (i := 1396) (by decide +kernel)) rfl, UW_of (List.mem_of_getElem? (i := 38) (by decide +kernel)) rfl, ⟨_, _, rfl⟩, by decide⟩
theorem ln_X9_189 : hLnk RX9 189 yX9_allMen := Or.inl (UW_of (List.mem_of_getElem? (i := 1398) (by decide +kernel)) rfl)
theorem cn_X9_404 : Cond.constantLong RX9 404 (3) ∈ UW := UW_of (List.mem_of_getElem? (i := 1402) (by decide +kernel)) rfl
abbrev MX9_of : MI := (yX9_of, cX9_of, 3, (Option.some Jvm.ClassFile.FieldType.int))
theorem hm_X9_of : hMeth MX9_of 2 := ⟨UW_of (List.mem_of_getElem? (i := 1393) (by decide +kernel)) rfl, UW_of (List.mem_of_getElem? (i := 103) (by decide +kernel)) rfl, ⟨by decide +kernel, by decide +kernel⟩, by decide +kernel, by decide⟩
theorem hv_X9_of : hVirt MX9_of 9 := ⟨UW_of (List.mem_of_getElem? (i := 1391) (by decide +kernel)) rfl, UW_of (List.mem_of_getElem? (i := 1392) (by decide +kernel)) rfl, ⟨_, _, rfl⟩, by decide⟩
theorem ln_X9_186 : hLnk RX9 186 yX9_feedsOf := Or.inl (UW_of (List.mem_of_getElem? (i := 1394) (by decide +kernel)) rfl)
abbrev MX9_sign : MI := (yX9_sign, cX9_sign, 6, (Option.some Jvm.ClassFile.FieldType.int))
theorem hm_X9_sign : hMeth MX9_sign 4 := ⟨UW_of (List.mem_of_getElem? (i := 1406) (by decide +kernel)) rfl, UW_of (List.mem_of_getElem? (i := 103) (by decide +kernel)) rfl, ⟨by decide +kernel, by decide +kernel⟩, by decide +kernel, by decide⟩
theorem hv_X9_sign : hVirt MX9_sign 9 := ⟨UW_of (List.mem_of_getElem? (i := 1404) (by decide +kernel)) rfl, UW_of (List.mem_of_getElem? (i := 1405) (by decide +kernel)) rfl, ⟨_, _, rfl⟩, by decide⟩
theorem cn_X9_192 : Cond.constantLong RX9 192 (-20) ∈ UW := UW_of (List.mem_of_getElem? (i := 1407) (by decide +kernel)) rfl
theorem cn_X9_194 : Cond.constantLong RX9 194 (20) ∈ UW := UW_of (List.mem_of_getElem? (i := 1408) (by decide +kernel)) rfl
abbrev MX9_readsOf : MI := (yX9_readsOf, cX9_readsOf, 3, (Option.some Jvm.ClassFile.FieldType.int))
theorem hm_X9_readsOf : hMeth MX9_readsOf 2 := ⟨UW_of (List.mem_of_getElem? (i := 1416) (by decide +kernel)) rfl, UW_of (List.mem_of_getElem? (i := 103) (by decide +kernel)) rfl, ⟨by decide +kernel, by decide +kernel⟩, by decide +kernel, by decide⟩
theorem hv_X9_readsOf : hVirt MX9_readsOf 9 := ⟨UW_of (List.mem_of_getElem? (i := 1415) (by decide +kernel)) rfl, UW_of (List.mem_of_getElem? (i := 40) (by decide +kernel)) rfl, ⟨_, _, rfl⟩, by decide⟩
abbrev MX9_reads : MI := (yX9_reads, cX9_reads, 4, (Option.some Jvm.ClassFile.FieldType.int))
theorem hm_X9_reads : hMeth MX9_reads 3 := ⟨UW_of (List.mem_of_getElem? (i := 1412) (by decide +kernel)) rfl, UW_of (List.mem_of_getElem? (i := 103) (by decide +kernel)) rfl, ⟨by decide +kernel, by decide +kernel⟩, by decide +kernel, by decide⟩
theorem hv_X9_reads : hVirt MX9_reads 9 := ⟨UW_of (List.mem_of_getElem? (i := 1410) (by decide +kernel)) rfl, UW_of (List.mem_of_getElem? (i := 1411) (by decide +kernel)) rfl, ⟨_, _, rfl⟩, by decide⟩
theorem ln_X9_198 : hLnk RX9 198 yX9_readsOf := Or.inl (UW_of (List.mem_of_getElem? (i := 1413) (by decide +kernel)) rfl)
abbrev MX9_word : MI := (yX9_word, cX9_word, 6, (Option.some Jvm.ClassFile.FieldType.int))
theorem hm_X9_word : hMeth MX9_word 4 := ⟨UW_of (List.mem_of_getElem? (i := 1420) (by decide +kernel)) rfl, UW_of (List.mem_of_getElem? (i := 103) (by decide +kernel)) rfl, ⟨by decide +kernel, by decide +kernel⟩, by decide +kernel, by decide⟩
theorem hv_X9_word : hVirt MX9_word 9 := ⟨UW_of (List.mem_of_getElem? (i := 1418) (by decide +kernel)) rfl, UW_of (List.mem_of_getElem? (i := 1419) (by decide +kernel)) rfl, ⟨_, _, rfl⟩, by decide⟩
theorem cn_X9_201 : Cond.constantLong RX9 201 (-9) ∈ UW := UW_of (List.mem_of_getElem? (i := 1421) (by decide +kernel)) rfl
theorem cn_X9_203 : Cond.constantLong RX9 203 (9) ∈ UW := UW_of (List.mem_of_getElem? (i := 1422) (by decide +kernel)) rfl
theorem cn_X9_205 : Cond.constantLong RX9 205 (10) ∈ UW := UW_of (List.mem_of_getElem? (i := 1423) (by decide +kernel)) rfl
abbrev MX9_terms : MI := (yX9_terms, cX9_terms, 4, (Option.some Jvm.ClassFile.FieldType.int))
theorem hm_X9_terms : hMeth MX9_terms 2 := ⟨UW_of (List.mem_of_getElem? (i := 1427) (by decide +kernel)) rfl, UW_of (List.mem_of_getElem? (i := 103) (by decide +kernel)) rfl, ⟨by decide +kernel, by decide +kernel⟩, by decide +kernel, by decide⟩
theorem hv_X9_terms : hVirt MX9_terms 9 := ⟨UW_of (List.mem_of_getElem? (i := 1425) (by decide +kernel)) rfl, UW_of (List.mem_of_getElem? (i := 1426) (by decide +kernel)) rfl, ⟨_, _, rfl⟩, by decide⟩
theorem cn_X9_207 : Cond.constantLong RX9 207 (999) ∈ UW := UW_of (List.mem_of_getElem? (i := 1428) (by decide +kernel)) rfl
theorem cn_X9_209 : Cond.constantLong RX9 209 (40) ∈ UW := UW_of (List.mem_of_getElem? (i := 1429) (by decide +kernel)) rfl
abbrev MX9_row : MI := (yX9_row, cX9_row, 4, (Option.some Jvm.ClassFile.FieldType.int))
theorem hm_X9_row : hMeth MX9_row 0 := ⟨UW_of (List.mem_of_getElem? (i := 1433) (by decide +kernel)) rfl, UW_of (List.mem_of_getElem? (i := 103) (by decide +kernel)) rfl, ⟨by decide +kernel, by decide +kernel⟩, by decide +kernel, by decide⟩
theorem hv_X9_row : hVirt MX9_row 9 := ⟨UW_of (List.mem_of_getElem? (i := 1431) (by decide +kernel)) rfl, UW_of (List.mem_of_getElem? (i := 1432) (by decide +kernel)) rfl, ⟨_, _, rfl⟩, by decide⟩
theorem lk_X9_211 : LK RX9 211 TX9 13 := Or.inl (UW_of (List.mem_of_getElem? (i := 1157) (by decide +kernel)) rfl)
theorem lk_X9_214 : LK RX9 214 TX9 11 := Or.inl (UW_of (List.mem_of_getElem? (i := 1155) (by decide +kernel)) rfl)
abbrev MX9_strokes : MI := (yX9_strokes, cX9_strokes, 1, (Option.some Jvm.ClassFile.FieldType.int))
theorem hm_X9_strokes : hMeth MX9_strokes 0 := ⟨UW_of (List.mem_of_getElem? (i := 1437) (by decide +kernel)) rfl, UW_of (List.mem_of_getElem? (i := 103) (by decide +kernel)) rfl, ⟨by decide +kernel, by decide +kernel⟩, by decide +kernel, by decide⟩
theorem hv_X9_strokes : hVirt MX9_strokes 9 := ⟨UW_of (List.mem_of_getElem? (i := 1435) (by decide +kernel)) rfl, UW_of (List.mem_of_getElem? (i := 1436) (by decide +kernel)) rfl, ⟨_, _, rfl⟩, by decide⟩
abbrev MX9_four : MI := (yX9_four, cX9_four, 3, none)
theorem hm_X9_four : hMeth MX9_four 1 := ⟨UW_of (List.mem_of_getElem? (i := 1445) (by decide +kernel)) rfl, UW_of (List.mem_of_getElem? (i := 103) (by decide +kernel)) rfl, ⟨by decide +kernel, by decide +kernel⟩, by decide +kernel, by decide⟩
theorem hv_X9_four : hVirt MX9_four 9 := ⟨UW_of (List.mem_of_getElem? (i := 1444) (by decide +kernel)) rfl, UW_of (List.mem_of_getElem? (i := 41) (by decide +kernel)) rfl, ⟨_, _, rfl⟩, by decide⟩
abbrev MX9_feed : MI := (yX9_feed, cX9_feed, 6, (Option.some Jvm.ClassFile.FieldType.int))
theorem hm_X9_feed : hMeth MX9_feed 5 := ⟨UW_of (List.mem_of_getElem? (i := 1441) (by decide +kernel)) rfl, UW_of (List.mem_of_getElem? (i := 103) (by decide +kernel)) rfl, ⟨by decide +kernel, by decide +kernel⟩, by decide +kernel, by decide⟩
theorem hv_X9_feed : hVirt MX9_feed 9 := ⟨UW_of (List.mem_of_getElem? (i := 1439) (by decide +kernel)) rfl, UW_of (List.mem_of_getElem? (i := 1440) (by decide +kernel)) rfl, ⟨_, _, rfl⟩, by decide⟩
theorem ln_X9_217 : hLnk RX9 217 yX9_four := Or.inl (UW_of (List.mem_of_getElem? (i := 1442) (by decide +kernel)) rfl)
abbrev MX9_end : MI := (yX9_end, cX9_end, 2, (Option.some Jvm.ClassFile.FieldType.int))
theorem hm_X9_end : hMeth MX9_end 1 := ⟨UW_of (List.mem_of_getElem? (i := 1449) (by decide +kernel)) rfl, UW_of (List.mem_of_getElem? (i := 103) (by decide +kernel)) rfl, ⟨by decide +kernel, by decide +kernel⟩, by decide +kernel, by decide⟩
theorem hv_X9_end : hVirt MX9_end 9 := ⟨UW_of (List.mem_of_getElem? (i := 1447) (by decide +kernel)) rfl, UW_of (List.mem_of_getElem? (i := 1448) (by decide +kernel)) rfl, ⟨_, _, rfl⟩, by decide⟩
abbrev MX9_isSmall : MI := (yX9_isSmall, cX9_isSmall, 1, (Option.some Jvm.ClassFile.FieldType.boolean))
theorem hm_X9_isSmall : hMeth MX9_isSmall 1 := ⟨UW_of (List.mem_of_getElem? (i := 1472) (by decide +kernel)) rfl, UW_of (List.mem_of_getElem? (i := 103) (by decide +kernel)) rfl, ⟨by decide +kernel, by decide +kernel⟩, by decide +kernel, by decide⟩
theorem hs_X9_isSmall : Cond.static MX9_isSmall.1 ∈ UW := UW_of (List.mem_of_getElem? (i := 1471) (by decide +kernel)) rfl
abbrev MX9_isDigit : MI := (yX9_isDigit, cX9_isDigit, 1, (Option.some Jvm.ClassFile.FieldType.boolean))
theorem hm_X9_isDigit : hMeth MX9_isDigit 1 := ⟨UW_of (List.mem_of_getElem? (i := 1475) (by decide +kernel)) rfl, UW_of (List.mem_of_getElem? (i := 103) (by decide +kernel)) rfl, ⟨by decide +kernel, by decide +kernel⟩, by decide +kernel, by decide⟩
theorem hs_X9_isDigit : Cond.static MX9_isDigit.1 ∈ UW := UW_of (List.mem_of_getElem? (i := 1474) (by decide +kernel)) rfl
abbrev MX9_next : MI := (yX9_next, cX9_next, 1, none)
theorem hm_X9_next : hMeth MX9_next 0 := ⟨UW_of (List.mem_of_getElem? (i := 1469) (by decide +kernel)) rfl, UW_of (List.mem_of_getElem? (i := 103) (by decide +kernel)) rfl, ⟨by decide +kernel, by decide +kernel⟩, by decide +kernel, by decide⟩
theorem hv_X9_next : hVirt MX9_next 9 := ⟨UW_of (List.mem_of_getElem? (i := 1468) (by decide +kernel)) rfl, UW_of (List.mem_of_getElem? (i := 44) (by decide +kernel)) rfl, ⟨_, _, rfl⟩, by decide⟩
theorem lk_X9_220 : LK RX9 220 TX9 15 := Or.inl (UW_of (List.mem_of_getElem? (i := 1159) (by decide +kernel)) rfl)
theorem lk_X9_230 : LK RX9 230 TX9 14 := Or.inl (UW_of (List.mem_of_getElem? (i := 1158) (by decide +kernel)) rfl)
theorem lk_X9_233 : LK RX9 233 TX9 17 := Or.inl (UW_of (List.mem_of_getElem? (i := 1161) (by decide +kernel)) rfl)
theorem ln_X9_237 : hLnk RX9 237 yX9_isSmall := Or.inl (UW_of (List.mem_of_getElem? (i := 1470) (by decide +kernel)) rfl)
theorem ln_X9_240 : hLnk RX9 240 yX9_isDigit := Or.inl (UW_of (List.mem_of_getElem? (i := 1473) (by decide +kernel)) rfl)
theorem lk_X9_243 : LK RX9 243 TX9 16 := Or.inl (UW_of (List.mem_of_getElem? (i := 1160) (by decide +kernel)) rfl)
theorem cn_X9_246 : Cond.constantLong RX9 246 (32) ∈ UW := UW_of (List.mem_of_getElem? (i := 1476) (by decide +kernel)) rfl
theorem cn_X9_248 : Cond.constantLong RX9 248 (96) ∈ UW := UW_of (List.mem_of_getElem? (i := 1477) (by decide +kernel)) rfl
theorem cn_X9_250 : Cond.constantLong RX9 250 (1000000) ∈ UW := UW_of (List.mem_of_getElem? (i := 1478) (by decide +kernel)) rfl
theorem cn_X9_252 : Cond.constantLong RX9 252 (48) ∈ UW := UW_of (List.mem_of_getElem? (i := 1479) (by decide +kernel)) rfl
abbrev MX9_begin : MI := (yX9_begin, cX9_begin, 1, none)
theorem hm_X9_begin : hMeth MX9_begin 0 := ⟨UW_of (List.mem_of_getElem? (i := 1465) (by decide +kernel)) rfl, UW_of (List.mem_of_getElem? (i := 103) (by decide +kernel)) rfl, ⟨by decide +kernel, by decide +kernel⟩, by decide +kernel, by decide⟩
theorem hv_X9_begin : hVirt MX9_begin 9 := ⟨UW_of (List.mem_of_getElem? (i := 1464) (by decide +kernel)) rfl, UW_of (List.mem_of_getElem? (i := 43) (by decide +kernel)) rfl, ⟨_, _, rfl⟩, by decide⟩
theorem lk_X9_223 : LK RX9 223 TX9 19 := Or.inl (UW_of (List.mem_of_getElem? (i := 1163) (by decide +kernel)) rfl)
theorem ln_X9_227 : hLnk RX9 227 yX9_next := Or.inl (UW_of (List.mem_of_getElem? (i := 1466) (by decide +kernel)) rfl)
abbrev MX9_isWord : MI := (yX9_isWord, cX9_isWord, 3, (Option.some Jvm.ClassFile.FieldType.boolean))
theorem hm_X9_isWord : hMeth MX9_isWord 1 := ⟨UW_of (List.mem_of_getElem? (i := 1487) (by decide +kernel)) rfl, UW_of (List.mem_of_getElem? (i := 103) (by decide +kernel)) rfl, ⟨by decide +kernel, by decide +kernel⟩, by decide +kernel, by decide⟩
theorem hv_X9_isWord : hVirt MX9_isWord 9 := ⟨UW_of (List.mem_of_getElem? (i := 1486) (by decide +kernel)) rfl, UW_of (List.mem_of_getElem? (i := 46) (by decide +kernel)) rfl, ⟨_, _, rfl⟩, by decide⟩
abbrev MX9_isSign : MI := (yX9_isSign, cX9_isSign, 2, (Option.some Jvm.ClassFile.FieldType.boolean))
theorem hm_X9_isSign : hMeth MX9_isSign 1 := ⟨UW_of (List.mem_of_getElem? (i := 1508) (by decide +kernel)) rfl, UW_of (List.mem_of_getElem? (i := 103) (by decide +kernel)) rfl, ⟨by decide +kernel, by decide +kernel⟩, by decide +kernel, by decide⟩
theorem hv_X9_isSign : hVirt MX9_isSign 9 := ⟨UW_of (List.mem_of_getElem? (i := 1507) (by decide +kernel)) rfl, UW_of (List.mem_of_getElem? (i := 51) (by decide +kernel)) rfl, ⟨_, _, rfl⟩, by decide⟩
abbrev MX9_must : MI := (yX9_must, cX9_must, 2, none)
theorem hm_X9_must : hMeth MX9_must 1 := ⟨UW_of (List.mem_of_getElem? (i := 1491) (by decide +kernel)) rfl, UW_of (List.mem_of_getElem? (i := 103) (by decide +kernel)) rfl, ⟨by decide +kernel, by decide +kernel⟩, by decide +kernel, by decide⟩
theorem hv_X9_must : hVirt MX9_must 9 := ⟨UW_of (List.mem_of_getElem? (i := 1490) (by decide +kernel)) rfl, UW_of (List.mem_of_getElem? (i := 47) (by decide +kernel)) rfl, ⟨_, _, rfl⟩, by decide⟩
abbrev MX9_number : MI := (yX9_number, cX9_number, 6, (Option.some Jvm.ClassFile.FieldType.int))
theorem hm_X9_number : hMeth MX9_number 2 := ⟨UW_of (List.mem_of_getElem? (i := 1537) (by decide +kernel)) rfl, UW_of (List.mem_of_getElem? (i := 103) (by decide +kernel)) rfl, ⟨by decide +kernel, by decide +kernel⟩, by decide +kernel, by decide⟩
theorem hv_X9_number : hVirt MX9_number 9 := ⟨UW_of (List.mem_of_getElem? (i := 1536) (by decide +kernel)) rfl, UW_of (List.mem_of_getElem? (i := 58) (by decide +kernel)) rfl, ⟨_, _, rfl⟩, by decide⟩
theorem ln_X9_254 : hLnk RX9 254 yX9_must := Or.inl (UW_of (List.mem_of_getElem? (i := 1488) (by decide +kernel)) rfl)
abbrev MX9_fault : MI := (yX9_fault, cX9_fault, 1, (Option.some Jvm.ClassFile.FieldType.int))
theorem hm_X9_fault : hMeth MX9_fault 0 := ⟨UW_of (List.mem_of_getElem? (i := 1453) (by decide +kernel)) rfl, UW_of (List.mem_of_getElem? (i := 103) (by decide +kernel)) rfl, ⟨by decide +kernel, by decide +kernel⟩, by decide +kernel, by decide⟩
theorem hv_X9_fault : hVirt MX9_fault 9 := ⟨UW_of (List.mem_of_getElem? (i := 1451) (by decide +kernel)) rfl, UW_of (List.mem_of_getElem? (i := 1452) (by decide +kernel)) rfl, ⟨_, _, rfl⟩, by decide⟩
abbrev MX9_emit : MI := (yX9_emit, cX9_emit, 3, none)
theorem hm_X9_emit : hMeth MX9_emit 2 := ⟨UW_of (List.mem_of_getElem? (i := 1533) (by decide +kernel)) rfl, UW_of (List.mem_of_getElem? (i := 103) (by decide +kernel)) rfl, ⟨by decide +kernel, by decide +kernel⟩, by decide +kernel, by decide⟩
theorem hv_X9_emit : hVirt MX9_emit 9 := ⟨UW_of (List.mem_of_getElem? (i := 1532) (by decide +kernel)) rfl, UW_of (List.mem_of_getElem? (i := 57) (by decide +kernel)) rfl, ⟨_, _, rfl⟩, by decide⟩
theorem lk_X9_258 : LK RX9 258 TX9 23 := Or.inl (UW_of (List.mem_of_getElem? (i := 1167) (by decide +kernel)) rfl)
abbrev MX9_push : MI := (yX9_push, cX9_push, 3, none)
theorem hm_X9_push : hMeth MX9_push 2 := ⟨UW_of (List.mem_of_getElem? (i := 1504) (by decide +kernel)) rfl, UW_of (List.mem_of_getElem? (i := 103) (by decide +kernel)) rfl, ⟨by decide +kernel, by decide +kernel⟩, by decide +kernel, by decide⟩
theorem hv_X9_push : hVirt MX9_push 9 := ⟨UW_of (List.mem_of_getElem? (i := 1503) (by decide +kernel)) rfl, UW_of (List.mem_of_getElem? (i := 50) (by decide +kernel)) rfl, ⟨_, _, rfl⟩, by decide⟩
theorem lk_X9_261 : LK RX9 261 TX9 29 := Or.inl (UW_of (List.mem_of_getElem? (i := 1173) (by decide +kernel)) rfl)
abbrev MX9_binds : MI := (yX9_binds, cX9_binds, 1, (Option.some Jvm.ClassFile.FieldType.int))
theorem hm_X9_binds : hMeth MX9_binds 1 := ⟨UW_of (List.mem_of_getElem? (i := 1544) (by decide +kernel)) rfl, UW_of (List.mem_of_getElem? (i := 103) (by decide +kernel)) rfl, ⟨by decide +kernel, by decide +kernel⟩, by decide +kernel, by decide⟩
theorem hs_X9_binds : Cond.static MX9_binds.1 ∈ UW := UW_of (List.mem_of_getElem? (i := 1543) (by decide +kernel)) rfl
abbrev MX9_settle : MI := (yX9_settle, cX9_settle, 2, none)
theorem hm_X9_settle : hMeth MX9_settle 1 := ⟨UW_of (List.mem_of_getElem? (i := 1548) (by decide +kernel)) rfl, UW_of (List.mem_of_getElem? (i := 103) (by decide +kernel)) rfl, ⟨by decide +kernel, by decide +kernel⟩, by decide +kernel, by decide⟩
theorem hv_X9_settle : hVirt MX9_settle 9 := ⟨UW_of (List.mem_of_getElem? (i := 1547) (by decide +kernel)) rfl, UW_of (List.mem_of_getElem? (i := 60) (by decide +kernel)) rfl, ⟨_, _, rfl⟩, by decide⟩
theorem ln_X9_264 : hLnk RX9 264 yX9_binds := Or.inl (UW_of (List.mem_of_getElem? (i := 1542) (by decide +kernel)) rfl)
theorem ln_X9_267 : hLnk RX9 267 yX9_emit := Or.inl (UW_of (List.mem_of_getElem? (i := 1530) (by decide +kernel)) rfl)
abbrev MX9_inner : MI := (yX9_inner, cX9_inner, 3, (Option.some Jvm.ClassFile.FieldType.int))
theorem hm_X9_inner : hMeth MX9_inner 0 := ⟨UW_of (List.mem_of_getElem? (i := 1552) (by decide +kernel)) rfl, UW_of (List.mem_of_getElem? (i := 103) (by decide +kernel)) rfl, ⟨by decide +kernel, by decide +kernel⟩, by decide +kernel, by decide⟩
theorem hv_X9_inner : hVirt MX9_inner 9 := ⟨UW_of (List.mem_of_getElem? (i := 1551) (by decide +kernel)) rfl, UW_of (List.mem_of_getElem? (i := 61) (by decide +kernel)) rfl, ⟨_, _, rfl⟩, by decide⟩
abbrev MX9_isCompared : MI := (yX9_isCompared, cX9_isCompared, 2, (Option.some Jvm.ClassFile.FieldType.boolean))
theorem hm_X9_isCompared : hMeth MX9_isCompared 0 := ⟨UW_of (List.mem_of_getElem? (i := 1556) (by decide +kernel)) rfl, UW_of (List.mem_of_getElem? (i := 103) (by decide +kernel)) rfl, ⟨by decide +kernel, by decide +kernel⟩, by decide +kernel, by decide⟩
theorem hv_X9_isCompared : hVirt MX9_isCompared 9 := ⟨UW_of (List.mem_of_getElem? (i := 1555) (by decide +kernel)) rfl, UW_of (List.mem_of_getElem? (i := 62) (by decide +kernel)) rfl, ⟨_, _, rfl⟩, by decide⟩
theorem cn_X9_271 : Cond.constantLong RX9 271 (24) ∈ UW := UW_of (List.mem_of_getElem? (i := 1557) (by decide +kernel)) rfl
theorem cn_X9_273 : Cond.constantLong RX9 273 (25) ∈ UW := UW_of (List.mem_of_getElem? (i := 1558) (by decide +kernel)) rfl
theorem cn_X9_275 : Cond.constantLong RX9 275 (27) ∈ UW := UW_of (List.mem_of_getElem? (i := 1559) (by decide +kernel)) rfl
abbrev MX9_partAt : MI := (yX9_partAt, cX9_partAt, 3, (Option.some Jvm.ClassFile.FieldType.int))
theorem hm_X9_partAt : hMeth MX9_partAt 0 := ⟨UW_of (List.mem_of_getElem? (i := 1524) (by decide +kernel)) rfl, UW_of (List.mem_of_getElem? (i := 103) (by decide +kernel)) rfl, ⟨by decide +kernel, by decide +kernel⟩, by decide +kernel, by decide⟩
theorem hv_X9_partAt : hVirt MX9_partAt 9 := ⟨UW_of (List.mem_of_getElem? (i := 1523) (by decide +kernel)) rfl, UW_of (List.mem_of_getElem? (i := 55) (by decide +kernel)) rfl, ⟨_, _, rfl⟩, by decide⟩
theorem ln_X9_277 : hLnk RX9 277 yX9_isWord := Or.inl (UW_of (List.mem_of_getElem? (i := 1484) (by decide +kernel)) rfl)
abbrev MX9_orderPartAt : MI := (yX9_orderPartAt, cX9_orderPartAt, 3, (Option.some Jvm.ClassFile.FieldType.int))
theorem hm_X9_orderPartAt : hMeth MX9_orderPartAt 0 := ⟨UW_of (List.mem_of_getElem? (i := 1520) (by decide +kernel)) rfl, UW_of (List.mem_of_getElem? (i := 103) (by decide +kernel)) rfl, ⟨by decide +kernel, by decide +kernel⟩, by decide +kernel, by decide⟩
theorem hv_X9_orderPartAt : hVirt MX9_orderPartAt 9 := ⟨UW_of (List.mem_of_getElem? (i := 1519) (by decide +kernel)) rfl, UW_of (List.mem_of_getElem? (i := 54) (by decide +kernel)) rfl, ⟨_, _, rfl⟩, by decide⟩
abbrev MX9_openBracket : MI := (yX9_openBracket, cX9_openBracket, 2, none)
theorem hm_X9_openBracket : hMeth MX9_openBracket 1 := ⟨UW_of (List.mem_of_getElem? (i := 1512) (by decide +kernel)) rfl, UW_of (List.mem_of_getElem? (i := 103) (by decide +kernel)) rfl, ⟨by decide +kernel, by decide +kernel⟩, by decide +kernel, by decide⟩
theorem hv_X9_openBracket : hVirt MX9_openBracket 9 := ⟨UW_of (List.mem_of_getElem? (i := 1511) (by decide +kernel)) rfl, UW_of (List.mem_of_getElem? (i := 52) (by decide +kernel)) rfl, ⟨_, _, rfl⟩, by decide⟩
theorem lk_X9_281 : LK RX9 281 TX9 30 := Or.inl (UW_of (List.mem_of_getElem? (i := 1174) (by decide +kernel)) rfl)
theorem ln_X9_284 : hLnk RX9 284 yX9_push := Or.inl (UW_of (List.mem_of_getElem? (i := 1501) (by decide +kernel)) rfl)
