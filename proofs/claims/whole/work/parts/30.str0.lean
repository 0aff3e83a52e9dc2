/-! ===== the text of the words: String.length, charAt, on the one constant ===== -/
abbrev MJ0_length_8abf5 : MI := (yJ0_length_8abf5, cJ0_length_8abf5, 1, (Option.some Jvm.ClassFile.FieldType.int))
theorem hm_J0_length_8abf5 : hMeth MJ0_length_8abf5 0 := ⟨UW_of (List.mem_of_getElem? (i := 630) (by decide +kernel)) rfl, UW_of (List.mem_of_getElem? (i := 105) (by decide +kernel)) rfl, ⟨by decide +kernel, by decide +kernel⟩, by decide +kernel, by decide⟩
theorem hj_J0_length_8abf5 : Cond.instanceMethod MJ0_length_8abf5.1 ∈ UW ∧ Cond.selects MJ0_length_8abf5.1.cls MJ0_length_8abf5.1 MJ0_length_8abf5.1 ∈ UW := ⟨UW_of (List.mem_of_getElem? (i := 628) (by decide +kernel)) rfl, UW_of (List.mem_of_getElem? (i := 629) (by decide +kernel)) rfl⟩
abbrev MJ0_charAt_5068e : MI := (yJ0_charAt_5068e, cJ0_charAt_5068e, 2, (Option.some Jvm.ClassFile.FieldType.char))
theorem hm_J0_charAt_5068e : hMeth MJ0_charAt_5068e 1 := ⟨UW_of (List.mem_of_getElem? (i := 640) (by decide +kernel)) rfl, UW_of (List.mem_of_getElem? (i := 105) (by decide +kernel)) rfl, ⟨by decide +kernel, by decide +kernel⟩, by decide +kernel, by decide⟩
theorem hj_J0_charAt_5068e : Cond.instanceMethod MJ0_charAt_5068e.1 ∈ UW ∧ Cond.selects MJ0_charAt_5068e.1.cls MJ0_charAt_5068e.1 MJ0_charAt_5068e.1 ∈ UW := ⟨UW_of (List.mem_of_getElem? (i := 638) (by decide +kernel)) rfl, UW_of (List.mem_of_getElem? (i := 639) (by decide +kernel)) rfl⟩
abbrev MJ0_coder_7d493 : MI := (yJ0_coder_7d493, cJ0_coder_7d493, 1, (Option.some Jvm.ClassFile.FieldType.byte))
theorem hm_J0_coder_7d493 : hMeth MJ0_coder_7d493 0 := ⟨UW_of (List.mem_of_getElem? (i := 634) (by decide +kernel)) rfl, UW_of (List.mem_of_getElem? (i := 105) (by decide +kernel)) rfl, ⟨by decide +kernel, by decide +kernel⟩, by decide +kernel, by decide⟩
theorem hj_J0_coder_7d493 : Cond.instanceMethod MJ0_coder_7d493.1 ∈ UW ∧ Cond.selects MJ0_coder_7d493.1.cls MJ0_coder_7d493.1 MJ0_coder_7d493.1 ∈ UW := ⟨UW_of (List.mem_of_getElem? (i := 632) (by decide +kernel)) rfl, UW_of (List.mem_of_getElem? (i := 633) (by decide +kernel)) rfl⟩
abbrev MJ0_isLatin1_aae02 : MI := (yJ0_isLatin1_aae02, cJ0_isLatin1_aae02, 1, (Option.some Jvm.ClassFile.FieldType.boolean))
theorem hm_J0_isLatin1_aae02 : hMeth MJ0_isLatin1_aae02 0 := ⟨UW_of (List.mem_of_getElem? (i := 644) (by decide +kernel)) rfl, UW_of (List.mem_of_getElem? (i := 105) (by decide +kernel)) rfl, ⟨by decide +kernel, by decide +kernel⟩, by decide +kernel, by decide⟩
theorem hj_J0_isLatin1_aae02 : Cond.instanceMethod MJ0_isLatin1_aae02.1 ∈ UW ∧ Cond.selects MJ0_isLatin1_aae02.1.cls MJ0_isLatin1_aae02.1 MJ0_isLatin1_aae02.1 ∈ UW := ⟨UW_of (List.mem_of_getElem? (i := 642) (by decide +kernel)) rfl, UW_of (List.mem_of_getElem? (i := 643) (by decide +kernel)) rfl⟩
abbrev MJ0_checkIndex_df160 : MI := (yJ0_checkIndex_df160, cJ0_checkIndex_df160, 2, none)
theorem hm_J0_checkIndex_df160 : hMeth MJ0_checkIndex_df160 2 := ⟨UW_of (List.mem_of_getElem? (i := 650) (by decide +kernel)) rfl, UW_of (List.mem_of_getElem? (i := 105) (by decide +kernel)) rfl, ⟨by decide +kernel, by decide +kernel⟩, by decide +kernel, by decide⟩
theorem hs_J0_checkIndex_df160 : Cond.static MJ0_checkIndex_df160.1 ∈ UW := UW_of (List.mem_of_getElem? (i := 649) (by decide +kernel)) rfl
abbrev MJ1_charAt_3b067 : MI := (yJ1_charAt_3b067, cJ1_charAt_3b067, 2, (Option.some Jvm.ClassFile.FieldType.char))
theorem hm_J1_charAt_3b067 : hMeth MJ1_charAt_3b067 2 := ⟨UW_of (List.mem_of_getElem? (i := 647) (by decide +kernel)) rfl, UW_of (List.mem_of_getElem? (i := 106) (by decide +kernel)) rfl, ⟨by decide +kernel, by decide +kernel⟩, by decide +kernel, by decide⟩
theorem hs_J1_charAt_3b067 : Cond.static MJ1_charAt_3b067.1 ∈ UW := UW_of (List.mem_of_getElem? (i := 646) (by decide +kernel)) rfl
abbrev MJ3_checkIndex_8e157 : MI := (yJ3_checkIndex_8e157, cJ3_checkIndex_8e157, 3, (Option.some Jvm.ClassFile.FieldType.int))
theorem hm_J3_checkIndex_8e157 : hMeth MJ3_checkIndex_8e157 3 := ⟨UW_of (List.mem_of_getElem? (i := 655) (by decide +kernel)) rfl, UW_of (List.mem_of_getElem? (i := 107) (by decide +kernel)) rfl, ⟨by decide +kernel, by decide +kernel⟩, by decide +kernel, by decide⟩
theorem hs_J3_checkIndex_8e157 : Cond.static MJ3_checkIndex_8e157.1 ∈ UW := UW_of (List.mem_of_getElem? (i := 654) (by decide +kernel)) rfl
theorem js_X4_74 : Cond.methodLink RX4 74 yJ0_length_8abf5 ∈ UW := UW_of (List.mem_of_getElem? (i := 627) (by decide +kernel)) rfl
theorem js_X4_80 : Cond.methodLink RX4 80 yJ0_charAt_5068e ∈ UW := UW_of (List.mem_of_getElem? (i := 637) (by decide +kernel)) rfl
theorem js_J0_335 : Cond.methodLink RJ0 335 yJ0_coder_7d493 ∈ UW := UW_of (List.mem_of_getElem? (i := 631) (by decide +kernel)) rfl
theorem js_J0_492 : Cond.methodLink RJ0 492 yJ0_isLatin1_aae02 ∈ UW := UW_of (List.mem_of_getElem? (i := 641) (by decide +kernel)) rfl
theorem js_J0_495 : Cond.methodLink RJ0 495 yJ1_charAt_3b067 ∈ UW := UW_of (List.mem_of_getElem? (i := 645) (by decide +kernel)) rfl
theorem js_J1_9 : Cond.methodLink RJ1 9 yJ0_checkIndex_df160 ∈ UW := UW_of (List.mem_of_getElem? (i := 648) (by decide +kernel)) rfl
theorem js_J0_1059 : Cond.methodLink RJ0 1059 yJ3_checkIndex_8e157 ∈ UW := UW_of (List.mem_of_getElem? (i := 653) (by decide +kernel)) rfl
theorem jf_38 : Cond.fieldLink RJ0 38 "java/lang/String" "COMPACT_STRINGS" "Z" ∈ UW := UW_of (List.mem_of_getElem? (i := 635) (by decide +kernel)) rfl
theorem jf_9 : Cond.fieldLink RJ0 9 "java/lang/String" "value" "[B" ∈ UW := UW_of (List.mem_of_getElem? (i := 1813) (by decide +kernel)) rfl
theorem jf_15 : Cond.fieldLink RJ0 15 "java/lang/String" "coder" "B" ∈ UW := UW_of (List.mem_of_getElem? (i := 1814) (by decide +kernel)) rfl
theorem jf_1053 : Cond.fieldLink RJ0 1053 "jdk/internal/util/Preconditions" "SIOOBE_FORMATTER" "Ljava/util/function/BiFunction;" ∈ UW := UW_of (List.mem_of_getElem? (i := 651) (by decide +kernel)) rfl
theorem dJ0_length_8abf5_0 : decode cJ0_length_8abf5 0 = .ok (.aload_n 0, 1) := by decide +kernel
theorem dJ0_length_8abf5_1 : decode cJ0_length_8abf5 1 = .ok (.getfield 9, 3) := by decide +kernel
theorem dJ0_length_8abf5_4 : decode cJ0_length_8abf5 4 = .ok (.arraylength, 1) := by decide +kernel
theorem dJ0_length_8abf5_5 : decode cJ0_length_8abf5 5 = .ok (.aload_n 0, 1) := by decide +kernel
theorem dJ0_length_8abf5_6 : decode cJ0_length_8abf5 6 = .ok (.invokevirtual 335, 3) := by decide +kernel
theorem dJ0_length_8abf5_9 : decode cJ0_length_8abf5 9 = .ok (.ishr, 1) := by decide +kernel
theorem dJ0_length_8abf5_10 : decode cJ0_length_8abf5 10 = .ok (.ireturn, 1) := by decide +kernel
theorem dJ0_charAt_5068e_0 : decode cJ0_charAt_5068e 0 = .ok (.aload_n 0, 1) := by decide +kernel
theorem dJ0_charAt_5068e_1 : decode cJ0_charAt_5068e 1 = .ok (.invokevirtual 492, 3) := by decide +kernel
theorem dJ0_charAt_5068e_4 : decode cJ0_charAt_5068e 4 = .ok (.ifCond .eq 12, 3) := by decide +kernel
theorem dJ0_charAt_5068e_7 : decode cJ0_charAt_5068e 7 = .ok (.aload_n 0, 1) := by decide +kernel
theorem dJ0_charAt_5068e_8 : decode cJ0_charAt_5068e 8 = .ok (.getfield 9, 3) := by decide +kernel
theorem dJ0_charAt_5068e_11 : decode cJ0_charAt_5068e 11 = .ok (.iload_n 1, 1) := by decide +kernel
theorem dJ0_charAt_5068e_12 : decode cJ0_charAt_5068e 12 = .ok (.invokestatic 495, 3) := by decide +kernel
theorem dJ0_charAt_5068e_15 : decode cJ0_charAt_5068e 15 = .ok (.ireturn, 1) := by decide +kernel
theorem dJ0_charAt_5068e_16 : decode cJ0_charAt_5068e 16 = .ok (.aload_n 0, 1) := by decide +kernel
theorem dJ0_charAt_5068e_17 : decode cJ0_charAt_5068e 17 = .ok (.getfield 9, 3) := by decide +kernel
theorem dJ0_charAt_5068e_20 : decode cJ0_charAt_5068e 20 = .ok (.iload_n 1, 1) := by decide +kernel
theorem dJ0_charAt_5068e_21 : decode cJ0_charAt_5068e 21 = .ok (.invokestatic 498, 3) := by decide +kernel
theorem dJ0_charAt_5068e_24 : decode cJ0_charAt_5068e 24 = .ok (.ireturn, 1) := by decide +kernel
theorem dJ0_coder_7d493_0 : decode cJ0_coder_7d493 0 = .ok (.getstatic 38, 3) := by decide +kernel
theorem dJ0_coder_7d493_3 : decode cJ0_coder_7d493 3 = .ok (.ifCond .eq 10, 3) := by decide +kernel
theorem dJ0_coder_7d493_6 : decode cJ0_coder_7d493 6 = .ok (.aload_n 0, 1) := by decide +kernel
theorem dJ0_coder_7d493_7 : decode cJ0_coder_7d493 7 = .ok (.getfield 15, 3) := by decide +kernel
theorem dJ0_coder_7d493_10 : decode cJ0_coder_7d493 10 = .ok (.goto 4, 3) := by decide +kernel
theorem dJ0_coder_7d493_13 : decode cJ0_coder_7d493 13 = .ok (.iconst 1, 1) := by decide +kernel
theorem dJ0_coder_7d493_14 : decode cJ0_coder_7d493 14 = .ok (.ireturn, 1) := by decide +kernel
theorem dJ0_isLatin1_aae02_0 : decode cJ0_isLatin1_aae02 0 = .ok (.getstatic 38, 3) := by decide +kernel
theorem dJ0_isLatin1_aae02_3 : decode cJ0_isLatin1_aae02 3 = .ok (.ifCond .eq 14, 3) := by decide +kernel
theorem dJ0_isLatin1_aae02_6 : decode cJ0_isLatin1_aae02 6 = .ok (.aload_n 0, 1) := by decide +kernel
theorem dJ0_isLatin1_aae02_7 : decode cJ0_isLatin1_aae02 7 = .ok (.getfield 15, 3) := by decide +kernel
theorem dJ0_isLatin1_aae02_10 : decode cJ0_isLatin1_aae02 10 = .ok (.ifCond .ne 7, 3) := by decide +kernel
theorem dJ0_isLatin1_aae02_13 : decode cJ0_isLatin1_aae02 13 = .ok (.iconst 1, 1) := by decide +kernel
theorem dJ0_isLatin1_aae02_14 : decode cJ0_isLatin1_aae02 14 = .ok (.goto 4, 3) := by decide +kernel
theorem dJ0_isLatin1_aae02_17 : decode cJ0_isLatin1_aae02 17 = .ok (.iconst 0, 1) := by decide +kernel
theorem dJ0_isLatin1_aae02_18 : decode cJ0_isLatin1_aae02 18 = .ok (.ireturn, 1) := by decide +kernel
theorem dJ0_checkIndex_df160_0 : decode cJ0_checkIndex_df160 0 = .ok (.iload_n 0, 1) := by decide +kernel
theorem dJ0_checkIndex_df160_1 : decode cJ0_checkIndex_df160 1 = .ok (.iload_n 1, 1) := by decide +kernel
theorem dJ0_checkIndex_df160_2 : decode cJ0_checkIndex_df160 2 = .ok (.getstatic 1053, 3) := by decide +kernel
theorem dJ0_checkIndex_df160_5 : decode cJ0_checkIndex_df160 5 = .ok (.invokestatic 1059, 3) := by decide +kernel
theorem dJ0_checkIndex_df160_8 : decode cJ0_checkIndex_df160 8 = .ok (.pop, 1) := by decide +kernel
theorem dJ0_checkIndex_df160_9 : decode cJ0_checkIndex_df160 9 = .ok (.return_, 1) := by decide +kernel
theorem dJ1_charAt_3b067_0 : decode cJ1_charAt_3b067 0 = .ok (.iload_n 1, 1) := by decide +kernel
theorem dJ1_charAt_3b067_1 : decode cJ1_charAt_3b067 1 = .ok (.aload_n 0, 1) := by decide +kernel
theorem dJ1_charAt_3b067_2 : decode cJ1_charAt_3b067 2 = .ok (.arraylength, 1) := by decide +kernel
theorem dJ1_charAt_3b067_3 : decode cJ1_charAt_3b067 3 = .ok (.invokestatic 9, 3) := by decide +kernel
theorem dJ1_charAt_3b067_6 : decode cJ1_charAt_3b067 6 = .ok (.aload_n 0, 1) := by decide +kernel
theorem dJ1_charAt_3b067_7 : decode cJ1_charAt_3b067 7 = .ok (.iload_n 1, 1) := by decide +kernel
theorem dJ1_charAt_3b067_8 : decode cJ1_charAt_3b067 8 = .ok (.baload, 1) := by decide +kernel
theorem dJ1_charAt_3b067_9 : decode cJ1_charAt_3b067 9 = .ok (.sipush 255, 3) := by decide +kernel
theorem dJ1_charAt_3b067_12 : decode cJ1_charAt_3b067 12 = .ok (.iand, 1) := by decide +kernel
theorem dJ1_charAt_3b067_13 : decode cJ1_charAt_3b067 13 = .ok (.i2c, 1) := by decide +kernel
theorem dJ1_charAt_3b067_14 : decode cJ1_charAt_3b067 14 = .ok (.ireturn, 1) := by decide +kernel
theorem dJ3_checkIndex_8e157_0 : decode cJ3_checkIndex_8e157 0 = .ok (.iload_n 0, 1) := by decide +kernel
theorem dJ3_checkIndex_8e157_1 : decode cJ3_checkIndex_8e157 1 = .ok (.ifCond .lt 8, 3) := by decide +kernel
theorem dJ3_checkIndex_8e157_4 : decode cJ3_checkIndex_8e157 4 = .ok (.iload_n 0, 1) := by decide +kernel
theorem dJ3_checkIndex_8e157_5 : decode cJ3_checkIndex_8e157 5 = .ok (.iload_n 1, 1) := by decide +kernel
theorem dJ3_checkIndex_8e157_6 : decode cJ3_checkIndex_8e157 6 = .ok (.if_icmp .lt 10, 3) := by decide +kernel
theorem dJ3_checkIndex_8e157_9 : decode cJ3_checkIndex_8e157 9 = .ok (.aload_n 2, 1) := by decide +kernel
theorem dJ3_checkIndex_8e157_10 : decode cJ3_checkIndex_8e157 10 = .ok (.iload_n 0, 1) := by decide +kernel
theorem dJ3_checkIndex_8e157_11 : decode cJ3_checkIndex_8e157 11 = .ok (.iload_n 1, 1) := by decide +kernel
theorem dJ3_checkIndex_8e157_12 : decode cJ3_checkIndex_8e157 12 = .ok (.invokestatic 95, 3) := by decide +kernel
theorem dJ3_checkIndex_8e157_15 : decode cJ3_checkIndex_8e157 15 = .ok (.athrow, 1) := by decide +kernel
theorem dJ3_checkIndex_8e157_16 : decode cJ3_checkIndex_8e157 16 = .ok (.iload_n 0, 1) := by decide +kernel
theorem dJ3_checkIndex_8e157_17 : decode cJ3_checkIndex_8e157 17 = .ok (.ireturn, 1) := by decide +kernel
