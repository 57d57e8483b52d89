def kwLz64 : List Cond := [Cond.initialized "java/lang/StringLatin1", Cond.initialized "jdk/internal/util/Preconditions", Cond.code ({ cls := "java/lang/String", name := "length", desc := "()I" } : Jvm.MethodName) prog_20_method_54_code (1 : Nat) (Option.some Jvm.ClassFile.FieldType.int), Cond.methodLink "java/lang/String" (335 : Nat) ({ cls := "java/lang/String", name := "coder", desc := "()B" } : Jvm.MethodName), Cond.instanceMethod ({ cls := "java/lang/String", name := "coder", desc := "()B" } : Jvm.MethodName), Cond.selects "java/lang/String" ({ cls := "java/lang/String", name := "coder", desc := "()B" } : Jvm.MethodName) ({ cls := "java/lang/String", name := "coder", desc := "()B" } : Jvm.MethodName), Cond.code ({ cls := "java/lang/String", name := "coder", desc := "()B" } : Jvm.MethodName) prog_20_method_152_code (1 : Nat) (Option.some Jvm.ClassFile.FieldType.byte), Cond.fieldLink "java/lang/String" (38 : Nat) "java/lang/String" "COMPACT_STRINGS" "Z", Cond.code ({ cls := "java/lang/String", name := "charAt", desc := "(I)C" } : Jvm.MethodName) prog_20_method_56_code (2 : Nat) (Option.some Jvm.ClassFile.FieldType.char), Cond.methodLink "java/lang/String" (492 : Nat) ({ cls := "java/lang/String", name := "isLatin1", desc := "()Z" } : Jvm.MethodName), Cond.instanceMethod ({ cls := "java/lang/String", name := "isLatin1", desc := "()Z" } : Jvm.MethodName), Cond.selects "java/lang/String" ({ cls := "java/lang/String", name := "isLatin1", desc := "()Z" } : Jvm.MethodName) ({ cls := "java/lang/String", name := "isLatin1", desc := "()Z" } : Jvm.MethodName), Cond.code ({ cls := "java/lang/String", name := "isLatin1", desc := "()Z" } : Jvm.MethodName) prog_20_method_154_code (1 : Nat) (Option.some Jvm.ClassFile.FieldType.boolean), Cond.methodLink "java/lang/String" (495 : Nat) ({ cls := "java/lang/StringLatin1", name := "charAt", desc := "([BI)C" } : Jvm.MethodName), Cond.static ({ cls := "java/lang/StringLatin1", name := "charAt", desc := "([BI)C" } : Jvm.MethodName), Cond.code ({ cls := "java/lang/StringLatin1", name := "charAt", desc := "([BI)C" } : Jvm.MethodName) prog_21_method_2_code (2 : Nat) (Option.some Jvm.ClassFile.FieldType.char), Cond.methodLink "java/lang/StringLatin1" (9 : Nat) ({ cls := "java/lang/String", name := "checkIndex", desc := "(II)V" } : Jvm.MethodName), Cond.static ({ cls := "java/lang/String", name := "checkIndex", desc := "(II)V" } : Jvm.MethodName), Cond.code ({ cls := "java/lang/String", name := "checkIndex", desc := "(II)V" } : Jvm.MethodName) prog_20_method_155_code (2 : Nat) (Option.none : Option Jvm.ClassFile.FieldType), Cond.fieldLink "java/lang/String" (1053 : Nat) "jdk/internal/util/Preconditions" "SIOOBE_FORMATTER" "Ljava/util/function/BiFunction;", Cond.methodLink "java/lang/String" (1059 : Nat) ({ cls := "jdk/internal/util/Preconditions", name := "checkIndex", desc := "(IILjava/util/function/BiFunction;)I" } : Jvm.MethodName), Cond.static ({ cls := "jdk/internal/util/Preconditions", name := "checkIndex", desc := "(IILjava/util/function/BiFunction;)I" } : Jvm.MethodName), Cond.code ({ cls := "jdk/internal/util/Preconditions", name := "checkIndex", desc := "(IILjava/util/function/BiFunction;)I" } : Jvm.MethodName) prog_25_method_11_code (3 : Nat) (Option.some Jvm.ClassFile.FieldType.int), Cond.fieldLink "java/lang/String" (9 : Nat) "java/lang/String" "value" "[B", Cond.fieldLink "java/lang/String" (15 : Nat) "java/lang/String" "coder" "B"]
set_option maxRecDepth 20000 in
theorem kwGz64 : ∀ w ∈ kwLz64, w ∈ mBig := mBig_of (goodIn_r _ [106, 107, 1265, 1266, 1267, 1268, 1269, 1270, 1275, 1276, 1277, 1278, 1279, 1280, 1281, 1282, 1283, 1284, 1285, 1286, 1288, 1289, 1290, 1600, 1601] rfl (by decide +kernel)) (by decide +kernel)
theorem kw_106 : Cond.initialized "java/lang/StringLatin1" ∈ mBig := kwGz64 _ (List.mem_of_getElem? (i := 0) rfl)
theorem kw_107 : Cond.initialized "jdk/internal/util/Preconditions" ∈ mBig := kwGz64 _ (List.mem_of_getElem? (i := 1) rfl)
theorem kw_1265 : Cond.code ({ cls := "java/lang/String", name := "length", desc := "()I" } : Jvm.MethodName) prog_20_method_54_code (1 : Nat) (Option.some Jvm.ClassFile.FieldType.int) ∈ mBig := kwGz64 _ (List.mem_of_getElem? (i := 2) rfl)
theorem kw_1266 : Cond.methodLink "java/lang/String" (335 : Nat) ({ cls := "java/lang/String", name := "coder", desc := "()B" } : Jvm.MethodName) ∈ mBig := kwGz64 _ (List.mem_of_getElem? (i := 3) rfl)
theorem kw_1267 : Cond.instanceMethod ({ cls := "java/lang/String", name := "coder", desc := "()B" } : Jvm.MethodName) ∈ mBig := kwGz64 _ (List.mem_of_getElem? (i := 4) rfl)
theorem kw_1268 : Cond.selects "java/lang/String" ({ cls := "java/lang/String", name := "coder", desc := "()B" } : Jvm.MethodName) ({ cls := "java/lang/String", name := "coder", desc := "()B" } : Jvm.MethodName) ∈ mBig := kwGz64 _ (List.mem_of_getElem? (i := 5) rfl)
theorem kw_1269 : Cond.code ({ cls := "java/lang/String", name := "coder", desc := "()B" } : Jvm.MethodName) prog_20_method_152_code (1 : Nat) (Option.some Jvm.ClassFile.FieldType.byte) ∈ mBig := kwGz64 _ (List.mem_of_getElem? (i := 6) rfl)
theorem kw_1270 : Cond.fieldLink "java/lang/String" (38 : Nat) "java/lang/String" "COMPACT_STRINGS" "Z" ∈ mBig := kwGz64 _ (List.mem_of_getElem? (i := 7) rfl)
theorem kw_1275 : Cond.code ({ cls := "java/lang/String", name := "charAt", desc := "(I)C" } : Jvm.MethodName) prog_20_method_56_code (2 : Nat) (Option.some Jvm.ClassFile.FieldType.char) ∈ mBig := kwGz64 _ (List.mem_of_getElem? (i := 8) rfl)
theorem kw_1276 : Cond.methodLink "java/lang/String" (492 : Nat) ({ cls := "java/lang/String", name := "isLatin1", desc := "()Z" } : Jvm.MethodName) ∈ mBig := kwGz64 _ (List.mem_of_getElem? (i := 9) rfl)
theorem kw_1277 : Cond.instanceMethod ({ cls := "java/lang/String", name := "isLatin1", desc := "()Z" } : Jvm.MethodName) ∈ mBig := kwGz64 _ (List.mem_of_getElem? (i := 10) rfl)
theorem kw_1278 : Cond.selects "java/lang/String" ({ cls := "java/lang/String", name := "isLatin1", desc := "()Z" } : Jvm.MethodName) ({ cls := "java/lang/String", name := "isLatin1", desc := "()Z" } : Jvm.MethodName) ∈ mBig := kwGz64 _ (List.mem_of_getElem? (i := 11) rfl)
theorem kw_1279 : Cond.code ({ cls := "java/lang/String", name := "isLatin1", desc := "()Z" } : Jvm.MethodName) prog_20_method_154_code (1 : Nat) (Option.some Jvm.ClassFile.FieldType.boolean) ∈ mBig := kwGz64 _ (List.mem_of_getElem? (i := 12) rfl)
theorem kw_1280 : Cond.methodLink "java/lang/String" (495 : Nat) ({ cls := "java/lang/StringLatin1", name := "charAt", desc := "([BI)C" } : Jvm.MethodName) ∈ mBig := kwGz64 _ (List.mem_of_getElem? (i := 13) rfl)
theorem kw_1281 : Cond.static ({ cls := "java/lang/StringLatin1", name := "charAt", desc := "([BI)C" } : Jvm.MethodName) ∈ mBig := kwGz64 _ (List.mem_of_getElem? (i := 14) rfl)
theorem kw_1282 : Cond.code ({ cls := "java/lang/StringLatin1", name := "charAt", desc := "([BI)C" } : Jvm.MethodName) prog_21_method_2_code (2 : Nat) (Option.some Jvm.ClassFile.FieldType.char) ∈ mBig := kwGz64 _ (List.mem_of_getElem? (i := 15) rfl)
theorem kw_1283 : Cond.methodLink "java/lang/StringLatin1" (9 : Nat) ({ cls := "java/lang/String", name := "checkIndex", desc := "(II)V" } : Jvm.MethodName) ∈ mBig := kwGz64 _ (List.mem_of_getElem? (i := 16) rfl)
theorem kw_1284 : Cond.static ({ cls := "java/lang/String", name := "checkIndex", desc := "(II)V" } : Jvm.MethodName) ∈ mBig := kwGz64 _ (List.mem_of_getElem? (i := 17) rfl)
theorem kw_1285 : Cond.code ({ cls := "java/lang/String", name := "checkIndex", desc := "(II)V" } : Jvm.MethodName) prog_20_method_155_code (2 : Nat) (Option.none : Option Jvm.ClassFile.FieldType) ∈ mBig := kwGz64 _ (List.mem_of_getElem? (i := 18) rfl)
theorem kw_1286 : Cond.fieldLink "java/lang/String" (1053 : Nat) "jdk/internal/util/Preconditions" "SIOOBE_FORMATTER" "Ljava/util/function/BiFunction;" ∈ mBig := kwGz64 _ (List.mem_of_getElem? (i := 19) rfl)
theorem kw_1288 : Cond.methodLink "java/lang/String" (1059 : Nat) ({ cls := "jdk/internal/util/Preconditions", name := "checkIndex", desc := "(IILjava/util/function/BiFunction;)I" } : Jvm.MethodName) ∈ mBig := kwGz64 _ (List.mem_of_getElem? (i := 20) rfl)
theorem kw_1289 : Cond.static ({ cls := "jdk/internal/util/Preconditions", name := "checkIndex", desc := "(IILjava/util/function/BiFunction;)I" } : Jvm.MethodName) ∈ mBig := kwGz64 _ (List.mem_of_getElem? (i := 21) rfl)
theorem kw_1290 : Cond.code ({ cls := "jdk/internal/util/Preconditions", name := "checkIndex", desc := "(IILjava/util/function/BiFunction;)I" } : Jvm.MethodName) prog_25_method_11_code (3 : Nat) (Option.some Jvm.ClassFile.FieldType.int) ∈ mBig := kwGz64 _ (List.mem_of_getElem? (i := 22) rfl)
theorem kw_1600 : Cond.fieldLink "java/lang/String" (9 : Nat) "java/lang/String" "value" "[B" ∈ mBig := kwGz64 _ (List.mem_of_getElem? (i := 23) rfl)
theorem kw_1601 : Cond.fieldLink "java/lang/String" (15 : Nat) "java/lang/String" "coder" "B" ∈ mBig := kwGz64 _ (List.mem_of_getElem? (i := 24) rfl)
abbrev M_J0_length_8abf5 : mM := (yJ0_length_8abf5, cJ0_length_8abf5, 1, (Option.some FieldType.int), [])
abbrev M_J0_charAt_5068e : mM := (yJ0_charAt_5068e, cJ0_charAt_5068e, 2, (Option.some FieldType.char), [])
abbrev M_J0_coder_7d493 : mM := (yJ0_coder_7d493, cJ0_coder_7d493, 1, (Option.some FieldType.byte), [])
abbrev M_J0_isLatin1_aae02 : mM := (yJ0_isLatin1_aae02, cJ0_isLatin1_aae02, 1, (Option.some FieldType.boolean), [])
abbrev M_J0_checkIndex_df160 : mM := (yJ0_checkIndex_df160, cJ0_checkIndex_df160, 2, (Option.none : Option FieldType), [])
abbrev M_J1_charAt_3b067 : mM := (yJ1_charAt_3b067, cJ1_charAt_3b067, 2, (Option.some FieldType.char), [])
abbrev M_J3_checkIndex_8e157 : mM := (yJ3_checkIndex_8e157, cJ3_checkIndex_8e157, 3, (Option.some FieldType.int), [])
theorem jw_J0_length_8abf5 : mJw M_J0_length_8abf5 := ⟨kw_1265, kw_105, rfl, ⟨by decide, by decide⟩, by decide⟩
theorem jn_J0_length_8abf5 : mJn M_J0_length_8abf5 0 := by unfold mJn; decide +kernel
theorem jw_J0_charAt_5068e : mJw M_J0_charAt_5068e := ⟨kw_1275, kw_105, rfl, ⟨by decide, by decide⟩, by decide⟩
theorem jn_J0_charAt_5068e : mJn M_J0_charAt_5068e 1 := by unfold mJn; decide +kernel
theorem jw_J0_coder_7d493 : mJw M_J0_coder_7d493 := ⟨kw_1269, kw_105, rfl, ⟨by decide, by decide⟩, by decide⟩
theorem jn_J0_coder_7d493 : mJn M_J0_coder_7d493 0 := by unfold mJn; decide +kernel
theorem jw_J0_isLatin1_aae02 : mJw M_J0_isLatin1_aae02 := ⟨kw_1279, kw_105, rfl, ⟨by decide, by decide⟩, by decide⟩
theorem jn_J0_isLatin1_aae02 : mJn M_J0_isLatin1_aae02 0 := by unfold mJn; decide +kernel
theorem jw_J0_checkIndex_df160 : mJw M_J0_checkIndex_df160 := ⟨kw_1285, kw_105, rfl, ⟨by decide, by decide⟩, by decide⟩
theorem jn_J0_checkIndex_df160 : mJn M_J0_checkIndex_df160 2 := by unfold mJn; decide +kernel
theorem jw_J1_charAt_3b067 : mJw M_J1_charAt_3b067 := ⟨kw_1282, kw_106, rfl, ⟨by decide, by decide⟩, by decide⟩
theorem jn_J1_charAt_3b067 : mJn M_J1_charAt_3b067 2 := by unfold mJn; decide +kernel
theorem jw_J3_checkIndex_8e157 : mJw M_J3_checkIndex_8e157 := ⟨kw_1290, kw_107, rfl, ⟨by decide, by decide⟩, by decide⟩
theorem jn_J3_checkIndex_8e157 : mJn M_J3_checkIndex_8e157 3 := by unfold mJn; decide +kernel
theorem dJ0_length_8abf5_0 : decode cJ0_length_8abf5 0 = .ok (.aload_n 0, 1) := by decide +kernel
theorem dJ0_length_8abf5_1 : decode cJ0_length_8abf5 1 = .ok (.getfield 9, 3) := by decide +kernel
theorem dJ0_length_8abf5_4 : decode cJ0_length_8abf5 4 = .ok (.arraylength, 1) := by decide +kernel
theorem dJ0_length_8abf5_5 : decode cJ0_length_8abf5 5 = .ok (.aload_n 0, 1) := by decide +kernel
theorem dJ0_length_8abf5_6 : decode cJ0_length_8abf5 6 = .ok (.invokevirtual 335, 3) := by decide +kernel
theorem dJ0_length_8abf5_9 : decode cJ0_length_8abf5 9 = .ok (.ishr, 1) := by decide +kernel
theorem dJ0_length_8abf5_10 : decode cJ0_length_8abf5 10 = .ok (.ireturn, 1) := by decide +kernel
theorem dJ0_charAt_5068e_0 : decode cJ0_charAt_5068e 0 = .ok (.aload_n 0, 1) := by decide +kernel
theorem dJ0_charAt_5068e_1 : decode cJ0_charAt_5068e 1 = .ok (.invokevirtual 492, 3) := by decide +kernel
theorem dJ0_charAt_5068e_4 : decode cJ0_charAt_5068e 4 = .ok (.ifCond .eq 12, 3) := by decide +kernel
theorem dJ0_charAt_5068e_7 : decode cJ0_charAt_5068e 7 = .ok (.aload_n 0, 1) := by decide +kernel
theorem dJ0_charAt_5068e_8 : decode cJ0_charAt_5068e 8 = .ok (.getfield 9, 3) := by decide +kernel
theorem dJ0_charAt_5068e_11 : decode cJ0_charAt_5068e 11 = .ok (.iload_n 1, 1) := by decide +kernel
theorem dJ0_charAt_5068e_12 : decode cJ0_charAt_5068e 12 = .ok (.invokestatic 495, 3) := by decide +kernel
theorem dJ0_charAt_5068e_15 : decode cJ0_charAt_5068e 15 = .ok (.ireturn, 1) := by decide +kernel
theorem dJ0_charAt_5068e_16 : decode cJ0_charAt_5068e 16 = .ok (.aload_n 0, 1) := by decide +kernel
theorem dJ0_charAt_5068e_17 : decode cJ0_charAt_5068e 17 = .ok (.getfield 9, 3) := by decide +kernel
theorem dJ0_charAt_5068e_20 : decode cJ0_charAt_5068e 20 = .ok (.iload_n 1, 1) := by decide +kernel
theorem dJ0_charAt_5068e_21 : decode cJ0_charAt_5068e 21 = .ok (.invokestatic 498, 3) := by decide +kernel
theorem dJ0_charAt_5068e_24 : decode cJ0_charAt_5068e 24 = .ok (.ireturn, 1) := by decide +kernel
theorem dJ0_coder_7d493_0 : decode cJ0_coder_7d493 0 = .ok (.getstatic 38, 3) := by decide +kernel
theorem dJ0_coder_7d493_3 : decode cJ0_coder_7d493 3 = .ok (.ifCond .eq 10, 3) := by decide +kernel
theorem dJ0_coder_7d493_6 : decode cJ0_coder_7d493 6 = .ok (.aload_n 0, 1) := by decide +kernel
theorem dJ0_coder_7d493_7 : decode cJ0_coder_7d493 7 = .ok (.getfield 15, 3) := by decide +kernel
theorem dJ0_coder_7d493_10 : decode cJ0_coder_7d493 10 = .ok (.goto 4, 3) := by decide +kernel
theorem dJ0_coder_7d493_13 : decode cJ0_coder_7d493 13 = .ok (.iconst 1, 1) := by decide +kernel
theorem dJ0_coder_7d493_14 : decode cJ0_coder_7d493 14 = .ok (.ireturn, 1) := by decide +kernel
theorem dJ0_isLatin1_aae02_0 : decode cJ0_isLatin1_aae02 0 = .ok (.getstatic 38, 3) := by decide +kernel
theorem dJ0_isLatin1_aae02_3 : decode cJ0_isLatin1_aae02 3 = .ok (.ifCond .eq 14, 3) := by decide +kernel
theorem dJ0_isLatin1_aae02_6 : decode cJ0_isLatin1_aae02 6 = .ok (.aload_n 0, 1) := by decide +kernel
theorem dJ0_isLatin1_aae02_7 : decode cJ0_isLatin1_aae02 7 = .ok (.getfield 15, 3) := by decide +kernel
theorem dJ0_isLatin1_aae02_10 : decode cJ0_isLatin1_aae02 10 = .ok (.ifCond .ne 7, 3) := by decide +kernel
theorem dJ0_isLatin1_aae02_13 : decode cJ0_isLatin1_aae02 13 = .ok (.iconst 1, 1) := by decide +kernel
theorem dJ0_isLatin1_aae02_14 : decode cJ0_isLatin1_aae02 14 = .ok (.goto 4, 3) := by decide +kernel
theorem dJ0_isLatin1_aae02_17 : decode cJ0_isLatin1_aae02 17 = .ok (.iconst 0, 1) := by decide +kernel
theorem dJ0_isLatin1_aae02_18 : decode cJ0_isLatin1_aae02 18 = .ok (.ireturn, 1) := by decide +kernel
theorem dJ0_checkIndex_df160_0 : decode cJ0_checkIndex_df160 0 = .ok (.iload_n 0, 1) := by decide +kernel
theorem dJ0_checkIndex_df160_1 : decode cJ0_checkIndex_df160 1 = .ok (.iload_n 1, 1) := by decide +kernel
theorem dJ0_checkIndex_df160_2 : decode cJ0_checkIndex_df160 2 = .ok (.getstatic 1053, 3) := by decide +kernel
theorem dJ0_checkIndex_df160_5 : decode cJ0_checkIndex_df160 5 = .ok (.invokestatic 1059, 3) := by decide +kernel
theorem dJ0_checkIndex_df160_8 : decode cJ0_checkIndex_df160 8 = .ok (.pop, 1) := by decide +kernel
theorem dJ0_checkIndex_df160_9 : decode cJ0_checkIndex_df160 9 = .ok (.return_, 1) := by decide +kernel
theorem dJ1_charAt_3b067_0 : decode cJ1_charAt_3b067 0 = .ok (.iload_n 1, 1) := by decide +kernel
theorem dJ1_charAt_3b067_1 : decode cJ1_charAt_3b067 1 = .ok (.aload_n 0, 1) := by decide +kernel
theorem dJ1_charAt_3b067_2 : decode cJ1_charAt_3b067 2 = .ok (.arraylength, 1) := by decide +kernel
theorem dJ1_charAt_3b067_3 : decode cJ1_charAt_3b067 3 = .ok (.invokestatic 9, 3) := by decide +kernel
theorem dJ1_charAt_3b067_6 : decode cJ1_charAt_3b067 6 = .ok (.aload_n 0, 1) := by decide +kernel
theorem dJ1_charAt_3b067_7 : decode cJ1_charAt_3b067 7 = .ok (.iload_n 1, 1) := by decide +kernel
theorem dJ1_charAt_3b067_8 : decode cJ1_charAt_3b067 8 = .ok (.baload, 1) := by decide +kernel
theorem dJ1_charAt_3b067_9 : decode cJ1_charAt_3b067 9 = .ok (.sipush 255, 3) := by decide +kernel
theorem dJ1_charAt_3b067_12 : decode cJ1_charAt_3b067 12 = .ok (.iand, 1) := by decide +kernel
theorem dJ1_charAt_3b067_13 : decode cJ1_charAt_3b067 13 = .ok (.i2c, 1) := by decide +kernel
theorem dJ1_charAt_3b067_14 : decode cJ1_charAt_3b067 14 = .ok (.ireturn, 1) := by decide +kernel
theorem dJ3_checkIndex_8e157_0 : decode cJ3_checkIndex_8e157 0 = .ok (.iload_n 0, 1) := by decide +kernel
theorem dJ3_checkIndex_8e157_1 : decode cJ3_checkIndex_8e157 1 = .ok (.ifCond .lt 8, 3) := by decide +kernel
theorem dJ3_checkIndex_8e157_4 : decode cJ3_checkIndex_8e157 4 = .ok (.iload_n 0, 1) := by decide +kernel
theorem dJ3_checkIndex_8e157_5 : decode cJ3_checkIndex_8e157 5 = .ok (.iload_n 1, 1) := by decide +kernel
theorem dJ3_checkIndex_8e157_6 : decode cJ3_checkIndex_8e157 6 = .ok (.if_icmp .lt 10, 3) := by decide +kernel
theorem dJ3_checkIndex_8e157_9 : decode cJ3_checkIndex_8e157 9 = .ok (.aload_n 2, 1) := by decide +kernel
theorem dJ3_checkIndex_8e157_10 : decode cJ3_checkIndex_8e157 10 = .ok (.iload_n 0, 1) := by decide +kernel
theorem dJ3_checkIndex_8e157_11 : decode cJ3_checkIndex_8e157 11 = .ok (.iload_n 1, 1) := by decide +kernel
theorem dJ3_checkIndex_8e157_12 : decode cJ3_checkIndex_8e157 12 = .ok (.invokestatic 95, 3) := by decide +kernel
theorem dJ3_checkIndex_8e157_15 : decode cJ3_checkIndex_8e157 15 = .ok (.athrow, 1) := by decide +kernel
theorem dJ3_checkIndex_8e157_16 : decode cJ3_checkIndex_8e157 16 = .ok (.iload_n 0, 1) := by decide +kernel
theorem dJ3_checkIndex_8e157_17 : decode cJ3_checkIndex_8e157 17 = .ok (.ireturn, 1) := by decide +kernel
/-! ===== the JDK's strings, and packed ===== -/
theorem mK_nret {Γ : Nat × (Nat → Int32)} {I : mM} {d : Nat} {Q : mQ} {n0 bc bs pc : Nat} {lv : List (Nat × Value)} {N : Nat} {sh : mH} {σ : mS} {x : Int32} {ty : FieldType} (hd : decode I.2.1 pc = .ok (.ireturn, 1)) (hr : I.2.2.2.1 = some ty) (hn : narrow ty (.int x) = .int x) (hQ : Q (.inl (some (.int x))) N sh σ) : mK Γ I d Q n0 bc bs (pc) lv ([.int x]) N sh σ := by
  intro p l e R s m args below meth c H locs cells slots ls D cd ad ad0 aC A mc ms hX hY hS hl hag hb hc
  refine W.widen (k := mc) (n := ms) (by omega) (by omega) (vx_ret ?_)
  exact W.zret hX.1.1 hX.1.2.1 (hX.1.2.2.2.trans hr) hn (mQ_of hQ (fun w hw => by cases hw; exact hc.top) hY hS hag) hS.2.2 hd hX.2.2.1.1
theorem mK_sval {Γ : Nat × (Nat → Int32)} {I : mM} {d : Nat} {Q : mQ} {n0 bc bs pc pc1 : Nat} {lv : List (Nat × Value)} {st : List Value} {N : Nat} {sh : mH} {σ : mS} {n i : Nat} (hi : i < 21) (hd : decode I.2.1 pc = .ok (.getfield n, 3)) (hp : pc + 3 = pc1) (hw : Cond.fieldLink I.1.cls n "java/lang/String" "value" "[B" ∈ mBig) (k : mK Γ I d Q n0 bc bs (pc1) lv (.ref (1400 + i) :: st) N sh σ) : mK Γ I d Q n0 bc bs (pc) lv (.ref (1200 + i) :: st) N sh σ := by
  subst hp
  intro p l e R s m args below meth c H locs cells slots ls D cd ad ad0 aC A mc ms hX hY hS hl hag hb hc
  have h := k p l e R s m args below meth c H locs cells slots ls D cd ad ad0 aC A mc ms hX hY hS hl hag hb (hc.pop.push (mOk_hi (by omega)))
  rw [List.map_cons, show mV cd ad (.ref (1400 + i)) = .ref (cd (1400 + i)) from congrArg Value.ref (mAd_hi (by omega))] at h
  rw [List.map_cons, show mV cd ad (.ref (1200 + i)) = .ref (cd (1200 + i)) from congrArg Value.ref (mAd_hi (by omega))]
  exact vk_getf hX.1.1 hX.1.2.1 (hX.2.2.2.2.2.1.2.2.2.1.1 i hi).2.2.1 hS hX.2.1.1 (hX.2.1.2 _ hw) (fun _ h => h) hd h
theorem mK_scod {Γ : Nat × (Nat → Int32)} {I : mM} {d : Nat} {Q : mQ} {n0 bc bs pc pc1 : Nat} {lv : List (Nat × Value)} {st : List Value} {N : Nat} {sh : mH} {σ : mS} {n i : Nat} (hi : i < 21) (hd : decode I.2.1 pc = .ok (.getfield n, 3)) (hp : pc + 3 = pc1) (hw : Cond.fieldLink I.1.cls n "java/lang/String" "coder" "B" ∈ mBig) (k : mK Γ I d Q n0 bc bs (pc1) lv (.int 0 :: st) N sh σ) : mK Γ I d Q n0 bc bs (pc) lv (.ref (1200 + i) :: st) N sh σ := by
  subst hp
  intro p l e R s m args below meth c H locs cells slots ls D cd ad ad0 aC A mc ms hX hY hS hl hag hb hc
  rw [List.map_cons, show mV cd ad (.ref (1200 + i)) = .ref (cd (1200 + i)) from congrArg Value.ref (mAd_hi (by omega))]
  exact vk_getf hX.1.1 hX.1.2.1 (hX.2.2.2.2.2.1.2.2.2.1.1 i hi).2.1 hS hX.2.1.1 (hX.2.1.2 _ hw) (fun _ h => h) hd (k p l e R s m args below meth c H locs cells slots ls D cd ad ad0 aC A mc ms hX hY hS hl hag hb (hc.pop.push mOk_i))
theorem mK_saln {Γ : Nat × (Nat → Int32)} {I : mM} {d : Nat} {Q : mQ} {n0 bc bs pc pc1 : Nat} {lv : List (Nat × Value)} {st : List Value} {N : Nat} {sh : mH} {σ : mS} {i : Nat} (hi : i < 21) (hd : decode I.2.1 pc = .ok (.arraylength, 1)) (hp : pc + 1 = pc1) (k : mK Γ I d Q n0 bc bs (pc1) lv (.int (nI (mSl.getD i 0)) :: st) N sh σ) : mK Γ I d Q n0 bc bs (pc) lv (.ref (1400 + i) :: st) N sh σ := by
  subst hp
  intro p l e R s m args below meth c H locs cells slots ls D cd ad ad0 aC A mc ms hX hY hS hl hag hb hc
  rw [List.map_cons, show mV cd ad (.ref (1400 + i)) = .ref (cd (1400 + i)) from congrArg Value.ref (mAd_hi (by omega))]
  exact va_tlen hX.1.1 hX.1.2.1 (hX.2.2.2.2.2.1.2.2.2.1.1 i hi).2.2.2 hS rfl hd (k p l e R s m args below meth c H locs cells slots ls D cd ad ad0 aC A mc ms hX hY hS hl hag hb (hc.pop.push mOk_i))
theorem mK_sbal {Γ : Nat × (Nat → Int32)} {I : mM} {d : Nat} {Q : mQ} {n0 bc bs pc pc1 : Nat} {lv : List (Nat × Value)} {st : List Value} {N : Nat} {sh : mH} {σ : mS} {i : Nat} {x : Int32} (hi : i < 21) (hd : decode I.2.1 pc = .ok (.baload, 1)) (hp : pc + 1 = pc1) (hin : vp_in x (mSl.getD i 0)) (k : mK Γ I d Q n0 bc bs (pc1) lv (.int ((mSb.getD i []).getD x.toNatClampNeg 0) :: st) N sh σ) : mK Γ I d Q n0 bc bs (pc) lv (.int x :: .ref (1400 + i) :: st) N sh σ := by
  subst hp
  intro p l e R s m args below meth c H locs cells slots ls D cd ad ad0 aC A mc ms hX hY hS hl hag hb hc
  rw [List.map_cons, List.map_cons, show mV cd ad (.ref (1400 + i)) = .ref (cd (1400 + i)) from congrArg Value.ref (mAd_hi (by omega))]
  exact va_tb hX.1.1 hX.1.2.1 (hX.2.2.2.2.2.1.2.2.2.1.1 i hi).2.2.2 hS hin rfl hd (k p l e R s m args below meth c H locs cells slots ls D cd ad ad0 aC A mc ms hX hY hS hl hag hb (hc.pop.pop.push mOk_i))
theorem mK_getCS {Γ : Nat × (Nat → Int32)} {I : mM} {d : Nat} {Q : mQ} {n0 bc bs pc pc1 : Nat} {lv : List (Nat × Value)} {st : List Value} {N : Nat} {sh : mH} {σ : mS} {n : Nat} (hd : decode I.2.1 pc = .ok (.getstatic n, 3)) (hp : pc + 3 = pc1) (hw : Cond.fieldLink I.1.cls n "java/lang/String" "COMPACT_STRINGS" "Z" ∈ mBig) (k : mK Γ I d Q n0 bc bs (pc1) lv (.int 1 :: st) N sh σ) : mK Γ I d Q n0 bc bs (pc) lv (st) N sh σ := by
  subst hp
  intro p l e R s m args below meth c H locs cells slots ls D cd ad ad0 aC A mc ms hX hY hS hl hag hb hc
  exact va_gets hX.1.1 hX.1.2.1 hX.2.2.2.2.2.1.2.2.2.2.2.1.1 hS hX.2.1.1 (hX.2.1.2 _ hw) (fun _ h => h) hd (k p l e R s m args below meth c H locs cells slots ls D cd ad ad0 aC A mc ms hX hY hS hl hag hb (hc.push mOk_i))
theorem mOk_null {N : Nat} : mOkP N .null := fun a h => by cases h
theorem mK_getF {Γ : Nat × (Nat → Int32)} {I : mM} {d : Nat} {Q : mQ} {n0 bc bs pc pc1 : Nat} {lv : List (Nat × Value)} {st : List Value} {N : Nat} {sh : mH} {σ : mS} {n : Nat} (hd : decode I.2.1 pc = .ok (.getstatic n, 3)) (hp : pc + 3 = pc1) (hw : Cond.fieldLink I.1.cls n "jdk/internal/util/Preconditions" "SIOOBE_FORMATTER" "Ljava/util/function/BiFunction;" ∈ mBig) (k : ∀ v, (v = .null ∨ v = .ref 1500) → mK Γ I d Q n0 bc bs (pc1) lv (v :: st) N sh σ) : mK Γ I d Q n0 bc bs (pc) lv (st) N sh σ := by
  subst hp
  intro p l e R s m args below meth c H locs cells slots ls D cd ad ad0 aC A mc ms hX hY hS hl hag hb hc
  have hz := hX.2.2.2.2.2.1.2.2.2.2.2.1.2
  by_cases e0 : cd 1501 = 0
  · rw [if_pos e0] at hz
    exact va_gets hX.1.1 hX.1.2.1 hz hS hX.2.1.1 (hX.2.1.2 _ hw) (fun _ h => h) hd (k .null (.inl rfl) p l e R s m args below meth c H locs cells slots ls D cd ad ad0 aC A mc ms hX hY hS hl hag hb (hc.push mOk_null))
  · rw [if_neg e0] at hz
    have h := k (.ref 1500) (.inr rfl) p l e R s m args below meth c H locs cells slots ls D cd ad ad0 aC A mc ms hX hY hS hl hag hb (hc.push (mOk_hi (by omega)))
    rw [List.map_cons, show mV cd ad (.ref (1500)) = .ref (cd (1500)) from congrArg Value.ref (mAd_hi (by omega))] at h
    exact va_gets hX.1.1 hX.1.2.1 hz hS hX.2.1.1 (hX.2.1.2 _ hw) (fun _ h => h) hd h
theorem mK_i2c {Γ : Nat × (Nat → Int32)} {I : mM} {d : Nat} {Q : mQ} {n0 bc bs pc pc1 : Nat} {lv : List (Nat × Value)} {st : List Value} {N : Nat} {sh : mH} {σ : mS} {x v : Int32} (hd : decode I.2.1 pc = .ok (.i2c, 1)) (hp : pc + 1 = pc1) (hv : (x.toUInt32 % 65536).toInt32 = v) (k : mK Γ I d Q n0 bc bs (pc1) lv (.int v :: st) N sh σ) : mK Γ I d Q n0 bc bs (pc) lv (.int x :: st) N sh σ := by
  subst hp
  intro p l e R s m args below meth c H locs cells slots ls D cd ad ad0 aC A mc ms hX hY hS hl hag hb hc
  exact lv_i2c hX.1.1 hX.1.2.1 hd hv (k p l e R s m args below meth c H locs cells slots ls D cd ad ad0 aC A mc ms hX hY hS hl hag hb (hc.pop.push mOk_i))
theorem mK_invVs {Γ : Nat × (Nat → Int32)} {I : mM} {d : Nat} {Q : mQ} {n0 bc bs pc : Nat} {lv : List (Nat × Value)} {st : List Value} {N : Nat} {sh : mH} {σ : mS} {J : mM} {n k c1 s1 : Nat} {as : List Value} {i : Nat}  {pc1 : Nat} (hd : decode I.2.1 pc = .ok (.invokevirtual n, 3)) (hp : pc + 3 = pc1) (hJ : mJw J) (hn : mJn J k) (hk : as.length = k) (hcat : (st.map fun v => v.category).sum ≤ 8) (hc1 : c1 ≤ bc) (hs1 : s1 ≤ bs) (hh : I.2.2.2.2 = []) (hw : Cond.methodLink I.1.cls n J.1 ∈ mBig) (hw2 : Cond.instanceMethod J.1 ∈ mBig) (hw3 : Cond.selects J.1.cls J.1 J.1 ∈ mBig) (hi : i < 21) (hcl : J.1.cls = "java/lang/String")
    (C : mCall Γ J d c1 s1 (.ref (1200 + i) :: as) N sh σ (mRt Γ I (d + 1) Q n0 (bc - c1) (bs - s1) (pc1) lv st)) : mK Γ I (d + 1) Q n0 bc bs (pc) lv (as.reverse ++ .ref (1200 + i) :: st) N sh σ := by
  subst hp
  intro p l e R s m args below meth c H locs cells slots ls D cd ad ad0 aC A mc ms hX hY hS hl hag hb hc
  have hW : 2 * (F0 m pc ls (st.map (mV cd ad))).monitorRoom + ((st.map (mV cd ad)).map fun v => v.category).sum ≤ 8 := lv_room (mHl hcat)
  have hR : (mR d c1 s1).frames + 1 ≤ R.frames ∧ 8 + (J.2.2.1 + 11) + (mR d c1 s1).locals ≤ R.locals := ⟨by have := hX.2.2.2.2.1.1; simp only [mR]; omega, by have := hX.2.2.2.2.1.2; have := hJ.2.2.2.2; simp only [mR]; omega⟩
  have hts : ∀ w ∈ mBig, w.before args s = true := hX.2.1.2
  have hpre : ∀ U : State, U.heap = H → s.WarmedH U.vm → mU D cd ad aC Γ.1 Γ.2 N sh σ H.size U := fun U hU hW => ⟨by rw [hU], by rw [hU]; exact hY.to hW.alike (fun _ _ => trivial), mC.go hX.2.2.2.2.2.1 hS hW hU (fun q hq => by
    rcases hq with ⟨k, e, hk⟩ | hq
    · exact hY.2.2.1.2 k _ hk
    · exact hX.2.2.2.2.2.2 q (Nat.le_trans hS.1 hq))⟩
  have hrc : ∃ cellB : Cell, H[cd (1200 + i)]? = some cellB ∧ cellB.vm.isStatics = false ∧ s.vm.findClass J.1.cls = some cellB.cls := by
    rw [hcl]
    exact vk_recv (adK := fun i => cd (1200 + i)) hX.2.2.2.2.2.1.2.2.2.1 hi hS
  have hb9 : mV cd ad (.ref (1200 + i)) = .ref (cd (1200 + i)) := congrArg Value.ref (mAd_hi (by omega))
  have hmp : (as.reverse ++ .ref (1200 + i) :: st).map (mV cd ad) = (as.map (mV cd ad)).reverse ++ .ref (cd (1200 + i)) :: st.map (mV cd ad) := by
    rw [List.map_append, List.map_cons, hb9, List.map_reverse]
  have hM := C l D cd ad aC H.size hX.2.2.1.2.2
  rw [List.map_cons, hb9] at hM
  rw [hmp]
  exact mRun hX hY hS hl hag hb (hc.drop.pop) hh hc1 hs1 (vx_runV (As := as.map (mV cd ad)) (rest := st.map (mV cd ad)) ⟨hX.1.1, hX.1.2.1, hX.1.2.2.1, hX.2.1.1, hts⟩ hM (cwV (ret := J.2.2.2.1) (bytes := J.2.1) (maxL := J.2.2.1) k hts (mJ_good hJ (ws := [.methodLink I.1.cls n J.1, .instanceMethod J.1, .selects J.1.cls J.1 J.1, .initialized J.1.cls]) (fun w h => by simp only [List.mem_cons, List.not_mem_nil, or_false] at h; rcases h with h | h | h | h <;> subst h <;> first | exact hw | exact hw2 | exact hw3 | exact hJ.2.1)) (mJ_eq hJ) rfl rfl ⟨rfl, hJ.2.2.2.1.1, hJ.2.2.2.1.2, hn⟩ hR) ⟨mU_blind, hrc, fun U hU hW => ⟨rfl, hpre U hU hW⟩⟩ rfl (by rw [List.length_map]; exact hk) hl.1 rfl hW hd ⟨by omega, by omega⟩)
theorem mK_invVk {Γ : Nat × (Nat → Int32)} {I : mM} {d : Nat} {Q : mQ} {n0 bc bs pc : Nat} {lv : List (Nat × Value)} {st : List Value} {N : Nat} {sh : mH} {σ : mS} {J : mM} {n k c1 s1 : Nat} {as : List Value} {b : Nat}  {pc1 : Nat} (hd : decode I.2.1 pc = .ok (.invokevirtual n, 3)) (hp : pc + 3 = pc1) (hJ : mJw J) (hn : mJn J k) (hk : as.length = k) (hcat : (st.map fun v => v.category).sum ≤ 8) (hc1 : c1 ≤ bc) (hs1 : s1 ≤ bs) (hh : I.2.2.2.2 = []) (hw : Cond.methodLink I.1.cls n J.1 ∈ mBig) (hw2 : Cond.instanceMethod J.1 ∈ mBig) (hw3 : Cond.selects J.1.cls J.1 J.1 ∈ mBig) (ha : 1000 ≤ b ∧ b < 1028) (hcl : J.1.cls = "DebateHall$Kind")
    (C : mCall Γ J d c1 s1 (.ref b :: as) N sh σ (mRt Γ I (d + 1) Q n0 (bc - c1) (bs - s1) (pc1) lv st)) : mK Γ I (d + 1) Q n0 bc bs (pc) lv (as.reverse ++ .ref b :: st) N sh σ := by
  subst hp
  intro p l e R s m args below meth c H locs cells slots ls D cd ad ad0 aC A mc ms hX hY hS hl hag hb hc
  have hW : 2 * (F0 m pc ls (st.map (mV cd ad))).monitorRoom + ((st.map (mV cd ad)).map fun v => v.category).sum ≤ 8 := lv_room (mHl hcat)
  have hR : (mR d c1 s1).frames + 1 ≤ R.frames ∧ 8 + (J.2.2.1 + 11) + (mR d c1 s1).locals ≤ R.locals := ⟨by have := hX.2.2.2.2.1.1; simp only [mR]; omega, by have := hX.2.2.2.2.1.2; have := hJ.2.2.2.2; simp only [mR]; omega⟩
  have hts : ∀ w ∈ mBig, w.before args s = true := hX.2.1.2
  have hpre : ∀ U : State, U.heap = H → s.WarmedH U.vm → mU D cd ad aC Γ.1 Γ.2 N sh σ H.size U := fun U hU hW => ⟨by rw [hU], by rw [hU]; exact hY.to hW.alike (fun _ _ => trivial), mC.go hX.2.2.2.2.2.1 hS hW hU (fun q hq => by
    rcases hq with ⟨k, e, hk⟩ | hq
    · exact hY.2.2.1.2 k _ hk
    · exact hX.2.2.2.2.2.2 q (Nat.le_trans hS.1 hq))⟩
  have hrc : ∃ cellB : Cell, H[cd b]? = some cellB ∧ cellB.vm.isStatics = false ∧ s.vm.findClass J.1.cls = some cellB.cls := by
    rw [hcl]
    have hr := va_recvEc (i := b - 1000) hX.2.2.2.2.2.1.1.1 (show b - 1000 < 28 by omega) hS
    simp only [show 1000 + (b - 1000) = b by omega] at hr
    exact hr
  have hb9 : mV cd ad (.ref b) = .ref (cd b) := congrArg Value.ref (mAd_hi ha.1)
  have hmp : (as.reverse ++ .ref b :: st).map (mV cd ad) = (as.map (mV cd ad)).reverse ++ .ref (cd b) :: st.map (mV cd ad) := by
    rw [List.map_append, List.map_cons, hb9, List.map_reverse]
  have hM := C l D cd ad aC H.size hX.2.2.1.2.2
  rw [List.map_cons, hb9] at hM
  rw [hmp]
  exact mRun hX hY hS hl hag hb (hc.drop.pop) hh hc1 hs1 (vx_runV (As := as.map (mV cd ad)) (rest := st.map (mV cd ad)) ⟨hX.1.1, hX.1.2.1, hX.1.2.2.1, hX.2.1.1, hts⟩ hM (cwV (ret := J.2.2.2.1) (bytes := J.2.1) (maxL := J.2.2.1) k hts (mJ_good hJ (ws := [.methodLink I.1.cls n J.1, .instanceMethod J.1, .selects J.1.cls J.1 J.1, .initialized J.1.cls]) (fun w h => by simp only [List.mem_cons, List.not_mem_nil, or_false] at h; rcases h with h | h | h | h <;> subst h <;> first | exact hw | exact hw2 | exact hw3 | exact hJ.2.1)) (mJ_eq hJ) rfl rfl ⟨rfl, hJ.2.2.2.1.1, hJ.2.2.2.1.2, hn⟩ hR) ⟨mU_blind, hrc, fun U hU hW => ⟨rfl, hpre U hU hW⟩⟩ rfl (by rw [List.length_map]; exact hk) hl.1 rfl hW hd ⟨by omega, by omega⟩)
theorem shr0 (x : Int32) : x >>> ((0 : Int32) &&& 31) = x := by
  refine b_ext (fun i hi => ?_)
  have := b_sshr 0 (by omega) x hi
  rw [if_pos (by omega), Nat.zero_add] at this
  exact this
theorem S_coder {Γ : Nat × (Nat → Int32)} {d : Nat} {Q : mQ} {N : Nat} {sh : mH} {σ : mS} {i : Nat} (hi : i < 21) (hQ : Q (.inl (some (.int 0))) N sh σ) : mCall Γ M_J0_coder_7d493 (d + 1) 0 0 [.ref (1200 + i)] N sh σ Q := by
  refine mCall_of rfl (by decide) (Nat.le_of_ble_eq_true rfl) (mOkC (mOk_hi (by omega)) mOkN) ?_
  show mK Γ M_J0_coder_7d493 (d + 1) Q N 0 0 0 [(0, .ref (1200 + i))] [] N sh σ
  refine mK_getCS dJ0_coder_7d493_0 rfl kw_1270 ?_
  refine mK_if_eq (tgt := 13) dJ0_coder_7d493_3 rfl (by decide) (fun c => absurd c (by decide)) (fun _ => ?_)
  refine mK_aload_n dJ0_coder_7d493_6 rfl rfl (.head _) ?_
  refine mK_scod hi dJ0_coder_7d493_7 rfl kw_1601 ?_
  refine mK_goto (tgt := 14) dJ0_coder_7d493_10 (by decide) ?_
  exact mK_nret (ty := .byte) dJ0_coder_7d493_14 rfl rfl hQ
theorem S_isLatin1 {Γ : Nat × (Nat → Int32)} {d : Nat} {Q : mQ} {N : Nat} {sh : mH} {σ : mS} {i : Nat} (hi : i < 21) (hQ : Q (.inl (some (.int 1))) N sh σ) : mCall Γ M_J0_isLatin1_aae02 (d + 1) 0 0 [.ref (1200 + i)] N sh σ Q := by
  refine mCall_of rfl (by decide) (Nat.le_of_ble_eq_true rfl) (mOkC (mOk_hi (by omega)) mOkN) ?_
  show mK Γ M_J0_isLatin1_aae02 (d + 1) Q N 0 0 0 [(0, .ref (1200 + i))] [] N sh σ
  refine mK_getCS dJ0_isLatin1_aae02_0 rfl kw_1270 ?_
  refine mK_if_eq (tgt := 17) dJ0_isLatin1_aae02_3 rfl (by decide) (fun c => absurd c (by decide)) (fun _ => ?_)
  refine mK_aload_n dJ0_isLatin1_aae02_6 rfl rfl (.head _) ?_
  refine mK_scod hi dJ0_isLatin1_aae02_7 rfl kw_1601 ?_
  refine ru_if_ne (tgt := 17) dJ0_isLatin1_aae02_10 rfl (by decide) (fun c => absurd rfl c) (fun _ => ?_)
  refine mK_iconst dJ0_isLatin1_aae02_13 rfl qic_1 ?_
  refine mK_goto (tgt := 18) dJ0_isLatin1_aae02_14 (by decide) ?_
  exact mK_zret dJ0_isLatin1_aae02_18 rfl (by decide) hQ
theorem S_length {Γ : Nat × (Nat → Int32)} {d : Nat} {Q : mQ} {N : Nat} {sh : mH} {σ : mS} {i : Nat} (hi : i < 21) (hQ : Q (.inl (some (.int (nI (mSl.getD i 0))))) N sh σ) : mCall Γ M_J0_length_8abf5 (d + 2) 0 0 [.ref (1200 + i)] N sh σ Q := by
  refine mCall_of rfl (by decide) (Nat.le_of_ble_eq_true rfl) (mOkC (mOk_hi (by omega)) mOkN) ?_
  show mK Γ M_J0_length_8abf5 (d + 2) Q N 0 0 0 [(0, .ref (1200 + i))] [] N sh σ
  refine mK_aload_n dJ0_length_8abf5_0 rfl rfl (.head _) ?_
  refine mK_sval hi dJ0_length_8abf5_1 rfl kw_1600 ?_
  refine mK_saln hi dJ0_length_8abf5_4 rfl ?_
  refine mK_aload_n dJ0_length_8abf5_5 rfl rfl (.head _) ?_
  refine mK_invVs (J := M_J0_coder_7d493) (k := 0) (as := []) (st := [.int (nI (mSl.getD i 0))]) (c1 := 0) (s1 := 0) dJ0_length_8abf5_6 rfl jw_J0_coder_7d493 jn_J0_coder_7d493 rfl (Nat.le_of_ble_eq_true rfl) (Nat.zero_le _) (Nat.zero_le _) rfl kw_1266 kw_1267 kw_1268 hi rfl ?_
  refine S_coder hi ?_
  show mK Γ M_J0_length_8abf5 (d + 2) Q N 0 0 9 [(0, .ref (1200 + i))] [.int 0, .int (nI (mSl.getD i 0))] N sh σ
  refine mK_ishr dJ0_length_8abf5_9 rfl ?_
  exact mK_iret dJ0_length_8abf5_10 rfl (by rw [shr0]; exact hQ)
theorem S_checkP {Γ : Nat × (Nat → Int32)} {d : Nat} {Q : mQ} {N : Nat} {sh : mH} {σ : mS} {a b : Int32} {v : Value} (hv : v = .null ∨ v = .ref 1500) (h0 : ¬ a < 0) (h1 : a < b) (hQ : Q (.inl (some (.int a))) N sh σ) : mCall Γ M_J3_checkIndex_8e157 (d + 1) 0 0 [.int a, .int b, v] N sh σ Q := by
  refine mCall_of rfl (by decide) (by rcases hv with q | q <;> subst q <;> exact Nat.le_of_ble_eq_true rfl) (mOkC mOk_i (mOkC mOk_i (mOkC (by rcases hv with q | q <;> subst q; exact mOk_null; exact mOk_hi (by omega)) mOkN))) ?_
  show mK Γ M_J3_checkIndex_8e157 (d + 1) Q N 0 0 0 [(0, .int a), (1, .int b), (2, v)] [] N sh σ
  refine mK_iload_n dJ3_checkIndex_8e157_0 rfl rfl (.head _) ?_
  refine mK_if_lt (tgt := 9) dJ3_checkIndex_8e157_1 rfl (by decide) (fun c => absurd c h0) (fun _ => ?_)
  refine mK_iload_n dJ3_checkIndex_8e157_4 rfl rfl (.head _) ?_
  refine mK_iload_n dJ3_checkIndex_8e157_5 rfl rfl (.tail _ (.head _)) ?_
  refine mK_icmp_lt (tgt := 16) dJ3_checkIndex_8e157_6 rfl (by decide) (fun _ => ?_) (fun c => absurd h1 c)
  refine mK_iload_n dJ3_checkIndex_8e157_16 rfl rfl (.head _) ?_
  exact mK_iret dJ3_checkIndex_8e157_17 rfl hQ
theorem S_checkS {Γ : Nat × (Nat → Int32)} {d : Nat} {Q : mQ} {N : Nat} {sh : mH} {σ : mS} {a b : Int32} (h0 : ¬ a < 0) (h1 : a < b) (hQ : Q (.inl none) N sh σ) : mCall Γ M_J0_checkIndex_df160 (d + 2) 0 0 [.int a, .int b] N sh σ Q := by
  refine mCall_of rfl (by decide) (Nat.le_of_ble_eq_true rfl) (mOkC mOk_i (mOkC mOk_i mOkN)) ?_
  show mK Γ M_J0_checkIndex_df160 (d + 2) Q N 0 0 0 [(0, .int a), (1, .int b)] [] N sh σ
  refine mK_iload_n dJ0_checkIndex_df160_0 rfl rfl (.head _) ?_
  refine mK_iload_n dJ0_checkIndex_df160_1 rfl rfl (.tail _ (.head _)) ?_
  refine mK_getF dJ0_checkIndex_df160_2 rfl kw_1286 (fun v hv => ?_)
  refine mK_invS (J := M_J3_checkIndex_8e157) (k := 3) (as := [.int a, .int b, v]) (st := []) (c1 := 0) (s1 := 0) dJ0_checkIndex_df160_5 rfl jw_J3_checkIndex_8e157 jn_J3_checkIndex_8e157 rfl (Nat.le_of_ble_eq_true rfl) (Nat.zero_le _) (Nat.zero_le _) rfl kw_1288 kw_1289 ?_
  refine S_checkP hv h0 h1 ?_
  show mK Γ M_J0_checkIndex_df160 (d + 2) Q N 0 0 8 [(0, .int a), (1, .int b)] [.int a] N sh σ
  refine mK_pop dJ0_checkIndex_df160_8 rfl rfl ?_
  exact mK_vret dJ0_checkIndex_df160_9 rfl hQ
theorem S_charL {Γ : Nat × (Nat → Int32)} {d : Nat} {Q : mQ} {N : Nat} {sh : mH} {σ : mS} {i k : Nat} (hi : i < 21) (hk : k < mSl.getD i 0) (hL : mSl.getD i 0 < 2 ^ 31) (hQ : Q (.inl (some (.int ((mSb.getD i []).getD k 0 &&& 255)))) N sh σ) : mCall Γ M_J1_charAt_3b067 (d + 3) 0 0 [.ref (1400 + i), .int (nI k)] N sh σ Q := by
  refine mCall_of rfl (by decide) (Nat.le_of_ble_eq_true rfl) (mOkC (mOk_hi (by omega)) (mOkC mOk_i mOkN)) ?_
  show mK Γ M_J1_charAt_3b067 (d + 3) Q N 0 0 0 [(0, .ref (1400 + i)), (1, .int (nI k))] [] N sh σ
  refine mK_iload_n dJ1_charAt_3b067_0 rfl rfl (.tail _ (.head _)) ?_
  refine mK_aload_n dJ1_charAt_3b067_1 rfl rfl (.head _) ?_
  refine mK_saln hi dJ1_charAt_3b067_2 rfl ?_
  refine mK_invS (J := M_J0_checkIndex_df160) (k := 2) (as := [.int (nI k), .int (nI (mSl.getD i 0))]) (st := []) (c1 := 0) (s1 := 0) dJ1_charAt_3b067_3 rfl jw_J0_checkIndex_df160 jn_J0_checkIndex_df160 rfl (Nat.le_of_ble_eq_true rfl) (Nat.zero_le _) (Nat.zero_le _) rfl kw_1283 kw_1284 ?_
  refine S_checkS (nI_pos (by omega)) (nI_lt hk hL) ?_
  show mK Γ M_J1_charAt_3b067 (d + 3) Q N 0 0 6 [(0, .ref (1400 + i)), (1, .int (nI k))] [] N sh σ
  refine mK_aload_n dJ1_charAt_3b067_6 rfl rfl (.head _) ?_
  refine mK_iload_n dJ1_charAt_3b067_7 rfl rfl (.tail _ (.head _)) ?_
  refine mK_sbal hi dJ1_charAt_3b067_8 rfl (vp_in_nI hk hL) ?_
  rw [nI_clamp (by omega)]
  refine mK_sipush dJ1_charAt_3b067_9 rfl qsi_255 ?_
  refine mK_iand dJ1_charAt_3b067_12 rfl ?_
  refine mK_i2c dJ1_charAt_3b067_13 rfl (sc_c2 _) ?_
  exact mK_nret (ty := .char) dJ1_charAt_3b067_14 rfl (sc_nar _) hQ
theorem S_charAt {Γ : Nat × (Nat → Int32)} {d : Nat} {Q : mQ} {N : Nat} {sh : mH} {σ : mS} {i k : Nat} (hi : i < 21) (hk : k < mSl.getD i 0) (hL : mSl.getD i 0 < 2 ^ 31) (hQ : Q (.inl (some (.int ((mSb.getD i []).getD k 0 &&& 255)))) N sh σ) : mCall Γ M_J0_charAt_5068e (d + 4) 0 0 [.ref (1200 + i), .int (nI k)] N sh σ Q := by
  refine mCall_of rfl (by decide) (Nat.le_of_ble_eq_true rfl) (mOkC (mOk_hi (by omega)) (mOkC mOk_i mOkN)) ?_
  show mK Γ M_J0_charAt_5068e (d + 4) Q N 0 0 0 [(0, .ref (1200 + i)), (1, .int (nI k))] [] N sh σ
  refine mK_aload_n dJ0_charAt_5068e_0 rfl rfl (.head _) ?_
  refine mK_invVs (J := M_J0_isLatin1_aae02) (k := 0) (as := []) (st := []) (c1 := 0) (s1 := 0) dJ0_charAt_5068e_1 rfl jw_J0_isLatin1_aae02 jn_J0_isLatin1_aae02 rfl (Nat.le_of_ble_eq_true rfl) (Nat.zero_le _) (Nat.zero_le _) rfl kw_1276 kw_1277 kw_1278 hi rfl ?_
  refine S_isLatin1 hi ?_
  show mK Γ M_J0_charAt_5068e (d + 4) Q N 0 0 4 [(0, .ref (1200 + i)), (1, .int (nI k))] [.int 1] N sh σ
  refine mK_if_eq (tgt := 16) dJ0_charAt_5068e_4 rfl (by decide) (fun c => absurd c (by decide)) (fun _ => ?_)
  refine mK_aload_n dJ0_charAt_5068e_7 rfl rfl (.head _) ?_
  refine mK_sval hi dJ0_charAt_5068e_8 rfl kw_1600 ?_
  refine mK_iload_n dJ0_charAt_5068e_11 rfl rfl (.tail _ (.head _)) ?_
  refine mK_invS (J := M_J1_charAt_3b067) (k := 2) (as := [.ref (1400 + i), .int (nI k)]) (st := []) (c1 := 0) (s1 := 0) dJ0_charAt_5068e_12 rfl jw_J1_charAt_3b067 jn_J1_charAt_3b067 rfl (Nat.le_of_ble_eq_true rfl) (Nat.zero_le _) (Nat.zero_le _) rfl kw_1280 kw_1281 ?_
  refine S_charL hi hk hL ?_
  show mK Γ M_J0_charAt_5068e (d + 4) Q N 0 0 15 [(0, .ref (1200 + i)), (1, .int (nI k))] [.int ((mSb.getD i []).getD k 0 &&& 255)] N sh σ
  exact mK_nret (ty := .char) dJ0_charAt_5068e_15 rfl (sc_nar _) hQ
def pkF (i : Nat) : Nat → Int64
  | 0 => 0
  | k + 1 => (pkF i k <<< (Int32.toInt64 8 &&& 63)) ||| Int32.toInt64 ((mSb.getD i []).getD k 0 &&& 255)
theorem pk_ok : ∀ i, i < 21 → pkF i (mSl.getD i 0) = mKy i ∧ mSl.getD i 0 < 10 := by decide +kernel
theorem L_packed {Γ : Nat × (Nat → Int32)} {d : Nat} {Q : mQ} {N n0 bc bs : Nat} {sh : mH} {σ : mS} {i : Nat} (hi : i < 21) (hQ : Q (.inl (some (.long (mKy i)))) N sh σ) : ∀ m k, k + m = mSl.getD i 0 →
    mK Γ M_X9_packed (d + 5) Q n0 bc bs 4 [(0, .ref (1200 + i)), (1, .long (pkF i k)), (3, .int (nI k))] [] N sh σ
  | m, k, hm => by
    obtain ⟨p1, p2⟩ := pk_ok i hi
    refine mK_iload_n dX9_packed_4 rfl rfl (.tail _ (.tail _ (.head _))) ?_
    refine mK_aload_n dX9_packed_5 rfl rfl (.head _) ?_
    refine mK_invVs (J := M_J0_length_8abf5) (k := 0) (as := []) (st := [.int (nI k)]) (c1 := 0) (s1 := 0) dX9_packed_6 rfl jw_J0_length_8abf5 jn_J0_length_8abf5 rfl (Nat.le_of_ble_eq_true rfl) (Nat.zero_le _) (Nat.zero_le _) rfl kw_1262 kw_1263 kw_1264 hi rfl ?_
    refine S_length hi ?_
    show mK Γ M_X9_packed (d + 5) Q n0 bc bs 9 [(0, .ref (1200 + i)), (1, .long (pkF i k)), (3, .int (nI k))] [.int (nI (mSl.getD i 0)), .int (nI k)] N sh σ
    refine mK_icmp_ge (tgt := 30) dX9_packed_9 rfl (by decide) (fun c => ?_) (fun c => ?_)
    · have ek : k = mSl.getD i 0 := by rw [nI_leI (by omega) (by omega)] at c; omega
      rw [ek, p1]
      refine mK_lload_n dX9_packed_30 rfl rfl (.tail _ (.head _)) ?_
      exact mK_lret dX9_packed_31 rfl hQ
    · match m, hm with
      | 0, hm => exact absurd (by rw [show k = mSl.getD i 0 by omega]; exact nI_le (by omega) (by omega)) c
      | m + 1, hm =>
        have ih := L_packed (d := d) (n0 := n0) (bc := bc) (bs := bs) (Γ := Γ) hi hQ m (k + 1) (by omega)
        refine mK_lload_n dX9_packed_12 rfl rfl (.tail _ (.head _)) ?_
        refine mK_bipush dX9_packed_13 rfl qbi_8 ?_
        refine mK_lshl dX9_packed_15 rfl ?_
        refine mK_aload_n dX9_packed_16 rfl rfl (.head _) ?_
        refine mK_iload_n dX9_packed_17 rfl rfl (.tail _ (.tail _ (.head _))) ?_
        refine mK_invVs (J := M_J0_charAt_5068e) (k := 1) (as := [.int (nI k)]) (st := [.long (pkF i k <<< (Int32.toInt64 8 &&& 63))]) (c1 := 0) (s1 := 0) dX9_packed_18 rfl jw_J0_charAt_5068e jn_J0_charAt_5068e rfl (Nat.le_of_ble_eq_true rfl) (Nat.zero_le _) (Nat.zero_le _) rfl kw_1272 kw_1273 kw_1274 hi rfl ?_
        refine S_charAt hi (by omega) (by omega) ?_
        show mK Γ M_X9_packed (d + 5) Q n0 bc bs 21 [(0, .ref (1200 + i)), (1, .long (pkF i k)), (3, .int (nI k))] [.int ((mSb.getD i []).getD k 0 &&& 255), .long (pkF i k <<< (Int32.toInt64 8 &&& 63))] N sh σ
        refine mK_i2l dX9_packed_21 rfl ?_
        refine mK_lor dX9_packed_22 rfl ?_
        refine ru_lstore_n (lv1 := [(0, .ref (1200 + i)), (1, .long (pkF i (k + 1))), (3, .int (nI k))]) dX9_packed_23 rfl rfl (by decide) rfl ?_
        refine ru_iinc (lv1 := [(0, .ref (1200 + i)), (1, .long (pkF i (k + 1))), (3, .int (nI k + 1))]) dX9_packed_24 rfl (.tail _ (.tail _ (.head _))) qic_1 (by decide) rfl ?_
        rw [nI_1]
        exact mK_goto (tgt := 4) dX9_packed_27 (by decide) ih
theorem S_packed {Γ : Nat × (Nat → Int32)} {d : Nat} {Q : mQ} {N : Nat} {sh : mH} {σ : mS} {i : Nat} (hi : i < 21) (hQ : Q (.inl (some (.long (mKy i)))) N sh σ) : mCall Γ M_X9_packed (d + 5) 0 0 [.ref (1200 + i)] N sh σ Q := by
  refine mCall_of rfl (by decide) (Nat.le_of_ble_eq_true rfl) (mOkC (mOk_hi (by omega)) mOkN) ?_
  show mK Γ M_X9_packed (d + 5) Q N 0 0 0 [(0, .ref (1200 + i))] [] N sh σ
  refine mK_lconst dX9_packed_0 rfl (v := 0) rfl ?_
  refine ru_lstore_n (lv1 := [(0, .ref (1200 + i)), (1, .long 0)]) dX9_packed_1 rfl rfl (by decide) rfl ?_
  refine mK_iconst dX9_packed_2 rfl qic_0 ?_
  refine ru_istore_n (lv1 := [(0, .ref (1200 + i)), (1, .long 0), (3, .int 0)]) dX9_packed_3 rfl rfl (by decide) rfl ?_
  exact L_packed hi hQ (mSl.getD i 0) 0 (Nat.zero_add _)
