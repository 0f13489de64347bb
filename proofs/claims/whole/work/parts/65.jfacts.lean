section JF
theorem mlJ4_1 : Cond.methodLink RJ4 1 yJ5_init_d00df ∈ mGood := mGood_in (List.mem_of_getElem? (i := 208) (by decide +kernel)) rfl
theorem ic_J5 : Cond.initialized RJ5 ∈ mGood := mGood_in (List.mem_of_getElem? (i := 64) (by decide +kernel)) rfl
theorem cd_J5_init_d00df : Cond.code yJ5_init_d00df cJ5_init_d00df 2 none ∈ mGood := mGood_in (List.mem_of_getElem? (i := 210) (by decide +kernel)) rfl
theorem im_J5_init_d00df : Cond.instanceMethod yJ5_init_d00df ∈ mGood := mGood_in (List.mem_of_getElem? (i := 209) (by decide +kernel)) rfl
theorem vJ4_init_da8c8_3 : mCallI RJ4 cJ4_init_da8c8 3 yJ5_init_d00df cJ5_init_d00df 2 1 := ⟨1, mlJ4_1, im_J5_init_d00df, ic_J5, cd_J5_init_d00df, rfl, by decide +kernel, by decide +kernel, by decide, dJ4_init_da8c8_3⟩
theorem lkJ5_18 : mFl RJ5 18 "java/lang/String" "COMPACT_STRINGS" "Z" := Or.inl (mGood_in (List.mem_of_getElem? (i := 212) (by decide +kernel)) rfl)
theorem sJ5_init_d00df_4 : mGetS RJ5 cJ5_init_d00df 4 "java/lang/String" "COMPACT_STRINGS" "Z" := ⟨18, lkJ5_18, dJ5_init_d00df_4⟩
theorem lkJ5_15 : mFl RJ5 15 "java/lang/AbstractStringBuilder" "value" "[B" := Or.inl (mGood_in (List.mem_of_getElem? (i := 221) (by decide +kernel)) rfl)
theorem pJ5_init_d00df_14 : mPutF RJ5 cJ5_init_d00df 14 1 0 (.array .byte) := ⟨RJ4, TJ4, 4, 15, tyJ4, rfl, uJ4, by decide, lkJ5_15, dJ5_init_d00df_14, tyJ4_ok, nmJ4, rfl, by decide +kernel⟩
theorem lkJ5_22 : mFl RJ5 22 "java/lang/AbstractStringBuilder" "coder" "B" := Or.inl (mGood_in (List.mem_of_getElem? (i := 222) (by decide +kernel)) rfl)
theorem pJ5_init_d00df_19 : mPutF RJ5 cJ5_init_d00df 19 1 1 .byte := ⟨RJ4, TJ4, 4, 22, tyJ4, rfl, uJ4, by decide, lkJ5_22, dJ5_init_d00df_19, tyJ4_ok, nmJ4, rfl, by decide +kernel⟩
theorem mlJ5_26 : Cond.methodLink RJ5 26 yJ2_newBytesFor_77867 ∈ mGood := mGood_in (List.mem_of_getElem? (i := 214) (by decide +kernel)) rfl
theorem ic_J2 : Cond.initialized RJ2 ∈ mGood := mGood_in (List.mem_of_getElem? (i := 67) (by decide +kernel)) rfl
theorem cd_J2_newBytesFor_77867 : Cond.code yJ2_newBytesFor_77867 cJ2_newBytesFor_77867 1 (some (.array .byte)) ∈ mGood := mGood_in (List.mem_of_getElem? (i := 216) (by decide +kernel)) rfl
theorem st_J2_newBytesFor_77867 : Cond.static yJ2_newBytesFor_77867 ∈ mGood := mGood_in (List.mem_of_getElem? (i := 215) (by decide +kernel)) rfl
theorem vJ5_init_d00df_27 : mCallS RJ5 cJ5_init_d00df 27 yJ2_newBytesFor_77867 cJ2_newBytesFor_77867 1 (some (.array .byte)) 1 := ⟨26, mlJ5_26, st_J2_newBytesFor_77867, ic_J2, cd_J2_newBytesFor_77867, by decide +kernel, by decide +kernel, by decide, dJ5_init_d00df_27⟩
theorem pJ5_init_d00df_30 : mPutF RJ5 cJ5_init_d00df 30 1 0 (.array .byte) := ⟨RJ4, TJ4, 4, 15, tyJ4, rfl, uJ4, by decide, lkJ5_15, dJ5_init_d00df_30, tyJ4_ok, nmJ4, rfl, by decide +kernel⟩
theorem pJ5_init_d00df_35 : mPutF RJ5 cJ5_init_d00df 35 1 1 .byte := ⟨RJ4, TJ4, 4, 22, tyJ4, rfl, uJ4, by decide, lkJ5_22, dJ5_init_d00df_35, tyJ4_ok, nmJ4, rfl, by decide +kernel⟩
theorem mlJ4_343 : Cond.methodLink RJ4 343 yJ5_length_8abf5 ∈ mGood := mGood_in (List.mem_of_getElem? (i := 967) (by decide +kernel)) rfl
theorem cd_J5_length_8abf5 : Cond.code yJ5_length_8abf5 cJ5_length_8abf5 1 (some .int) ∈ mGood := mGood_in (List.mem_of_getElem? (i := 969) (by decide +kernel)) rfl
theorem im_J5_length_8abf5 : Cond.instanceMethod yJ5_length_8abf5 ∈ mGood := mGood_in (List.mem_of_getElem? (i := 968) (by decide +kernel)) rfl
theorem sm_J5_length_8abf5 : Cond.sameMethod yJ5_length_8abf5.cls yJ5_length_8abf5.cls yJ5_length_8abf5.name yJ5_length_8abf5.desc ∈ mGood := mGood_in (List.mem_of_getElem? (i := 1801) (by decide +kernel)) rfl
theorem sp_J4_J5 : Cond.superclass RJ4 RJ5 ∈ mGood := mGood_in (List.mem_of_getElem? (i := 234) (by decide +kernel)) rfl
theorem vJ4_length_8abf5_1 : mCallSU RJ4 cJ4_length_8abf5 1 yJ5_length_8abf5 cJ5_length_8abf5 1 (some .int) 0 := ⟨343, mlJ4_343, sm_J5_length_8abf5, sp_J4_J5, im_J5_length_8abf5, ic_J5, cd_J5_length_8abf5, by decide +kernel, by decide +kernel, by decide, dJ4_length_8abf5_1⟩
theorem lkJ5_79 : mFl RJ5 79 "java/lang/AbstractStringBuilder" "count" "I" := Or.inl (mGood_in (List.mem_of_getElem? (i := 225) (by decide +kernel)) rfl)
theorem gJ5_length_8abf5_1 : mGetF RJ5 cJ5_length_8abf5 1 1 3 := ⟨RJ4, TJ4, 4, 79, rfl, uJ4, by decide, lkJ5_79, dJ5_length_8abf5_1⟩
theorem mlJ4_329 : Cond.methodLink RJ4 329 yJ5_charAt_5068e ∈ mGood := mGood_in (List.mem_of_getElem? (i := 1101) (by decide +kernel)) rfl
theorem cd_J5_charAt_5068e : Cond.code yJ5_charAt_5068e cJ5_charAt_5068e 5 (some .char) ∈ mGood := mGood_in (List.mem_of_getElem? (i := 1103) (by decide +kernel)) rfl
theorem im_J5_charAt_5068e : Cond.instanceMethod yJ5_charAt_5068e ∈ mGood := mGood_in (List.mem_of_getElem? (i := 1102) (by decide +kernel)) rfl
theorem sm_J5_charAt_5068e : Cond.sameMethod yJ5_charAt_5068e.cls yJ5_charAt_5068e.cls yJ5_charAt_5068e.name yJ5_charAt_5068e.desc ∈ mGood := mGood_in (List.mem_of_getElem? (i := 1806) (by decide +kernel)) rfl
theorem vJ4_charAt_5068e_2 : mCallSU RJ4 cJ4_charAt_5068e 2 yJ5_charAt_5068e cJ5_charAt_5068e 5 (some .char) 1 := ⟨329, mlJ4_329, sm_J5_charAt_5068e, sp_J4_J5, im_J5_charAt_5068e, ic_J5, cd_J5_charAt_5068e, by decide +kernel, by decide +kernel, by decide, dJ4_charAt_5068e_2⟩
theorem gJ5_charAt_5068e_1 : mGetF RJ5 cJ5_charAt_5068e 1 1 1 := ⟨RJ4, TJ4, 4, 22, rfl, uJ4, by decide, lkJ5_22, dJ5_charAt_5068e_1⟩
theorem gJ5_charAt_5068e_6 : mGetF RJ5 cJ5_charAt_5068e 6 1 0 := ⟨RJ4, TJ4, 4, 15, rfl, uJ4, by decide, lkJ5_15, dJ5_charAt_5068e_6⟩
theorem gJ5_charAt_5068e_11 : mGetF RJ5 cJ5_charAt_5068e 11 1 3 := ⟨RJ4, TJ4, 4, 79, rfl, uJ4, by decide, lkJ5_79, dJ5_charAt_5068e_11⟩
theorem mlJ5_138 : Cond.methodLink RJ5 138 yJ9_min_7cf53 ∈ mGood := mGood_in (List.mem_of_getElem? (i := 1104) (by decide +kernel)) rfl
theorem cd_J9_min_7cf53 : Cond.code yJ9_min_7cf53 cJ9_min_7cf53 2 (some .int) ∈ mGood := mGood_in (List.mem_of_getElem? (i := 1007) (by decide +kernel)) rfl
theorem st_J9_min_7cf53 : Cond.static yJ9_min_7cf53 ∈ mGood := mGood_in (List.mem_of_getElem? (i := 1006) (by decide +kernel)) rfl
theorem vJ5_charAt_5068e_18 : mCallS RJ5 cJ5_charAt_5068e 18 yJ9_min_7cf53 cJ9_min_7cf53 2 (some .int) 2 := ⟨138, mlJ5_138, st_J9_min_7cf53, ic_J9, cd_J9_min_7cf53, by decide +kernel, by decide +kernel, by decide, dJ5_charAt_5068e_18⟩
theorem mlJ5_144 : Cond.methodLink RJ5 144 yJ0_checkIndex_df160 ∈ mGood := mGood_in (List.mem_of_getElem? (i := 1105) (by decide +kernel)) rfl
theorem cd_J0_checkIndex_df160 : Cond.code yJ0_checkIndex_df160 cJ0_checkIndex_df160 2 none ∈ mGood := mGood_in (List.mem_of_getElem? (i := 1058) (by decide +kernel)) rfl
theorem st_J0_checkIndex_df160 : Cond.static yJ0_checkIndex_df160 ∈ mGood := mGood_in (List.mem_of_getElem? (i := 1057) (by decide +kernel)) rfl
theorem vJ5_charAt_5068e_26 : mCallS RJ5 cJ5_charAt_5068e 26 yJ0_checkIndex_df160 cJ0_checkIndex_df160 2 none 2 := ⟨144, mlJ5_144, st_J0_checkIndex_df160, ic_J0, cd_J0_checkIndex_df160, by decide +kernel, by decide +kernel, by decide, dJ5_charAt_5068e_26⟩
theorem mlJ5_148 : Cond.methodLink RJ5 148 yJ2_getChar_3b067 ∈ mGood := mGood_in (List.mem_of_getElem? (i := 1106) (by decide +kernel)) rfl
theorem cd_J2_getChar_3b067 : Cond.code yJ2_getChar_3b067 cJ2_getChar_3b067 2 (some .char) ∈ mGood := mGood_in (List.mem_of_getElem? (i := 1108) (by decide +kernel)) rfl
theorem st_J2_getChar_3b067 : Cond.static yJ2_getChar_3b067 ∈ mGood := mGood_in (List.mem_of_getElem? (i := 1107) (by decide +kernel)) rfl
theorem vJ5_charAt_5068e_44 : mCallS RJ5 cJ5_charAt_5068e 44 yJ2_getChar_3b067 cJ2_getChar_3b067 2 (some .char) 2 := ⟨148, mlJ5_148, st_J2_getChar_3b067, ic_J2, cd_J2_getChar_3b067, by decide +kernel, by decide +kernel, by decide, dJ5_charAt_5068e_44⟩
theorem mlJ4_333 : Cond.methodLink RJ4 333 yJ5_setLength_d00df ∈ mGood := mGood_in (List.mem_of_getElem? (i := 1150) (by decide +kernel)) rfl
theorem cd_J5_setLength_d00df : Cond.code yJ5_setLength_d00df cJ5_setLength_d00df 2 none ∈ mGood := mGood_in (List.mem_of_getElem? (i := 1152) (by decide +kernel)) rfl
theorem im_J5_setLength_d00df : Cond.instanceMethod yJ5_setLength_d00df ∈ mGood := mGood_in (List.mem_of_getElem? (i := 1151) (by decide +kernel)) rfl
theorem sm_J5_setLength_d00df : Cond.sameMethod yJ5_setLength_d00df.cls yJ5_setLength_d00df.cls yJ5_setLength_d00df.name yJ5_setLength_d00df.desc ∈ mGood := mGood_in (List.mem_of_getElem? (i := 1807) (by decide +kernel)) rfl
theorem vJ4_setLength_d00df_2 : mCallSU RJ4 cJ4_setLength_d00df 2 yJ5_setLength_d00df cJ5_setLength_d00df 2 none 1 := ⟨333, mlJ4_333, sm_J5_setLength_d00df, sp_J4_J5, im_J5_setLength_d00df, ic_J5, cd_J5_setLength_d00df, by decide +kernel, by decide +kernel, by decide, dJ4_setLength_d00df_2⟩
theorem mlJ5_131 : Cond.methodLink RJ5 131 yJx7c733_init_d00df ∈ mGood := mGood_in (List.mem_of_getElem? (i := 1155) (by decide +kernel)) rfl
theorem ic_Jx7c733 : Cond.initialized RJx7c733 ∈ mGood := mGood_in (List.mem_of_getElem? (i := 89) (by decide +kernel)) rfl
theorem cd_Jx7c733_init_d00df : Cond.code yJx7c733_init_d00df cJx7c733_init_d00df 2 none ∈ mGood := mGood_in (List.mem_of_getElem? (i := 1157) (by decide +kernel)) rfl
theorem im_Jx7c733_init_d00df : Cond.instanceMethod yJx7c733_init_d00df ∈ mGood := mGood_in (List.mem_of_getElem? (i := 1156) (by decide +kernel)) rfl
theorem vJ5_setLength_d00df_9 : mCallI RJ5 cJ5_setLength_d00df 9 yJx7c733_init_d00df cJx7c733_init_d00df 2 1 := ⟨131, mlJ5_131, im_Jx7c733_init_d00df, ic_Jx7c733, cd_Jx7c733_init_d00df, rfl, by decide +kernel, by decide +kernel, by decide, dJ5_setLength_d00df_9⟩
theorem mlJ5_100 : Cond.methodLink RJ5 100 yJ5_ensureCapacityInternal_d00df ∈ mGood := mGood_in (List.mem_of_getElem? (i := 978) (by decide +kernel)) rfl
theorem cd_J5_ensureCapacityInternal_d00df : Cond.code yJ5_ensureCapacityInternal_d00df cJ5_ensureCapacityInternal_d00df 3 none ∈ mGood := mGood_in (List.mem_of_getElem? (i := 981) (by decide +kernel)) rfl
theorem im_J5_ensureCapacityInternal_d00df : Cond.instanceMethod yJ5_ensureCapacityInternal_d00df ∈ mGood := mGood_in (List.mem_of_getElem? (i := 980) (by decide +kernel)) rfl
theorem vJ5_setLength_d00df_15 : mCallX RJ5 cJ5_setLength_d00df 15 RJ4 yJ5_ensureCapacityInternal_d00df cJ5_ensureCapacityInternal_d00df 3 none 1 := ⟨100, mlJ5_100, im_J5_ensureCapacityInternal_d00df, fun args s hts => hts _ (mGood_jSel (List.mem_of_getElem? (i := 0) rfl) rfl), ic_J5, cd_J5_ensureCapacityInternal_d00df, by decide +kernel, by decide +kernel, by decide, dJ5_setLength_d00df_15⟩
theorem gJ5_setLength_d00df_19 : mGetF RJ5 cJ5_setLength_d00df 19 1 3 := ⟨RJ4, TJ4, 4, 79, rfl, uJ4, by decide, lkJ5_79, dJ5_setLength_d00df_19⟩
theorem mlJ5_83 : Cond.methodLink RJ5 83 yJ5_isLatin1_aae02 ∈ mGood := mGood_in (List.mem_of_getElem? (i := 1009) (by decide +kernel)) rfl
theorem cd_J5_isLatin1_aae02 : Cond.code yJ5_isLatin1_aae02 cJ5_isLatin1_aae02 1 (some .boolean) ∈ mGood := mGood_in (List.mem_of_getElem? (i := 1013) (by decide +kernel)) rfl
theorem im_J5_isLatin1_aae02 : Cond.instanceMethod yJ5_isLatin1_aae02 ∈ mGood := mGood_in (List.mem_of_getElem? (i := 1010) (by decide +kernel)) rfl
theorem sl4_J5_isLatin1_aae02 : Cond.selects RJ4 yJ5_isLatin1_aae02 yJ5_isLatin1_aae02 ∈ mGood := mGood_in (List.mem_of_getElem? (i := 1012) (by decide +kernel)) rfl
theorem vJ5_setLength_d00df_27 : mCallX RJ5 cJ5_setLength_d00df 27 RJ4 yJ5_isLatin1_aae02 cJ5_isLatin1_aae02 1 (some .boolean) 0 := ⟨83, mlJ5_83, im_J5_isLatin1_aae02, fun args s hts => hts _ sl4_J5_isLatin1_aae02, ic_J5, cd_J5_isLatin1_aae02, by decide +kernel, by decide +kernel, by decide, dJ5_setLength_d00df_27⟩
theorem gJ5_setLength_d00df_34 : mGetF RJ5 cJ5_setLength_d00df 34 1 0 := ⟨RJ4, TJ4, 4, 15, rfl, uJ4, by decide, lkJ5_15, dJ5_setLength_d00df_34⟩
theorem gJ5_setLength_d00df_38 : mGetF RJ5 cJ5_setLength_d00df 38 1 3 := ⟨RJ4, TJ4, 4, 79, rfl, uJ4, by decide, lkJ5_79, dJ5_setLength_d00df_38⟩
theorem mlJ5_133 : Cond.methodLink RJ5 133 yJ1_fillNull_b72d1 ∈ mGood := mGood_in (List.mem_of_getElem? (i := 1286) (by decide +kernel)) rfl
theorem ic_J1 : Cond.initialized RJ1 ∈ mGood := mGood_in (List.mem_of_getElem? (i := 87) (by decide +kernel)) rfl
theorem cd_J1_fillNull_b72d1 : Cond.code yJ1_fillNull_b72d1 cJ1_fillNull_b72d1 3 none ∈ mGood := mGood_in (List.mem_of_getElem? (i := 1288) (by decide +kernel)) rfl
theorem st_J1_fillNull_b72d1 : Cond.static yJ1_fillNull_b72d1 ∈ mGood := mGood_in (List.mem_of_getElem? (i := 1287) (by decide +kernel)) rfl
theorem vJ5_setLength_d00df_42 : mCallS RJ5 cJ5_setLength_d00df 42 yJ1_fillNull_b72d1 cJ1_fillNull_b72d1 3 none 3 := ⟨133, mlJ5_133, st_J1_fillNull_b72d1, ic_J1, cd_J1_fillNull_b72d1, by decide +kernel, by decide +kernel, by decide, dJ5_setLength_d00df_42⟩
theorem gJ5_setLength_d00df_49 : mGetF RJ5 cJ5_setLength_d00df 49 1 0 := ⟨RJ4, TJ4, 4, 15, rfl, uJ4, by decide, lkJ5_15, dJ5_setLength_d00df_49⟩
theorem gJ5_setLength_d00df_53 : mGetF RJ5 cJ5_setLength_d00df 53 1 3 := ⟨RJ4, TJ4, 4, 79, rfl, uJ4, by decide, lkJ5_79, dJ5_setLength_d00df_53⟩
theorem mlJ5_137 : Cond.methodLink RJ5 137 yJ2_fillNull_b72d1 ∈ mGood := mGood_in (List.mem_of_getElem? (i := 1308) (by decide +kernel)) rfl
theorem cd_J2_fillNull_b72d1 : Cond.code yJ2_fillNull_b72d1 cJ2_fillNull_b72d1 3 none ∈ mGood := mGood_in (List.mem_of_getElem? (i := 1310) (by decide +kernel)) rfl
theorem st_J2_fillNull_b72d1 : Cond.static yJ2_fillNull_b72d1 ∈ mGood := mGood_in (List.mem_of_getElem? (i := 1309) (by decide +kernel)) rfl
theorem vJ5_setLength_d00df_57 : mCallS RJ5 cJ5_setLength_d00df 57 yJ2_fillNull_b72d1 cJ2_fillNull_b72d1 3 none 3 := ⟨137, mlJ5_137, st_J2_fillNull_b72d1, ic_J2, cd_J2_fillNull_b72d1, by decide +kernel, by decide +kernel, by decide, dJ5_setLength_d00df_57⟩
theorem gJ5_setLength_d00df_64 : mGetF RJ5 cJ5_setLength_d00df 64 1 3 := ⟨RJ4, TJ4, 4, 79, rfl, uJ4, by decide, lkJ5_79, dJ5_setLength_d00df_64⟩
theorem lkJ5_73 : mFl RJ5 73 "java/lang/AbstractStringBuilder" "maybeLatin1" "Z" := Or.inl (mGood_in (List.mem_of_getElem? (i := 223) (by decide +kernel)) rfl)
theorem pJ5_setLength_d00df_73 : mPutF RJ5 cJ5_setLength_d00df 73 1 2 .boolean := ⟨RJ4, TJ4, 4, 73, tyJ4, rfl, uJ4, by decide, lkJ5_73, dJ5_setLength_d00df_73, tyJ4_ok, nmJ4, rfl, by decide +kernel⟩
theorem pJ5_setLength_d00df_78 : mPutF RJ5 cJ5_setLength_d00df 78 1 3 .int := ⟨RJ4, TJ4, 4, 79, tyJ4, rfl, uJ4, by decide, lkJ5_79, dJ5_setLength_d00df_78, tyJ4_ok, nmJ4, rfl, by decide +kernel⟩
theorem mlJ4_50 : Cond.methodLink RJ4 50 yJ5_append_3fe6f ∈ mGood := mGood_in (List.mem_of_getElem? (i := 975) (by decide +kernel)) rfl
theorem cd_J5_append_3fe6f : Cond.code yJ5_append_3fe6f cJ5_append_3fe6f 2 (some (.object "java/lang/AbstractStringBuilder")) ∈ mGood := mGood_in (List.mem_of_getElem? (i := 977) (by decide +kernel)) rfl
theorem im_J5_append_3fe6f : Cond.instanceMethod yJ5_append_3fe6f ∈ mGood := mGood_in (List.mem_of_getElem? (i := 976) (by decide +kernel)) rfl
theorem sm_J5_append_3fe6f : Cond.sameMethod yJ5_append_3fe6f.cls yJ5_append_3fe6f.cls yJ5_append_3fe6f.name yJ5_append_3fe6f.desc ∈ mGood := mGood_in (List.mem_of_getElem? (i := 1802) (by decide +kernel)) rfl
theorem vJ4_append_cf468_2 : mCallSU RJ4 cJ4_append_cf468 2 yJ5_append_3fe6f cJ5_append_3fe6f 2 (some (.object "java/lang/AbstractStringBuilder")) 1 := ⟨50, mlJ4_50, sm_J5_append_3fe6f, sp_J4_J5, im_J5_append_3fe6f, ic_J5, cd_J5_append_3fe6f, by decide +kernel, by decide +kernel, by decide, dJ4_append_cf468_2⟩
theorem gJ5_append_3fe6f_2 : mGetF RJ5 cJ5_append_3fe6f 2 1 3 := ⟨RJ4, TJ4, 4, 79, rfl, uJ4, by decide, lkJ5_79, dJ5_append_3fe6f_2⟩
theorem vJ5_append_3fe6f_7 : mCallX RJ5 cJ5_append_3fe6f 7 RJ4 yJ5_ensureCapacityInternal_d00df cJ5_ensureCapacityInternal_d00df 3 none 1 := ⟨100, mlJ5_100, im_J5_ensureCapacityInternal_d00df, fun args s hts => hts _ (mGood_jSel (List.mem_of_getElem? (i := 0) rfl) rfl), ic_J5, cd_J5_ensureCapacityInternal_d00df, by decide +kernel, by decide +kernel, by decide, dJ5_append_3fe6f_7⟩
theorem vJ5_append_3fe6f_11 : mCallX RJ5 cJ5_append_3fe6f 11 RJ4 yJ5_isLatin1_aae02 cJ5_isLatin1_aae02 1 (some .boolean) 0 := ⟨83, mlJ5_83, im_J5_isLatin1_aae02, fun args s hts => hts _ sl4_J5_isLatin1_aae02, ic_J5, cd_J5_isLatin1_aae02, by decide +kernel, by decide +kernel, by decide, dJ5_append_3fe6f_11⟩
theorem mlJ5_191 : Cond.methodLink RJ5 191 yJ1_canEncode_fc78d ∈ mGood := mGood_in (List.mem_of_getElem? (i := 1014) (by decide +kernel)) rfl
theorem cd_J1_canEncode_fc78d : Cond.code yJ1_canEncode_fc78d cJ1_canEncode_fc78d 1 (some .boolean) ∈ mGood := mGood_in (List.mem_of_getElem? (i := 1016) (by decide +kernel)) rfl
theorem st_J1_canEncode_fc78d : Cond.static yJ1_canEncode_fc78d ∈ mGood := mGood_in (List.mem_of_getElem? (i := 1015) (by decide +kernel)) rfl
theorem vJ5_append_3fe6f_18 : mCallS RJ5 cJ5_append_3fe6f 18 yJ1_canEncode_fc78d cJ1_canEncode_fc78d 1 (some .boolean) 1 := ⟨191, mlJ5_191, st_J1_canEncode_fc78d, ic_J1, cd_J1_canEncode_fc78d, by decide +kernel, by decide +kernel, by decide, dJ5_append_3fe6f_18⟩
theorem gJ5_append_3fe6f_25 : mGetF RJ5 cJ5_append_3fe6f 25 1 0 := ⟨RJ4, TJ4, 4, 15, rfl, uJ4, by decide, lkJ5_15, dJ5_append_3fe6f_25⟩
theorem gJ5_append_3fe6f_30 : mGetF RJ5 cJ5_append_3fe6f 30 1 3 := ⟨RJ4, TJ4, 4, 79, rfl, uJ4, by decide, lkJ5_79, dJ5_append_3fe6f_30⟩
theorem pJ5_append_3fe6f_36 : mPutF RJ5 cJ5_append_3fe6f 36 1 3 .int := ⟨RJ4, TJ4, 4, 79, tyJ4, rfl, uJ4, by decide, lkJ5_79, dJ5_append_3fe6f_36, tyJ4_ok, nmJ4, rfl, by decide +kernel⟩
theorem vJ5_append_3fe6f_46 : mCallX RJ5 cJ5_append_3fe6f 46 RJ4 yJ5_isLatin1_aae02 cJ5_isLatin1_aae02 1 (some .boolean) 0 := ⟨83, mlJ5_83, im_J5_isLatin1_aae02, fun args s hts => hts _ sl4_J5_isLatin1_aae02, ic_J5, cd_J5_isLatin1_aae02, by decide +kernel, by decide +kernel, by decide, dJ5_append_3fe6f_46⟩
theorem mlJ5_195 : Cond.methodLink RJ5 195 yJ5_inflate_da8c8 ∈ mGood := mGood_in (List.mem_of_getElem? (i := 1017) (by decide +kernel)) rfl
theorem cd_J5_inflate_da8c8 : Cond.code yJ5_inflate_da8c8 cJ5_inflate_da8c8 2 none ∈ mGood := mGood_in (List.mem_of_getElem? (i := 1020) (by decide +kernel)) rfl
theorem im_J5_inflate_da8c8 : Cond.instanceMethod yJ5_inflate_da8c8 ∈ mGood := mGood_in (List.mem_of_getElem? (i := 1019) (by decide +kernel)) rfl
theorem gJ5_append_3fe6f_57 : mGetF RJ5 cJ5_append_3fe6f 57 1 0 := ⟨RJ4, TJ4, 4, 15, rfl, uJ4, by decide, lkJ5_15, dJ5_append_3fe6f_57⟩
theorem gJ5_append_3fe6f_62 : mGetF RJ5 cJ5_append_3fe6f 62 1 3 := ⟨RJ4, TJ4, 4, 79, rfl, uJ4, by decide, lkJ5_79, dJ5_append_3fe6f_62⟩
theorem pJ5_append_3fe6f_68 : mPutF RJ5 cJ5_append_3fe6f 68 1 3 .int := ⟨RJ4, TJ4, 4, 79, tyJ4, rfl, uJ4, by decide, lkJ5_79, dJ5_append_3fe6f_68, tyJ4_ok, nmJ4, rfl, by decide +kernel⟩
theorem mlJ5_197 : Cond.methodLink RJ5 197 yJ2_putCharSB_b72d1 ∈ mGood := mGood_in (List.mem_of_getElem? (i := 1050) (by decide +kernel)) rfl
theorem cd_J2_putCharSB_b72d1 : Cond.code yJ2_putCharSB_b72d1 cJ2_putCharSB_b72d1 3 none ∈ mGood := mGood_in (List.mem_of_getElem? (i := 1052) (by decide +kernel)) rfl
theorem st_J2_putCharSB_b72d1 : Cond.static yJ2_putCharSB_b72d1 ∈ mGood := mGood_in (List.mem_of_getElem? (i := 1051) (by decide +kernel)) rfl
theorem vJ5_append_3fe6f_72 : mCallS RJ5 cJ5_append_3fe6f 72 yJ2_putCharSB_b72d1 cJ2_putCharSB_b72d1 3 none 3 := ⟨197, mlJ5_197, st_J2_putCharSB_b72d1, ic_J2, cd_J2_putCharSB_b72d1, by decide +kernel, by decide +kernel, by decide, dJ5_append_3fe6f_72⟩
theorem mlJ4_53 : Cond.methodLink RJ4 53 yJ5_append_c97b9 ∈ mGood := mGood_in (List.mem_of_getElem? (i := 1204) (by decide +kernel)) rfl
theorem cd_J5_append_c97b9 : Cond.code yJ5_append_c97b9 cJ5_append_c97b9 4 (some (.object "java/lang/AbstractStringBuilder")) ∈ mGood := mGood_in (List.mem_of_getElem? (i := 1206) (by decide +kernel)) rfl
theorem im_J5_append_c97b9 : Cond.instanceMethod yJ5_append_c97b9 ∈ mGood := mGood_in (List.mem_of_getElem? (i := 1205) (by decide +kernel)) rfl
theorem sm_J5_append_c97b9 : Cond.sameMethod yJ5_append_c97b9.cls yJ5_append_c97b9.cls yJ5_append_c97b9.name yJ5_append_c97b9.desc ∈ mGood := mGood_in (List.mem_of_getElem? (i := 1812) (by decide +kernel)) rfl
theorem vJ4_append_bf812_2 : mCallSU RJ4 cJ4_append_bf812 2 yJ5_append_c97b9 cJ5_append_c97b9 4 (some (.object "java/lang/AbstractStringBuilder")) 1 := ⟨53, mlJ4_53, sm_J5_append_c97b9, sp_J4_J5, im_J5_append_c97b9, ic_J5, cd_J5_append_c97b9, by decide +kernel, by decide +kernel, by decide, dJ4_append_bf812_2⟩
theorem gJ5_append_c97b9_1 : mGetF RJ5 cJ5_append_c97b9 1 1 3 := ⟨RJ4, TJ4, 4, 79, rfl, uJ4, by decide, lkJ5_79, dJ5_append_c97b9_1⟩
theorem mlJ5_245 : Cond.methodLink RJ5 245 yJ6_stringSize_0f7a4 ∈ mGood := mGood_in (List.mem_of_getElem? (i := 1207) (by decide +kernel)) rfl
theorem ic_J6 : Cond.initialized RJ6 ∈ mGood := mGood_in (List.mem_of_getElem? (i := 91) (by decide +kernel)) rfl
theorem cd_J6_stringSize_0f7a4 : Cond.code yJ6_stringSize_0f7a4 cJ6_stringSize_0f7a4 4 (some .int) ∈ mGood := mGood_in (List.mem_of_getElem? (i := 1209) (by decide +kernel)) rfl
theorem st_J6_stringSize_0f7a4 : Cond.static yJ6_stringSize_0f7a4 ∈ mGood := mGood_in (List.mem_of_getElem? (i := 1208) (by decide +kernel)) rfl
theorem vJ5_append_c97b9_7 : mCallS RJ5 cJ5_append_c97b9 7 yJ6_stringSize_0f7a4 cJ6_stringSize_0f7a4 4 (some .int) 1 := ⟨245, mlJ5_245, st_J6_stringSize_0f7a4, ic_J6, cd_J6_stringSize_0f7a4, by decide +kernel, by decide +kernel, by decide, dJ5_append_c97b9_7⟩
theorem vJ5_append_c97b9_14 : mCallX RJ5 cJ5_append_c97b9 14 RJ4 yJ5_ensureCapacityInternal_d00df cJ5_ensureCapacityInternal_d00df 3 none 1 := ⟨100, mlJ5_100, im_J5_ensureCapacityInternal_d00df, fun args s hts => hts _ (mGood_jSel (List.mem_of_getElem? (i := 0) rfl) rfl), ic_J5, cd_J5_ensureCapacityInternal_d00df, by decide +kernel, by decide +kernel, by decide, dJ5_append_c97b9_14⟩
theorem vJ5_append_c97b9_18 : mCallX RJ5 cJ5_append_c97b9 18 RJ4 yJ5_isLatin1_aae02 cJ5_isLatin1_aae02 1 (some .boolean) 0 := ⟨83, mlJ5_83, im_J5_isLatin1_aae02, fun args s hts => hts _ sl4_J5_isLatin1_aae02, ic_J5, cd_J5_isLatin1_aae02, by decide +kernel, by decide +kernel, by decide, dJ5_append_c97b9_18⟩
theorem gJ5_append_c97b9_27 : mGetF RJ5 cJ5_append_c97b9 27 1 0 := ⟨RJ4, TJ4, 4, 15, rfl, uJ4, by decide, lkJ5_15, dJ5_append_c97b9_27⟩
theorem mlJ5_248 : Cond.methodLink RJ5 248 yJ6_getChars_ba4f3 ∈ mGood := mGood_in (List.mem_of_getElem? (i := 1210) (by decide +kernel)) rfl
theorem cd_J6_getChars_ba4f3 : Cond.code yJ6_getChars_ba4f3 cJ6_getChars_ba4f3 7 (some .int) ∈ mGood := mGood_in (List.mem_of_getElem? (i := 1212) (by decide +kernel)) rfl
theorem st_J6_getChars_ba4f3 : Cond.static yJ6_getChars_ba4f3 ∈ mGood := mGood_in (List.mem_of_getElem? (i := 1211) (by decide +kernel)) rfl
theorem vJ5_append_c97b9_30 : mCallS RJ5 cJ5_append_c97b9 30 yJ6_getChars_ba4f3 cJ6_getChars_ba4f3 7 (some .int) 3 := ⟨248, mlJ5_248, st_J6_getChars_ba4f3, ic_J6, cd_J6_getChars_ba4f3, by decide +kernel, by decide +kernel, by decide, dJ5_append_c97b9_30⟩
theorem gJ5_append_c97b9_41 : mGetF RJ5 cJ5_append_c97b9 41 1 0 := ⟨RJ4, TJ4, 4, 15, rfl, uJ4, by decide, lkJ5_15, dJ5_append_c97b9_41⟩
theorem mlJ5_251 : Cond.methodLink RJ5 251 yJ2_getChars_46870 ∈ mGood := mGood_in (List.mem_of_getElem? (i := 1217) (by decide +kernel)) rfl
theorem cd_J2_getChars_46870 : Cond.code yJ2_getChars_46870 cJ2_getChars_46870 5 (some .int) ∈ mGood := mGood_in (List.mem_of_getElem? (i := 1219) (by decide +kernel)) rfl
theorem st_J2_getChars_46870 : Cond.static yJ2_getChars_46870 ∈ mGood := mGood_in (List.mem_of_getElem? (i := 1218) (by decide +kernel)) rfl
theorem vJ5_append_c97b9_44 : mCallS RJ5 cJ5_append_c97b9 44 yJ2_getChars_46870 cJ2_getChars_46870 5 (some .int) 4 := ⟨251, mlJ5_251, st_J2_getChars_46870, ic_J2, cd_J2_getChars_46870, by decide +kernel, by decide +kernel, by decide, dJ5_append_c97b9_44⟩
theorem pJ5_append_c97b9_50 : mPutF RJ5 cJ5_append_c97b9 50 1 3 .int := ⟨RJ4, TJ4, 4, 79, tyJ4, rfl, uJ4, by decide, lkJ5_79, dJ5_append_c97b9_50, tyJ4_ok, nmJ4, rfl, by decide +kernel⟩
theorem gJ5_ensureCapacityInternal_d00df_1 : mGetF RJ5 cJ5_ensureCapacityInternal_d00df 1 1 0 := ⟨RJ4, TJ4, 4, 15, rfl, uJ4, by decide, lkJ5_15, dJ5_ensureCapacityInternal_d00df_1⟩
theorem gJ5_ensureCapacityInternal_d00df_6 : mGetF RJ5 cJ5_ensureCapacityInternal_d00df 6 1 1 := ⟨RJ4, TJ4, 4, 22, rfl, uJ4, by decide, lkJ5_22, dJ5_ensureCapacityInternal_d00df_6⟩
theorem gJ5_ensureCapacityInternal_d00df_19 : mGetF RJ5 cJ5_ensureCapacityInternal_d00df 19 1 0 := ⟨RJ4, TJ4, 4, 15, rfl, uJ4, by decide, lkJ5_15, dJ5_ensureCapacityInternal_d00df_19⟩
theorem mlJ5_104 : Cond.methodLink RJ5 104 yJ5_newCapacity_0f7a4 ∈ mGood := mGood_in (List.mem_of_getElem? (i := 982) (by decide +kernel)) rfl
theorem cd_J5_newCapacity_0f7a4 : Cond.code yJ5_newCapacity_0f7a4 cJ5_newCapacity_0f7a4 6 (some .int) ∈ mGood := mGood_in (List.mem_of_getElem? (i := 985) (by decide +kernel)) rfl
theorem im_J5_newCapacity_0f7a4 : Cond.instanceMethod yJ5_newCapacity_0f7a4 ∈ mGood := mGood_in (List.mem_of_getElem? (i := 984) (by decide +kernel)) rfl
theorem vJ5_ensureCapacityInternal_d00df_24 : mCallX RJ5 cJ5_ensureCapacityInternal_d00df 24 RJ4 yJ5_newCapacity_0f7a4 cJ5_newCapacity_0f7a4 6 (some .int) 1 := ⟨104, mlJ5_104, im_J5_newCapacity_0f7a4, fun args s hts => hts _ (mGood_jSel (List.mem_of_getElem? (i := 1) rfl) rfl), ic_J5, cd_J5_newCapacity_0f7a4, by decide +kernel, by decide +kernel, by decide, dJ5_ensureCapacityInternal_d00df_24⟩
theorem gJ5_ensureCapacityInternal_d00df_28 : mGetF RJ5 cJ5_ensureCapacityInternal_d00df 28 1 1 := ⟨RJ4, TJ4, 4, 22, rfl, uJ4, by decide, lkJ5_22, dJ5_ensureCapacityInternal_d00df_28⟩
theorem mlJ5_108 : Cond.methodLink RJ5 108 yJ7_copyOf_9075b ∈ mGood := mGood_in (List.mem_of_getElem? (i := 995) (by decide +kernel)) rfl
theorem ic_J7 : Cond.initialized RJ7 ∈ mGood := mGood_in (List.mem_of_getElem? (i := 86) (by decide +kernel)) rfl
theorem cd_J7_copyOf_9075b : Cond.code yJ7_copyOf_9075b cJ7_copyOf_9075b 3 (some (.array .byte)) ∈ mGood := mGood_in (List.mem_of_getElem? (i := 997) (by decide +kernel)) rfl
theorem st_J7_copyOf_9075b : Cond.static yJ7_copyOf_9075b ∈ mGood := mGood_in (List.mem_of_getElem? (i := 996) (by decide +kernel)) rfl
theorem vJ5_ensureCapacityInternal_d00df_32 : mCallS RJ5 cJ5_ensureCapacityInternal_d00df 32 yJ7_copyOf_9075b cJ7_copyOf_9075b 3 (some (.array .byte)) 2 := ⟨108, mlJ5_108, st_J7_copyOf_9075b, ic_J7, cd_J7_copyOf_9075b, by decide +kernel, by decide +kernel, by decide, dJ5_ensureCapacityInternal_d00df_32⟩
theorem pJ5_ensureCapacityInternal_d00df_35 : mPutF RJ5 cJ5_ensureCapacityInternal_d00df 35 1 0 (.array .byte) := ⟨RJ4, TJ4, 4, 15, tyJ4, rfl, uJ4, by decide, lkJ5_15, dJ5_ensureCapacityInternal_d00df_35, tyJ4_ok, nmJ4, rfl, by decide +kernel⟩
theorem gJ5_newCapacity_0f7a4_1 : mGetF RJ5 cJ5_newCapacity_0f7a4 1 1 0 := ⟨RJ4, TJ4, 4, 15, rfl, uJ4, by decide, lkJ5_15, dJ5_newCapacity_0f7a4_1⟩
theorem gJ5_newCapacity_0f7a4_8 : mGetF RJ5 cJ5_newCapacity_0f7a4 8 1 1 := ⟨RJ4, TJ4, 4, 22, rfl, uJ4, by decide, lkJ5_22, dJ5_newCapacity_0f7a4_8⟩
theorem gJ5_newCapacity_0f7a4_24 : mGetF RJ5 cJ5_newCapacity_0f7a4 24 1 1 := ⟨RJ4, TJ4, 4, 22, rfl, uJ4, by decide, lkJ5_22, dJ5_newCapacity_0f7a4_24⟩
theorem mlJ5_114 : Cond.methodLink RJ5 114 yJ8_newLength_cabcc ∈ mGood := mGood_in (List.mem_of_getElem? (i := 986) (by decide +kernel)) rfl
theorem ic_J8 : Cond.initialized RJ8 ∈ mGood := mGood_in (List.mem_of_getElem? (i := 85) (by decide +kernel)) rfl
theorem cd_J8_newLength_cabcc : Cond.code yJ8_newLength_cabcc cJ8_newLength_cabcc 4 (some .int) ∈ mGood := mGood_in (List.mem_of_getElem? (i := 988) (by decide +kernel)) rfl
theorem st_J8_newLength_cabcc : Cond.static yJ8_newLength_cabcc ∈ mGood := mGood_in (List.mem_of_getElem? (i := 987) (by decide +kernel)) rfl
theorem vJ5_newCapacity_0f7a4_29 : mCallS RJ5 cJ5_newCapacity_0f7a4 29 yJ8_newLength_cabcc cJ8_newLength_cabcc 4 (some .int) 3 := ⟨114, mlJ5_114, st_J8_newLength_cabcc, ic_J8, cd_J8_newLength_cabcc, by decide +kernel, by decide +kernel, by decide, dJ5_newCapacity_0f7a4_29⟩
theorem gJ5_newCapacity_0f7a4_54 : mGetF RJ5 cJ5_newCapacity_0f7a4 54 1 1 := ⟨RJ4, TJ4, 4, 22, rfl, uJ4, by decide, lkJ5_22, dJ5_newCapacity_0f7a4_54⟩
theorem mlJ8_194 : Cond.methodLink RJ8 194 yJ9_max_7cf53 ∈ mGood := mGood_in (List.mem_of_getElem? (i := 989) (by decide +kernel)) rfl
theorem vJ8_newLength_cabcc_3 : mCallS RJ8 cJ8_newLength_cabcc 3 yJ9_max_7cf53 cJ9_max_7cf53 2 (some .int) 2 := ⟨194, mlJ8_194, st_J9_max_7cf53, ic_J9, cd_J9_max_7cf53, by decide +kernel, by decide +kernel, by decide, dJ8_newLength_cabcc_3⟩
theorem mlJ8_201 : Cond.methodLink RJ8 201 yJ8_hugeLength_7cf53 ∈ mGood := mGood_in (List.mem_of_getElem? (i := 991) (by decide +kernel)) rfl
theorem cd_J8_hugeLength_7cf53 : Cond.code yJ8_hugeLength_7cf53 cJ8_hugeLength_7cf53 3 (some .int) ∈ mGood := mGood_in (List.mem_of_getElem? (i := 993) (by decide +kernel)) rfl
theorem st_J8_hugeLength_7cf53 : Cond.static yJ8_hugeLength_7cf53 ∈ mGood := mGood_in (List.mem_of_getElem? (i := 992) (by decide +kernel)) rfl
theorem vJ8_newLength_cabcc_23 : mCallS RJ8 cJ8_newLength_cabcc 23 yJ8_hugeLength_7cf53 cJ8_hugeLength_7cf53 3 (some .int) 2 := ⟨201, mlJ8_201, st_J8_hugeLength_7cf53, ic_J8, cd_J8_hugeLength_7cf53, by decide +kernel, by decide +kernel, by decide, dJ8_newLength_cabcc_23⟩
theorem mlJ7_304 : Cond.methodLink RJ7 304 yJ9_min_7cf53 ∈ mGood := mGood_in (List.mem_of_getElem? (i := 1005) (by decide +kernel)) rfl
theorem vJ7_copyOf_9075b_25 : mCallS RJ7 cJ7_copyOf_9075b 25 yJ9_min_7cf53 cJ9_min_7cf53 2 (some .int) 2 := ⟨304, mlJ7_304, st_J9_min_7cf53, ic_J9, cd_J9_min_7cf53, by decide +kernel, by decide +kernel, by decide, dJ7_copyOf_9075b_25⟩
theorem vJ7_copyOf_9075b_28 : mCopyI RJ7 cJ7_copyOf_9075b 28 := ⟨150, mGood_in (List.mem_of_getElem? (i := 1008) (by decide +kernel)) rfl, mGood_in (List.mem_of_getElem? (i := 337) (by decide +kernel)) rfl, mGood_in (List.mem_of_getElem? (i := 336) (by decide +kernel)) rfl, mGood_in (List.mem_of_getElem? (i := 81) (by decide +kernel)) rfl, dJ7_copyOf_9075b_28⟩
theorem sJ5_isLatin1_aae02_0 : mGetS RJ5 cJ5_isLatin1_aae02 0 "java/lang/String" "COMPACT_STRINGS" "Z" := ⟨18, lkJ5_18, dJ5_isLatin1_aae02_0⟩
theorem gJ5_isLatin1_aae02_7 : mGetF RJ5 cJ5_isLatin1_aae02 7 1 1 := ⟨RJ4, TJ4, 4, 22, rfl, uJ4, by decide, lkJ5_22, dJ5_isLatin1_aae02_7⟩
theorem lkJ0_1053 : mFl RJ0 1053 "jdk/internal/util/Preconditions" "SIOOBE_FORMATTER" "Ljava/util/function/BiFunction;" := Or.inl (mGood_in (List.mem_of_getElem? (i := 1036) (by decide +kernel)) rfl)
theorem sJ0_checkIndex_df160_2 : mGetS RJ0 cJ0_checkIndex_df160 2 "jdk/internal/util/Preconditions" "SIOOBE_FORMATTER" "Ljava/util/function/BiFunction;" := ⟨1053, lkJ0_1053, dJ0_checkIndex_df160_2⟩
theorem mlJ0_1059 : Cond.methodLink RJ0 1059 yJ3_checkIndex_8e157 ∈ mGood := mGood_in (List.mem_of_getElem? (i := 1059) (by decide +kernel)) rfl
theorem ic_J3 : Cond.initialized RJ3 ∈ mGood := mGood_in (List.mem_of_getElem? (i := 88) (by decide +kernel)) rfl
theorem cd_J3_checkIndex_8e157 : Cond.code yJ3_checkIndex_8e157 cJ3_checkIndex_8e157 3 (some .int) ∈ mGood := mGood_in (List.mem_of_getElem? (i := 1061) (by decide +kernel)) rfl
theorem st_J3_checkIndex_8e157 : Cond.static yJ3_checkIndex_8e157 ∈ mGood := mGood_in (List.mem_of_getElem? (i := 1060) (by decide +kernel)) rfl
theorem vJ0_checkIndex_df160_5 : mCallS RJ0 cJ0_checkIndex_df160 5 yJ3_checkIndex_8e157 cJ3_checkIndex_8e157 3 (some .int) 3 := ⟨1059, mlJ0_1059, st_J3_checkIndex_8e157, ic_J3, cd_J3_checkIndex_8e157, by decide +kernel, by decide +kernel, by decide, dJ0_checkIndex_df160_5⟩
theorem lkJ6_83 : mFl RJ6 83 "java/lang/Integer" "DigitOnes" "[B" := Or.inl (mGood_in (List.mem_of_getElem? (i := 1213) (by decide +kernel)) rfl)
theorem sJ6_getChars_ba4f3_49 : mGetS RJ6 cJ6_getChars_ba4f3 49 "java/lang/Integer" "DigitOnes" "[B" := ⟨83, lkJ6_83, dJ6_getChars_ba4f3_49⟩
theorem lkJ6_87 : mFl RJ6 87 "java/lang/Integer" "DigitTens" "[B" := Or.inl (mGood_in (List.mem_of_getElem? (i := 1215) (by decide +kernel)) rfl)
theorem sJ6_getChars_ba4f3_62 : mGetS RJ6 cJ6_getChars_ba4f3 62 "java/lang/Integer" "DigitTens" "[B" := ⟨87, lkJ6_87, dJ6_getChars_ba4f3_62⟩
theorem sJ6_getChars_ba4f3_78 : mGetS RJ6 cJ6_getChars_ba4f3 78 "java/lang/Integer" "DigitOnes" "[B" := ⟨83, lkJ6_83, dJ6_getChars_ba4f3_78⟩
theorem sJ6_getChars_ba4f3_97 : mGetS RJ6 cJ6_getChars_ba4f3 97 "java/lang/Integer" "DigitTens" "[B" := ⟨87, lkJ6_87, dJ6_getChars_ba4f3_97⟩
theorem lkJ0_9 : mFl RJ0 9 "java/lang/String" "value" "[B" := Or.inl (mGood_in (List.mem_of_getElem? (i := 1271) (by decide +kernel)) rfl)
theorem gJ0_length_8abf5_1 : mGetK RJ0 cJ0_length_8abf5 1 "java/lang/String" "value" "[B" := ⟨9, lkJ0_9, dJ0_length_8abf5_1⟩
theorem mlJ0_335 : Cond.methodLink RJ0 335 yJ0_coder_7d493 ∈ mGood := mGood_in (List.mem_of_getElem? (i := 1091) (by decide +kernel)) rfl
theorem cd_J0_coder_7d493 : Cond.code yJ0_coder_7d493 cJ0_coder_7d493 1 (some .byte) ∈ mGood := mGood_in (List.mem_of_getElem? (i := 1094) (by decide +kernel)) rfl
theorem im_J0_coder_7d493 : Cond.instanceMethod yJ0_coder_7d493 ∈ mGood := mGood_in (List.mem_of_getElem? (i := 1092) (by decide +kernel)) rfl
theorem sl_J0_coder_7d493 : Cond.selects RJ0 yJ0_coder_7d493 yJ0_coder_7d493 ∈ mGood := mGood_in (List.mem_of_getElem? (i := 1093) (by decide +kernel)) rfl
theorem vJ0_length_8abf5_6 : mCallX RJ0 cJ0_length_8abf5 6 RJ0 yJ0_coder_7d493 cJ0_coder_7d493 1 (some .byte) 0 := ⟨335, mlJ0_335, im_J0_coder_7d493, fun args s hts => hts _ sl_J0_coder_7d493, ic_J0, cd_J0_coder_7d493, by decide +kernel, by decide +kernel, by decide, dJ0_length_8abf5_6⟩
theorem lkJ0_38 : mFl RJ0 38 "java/lang/String" "COMPACT_STRINGS" "Z" := Or.inl (mGood_in (List.mem_of_getElem? (i := 1095) (by decide +kernel)) rfl)
theorem sJ0_coder_7d493_0 : mGetS RJ0 cJ0_coder_7d493 0 "java/lang/String" "COMPACT_STRINGS" "Z" := ⟨38, lkJ0_38, dJ0_coder_7d493_0⟩
theorem lkJ0_15 : mFl RJ0 15 "java/lang/String" "coder" "B" := Or.inl (mGood_in (List.mem_of_getElem? (i := 1272) (by decide +kernel)) rfl)
theorem gJ0_coder_7d493_7 : mGetK RJ0 cJ0_coder_7d493 7 "java/lang/String" "coder" "B" := ⟨15, lkJ0_15, dJ0_coder_7d493_7⟩
theorem mlJ0_492 : Cond.methodLink RJ0 492 yJ0_isLatin1_aae02 ∈ mGood := mGood_in (List.mem_of_getElem? (i := 1113) (by decide +kernel)) rfl
theorem cd_J0_isLatin1_aae02 : Cond.code yJ0_isLatin1_aae02 cJ0_isLatin1_aae02 1 (some .boolean) ∈ mGood := mGood_in (List.mem_of_getElem? (i := 1116) (by decide +kernel)) rfl
theorem im_J0_isLatin1_aae02 : Cond.instanceMethod yJ0_isLatin1_aae02 ∈ mGood := mGood_in (List.mem_of_getElem? (i := 1114) (by decide +kernel)) rfl
theorem sl_J0_isLatin1_aae02 : Cond.selects RJ0 yJ0_isLatin1_aae02 yJ0_isLatin1_aae02 ∈ mGood := mGood_in (List.mem_of_getElem? (i := 1115) (by decide +kernel)) rfl
theorem vJ0_charAt_5068e_1 : mCallX RJ0 cJ0_charAt_5068e 1 RJ0 yJ0_isLatin1_aae02 cJ0_isLatin1_aae02 1 (some .boolean) 0 := ⟨492, mlJ0_492, im_J0_isLatin1_aae02, fun args s hts => hts _ sl_J0_isLatin1_aae02, ic_J0, cd_J0_isLatin1_aae02, by decide +kernel, by decide +kernel, by decide, dJ0_charAt_5068e_1⟩
theorem gJ0_charAt_5068e_8 : mGetK RJ0 cJ0_charAt_5068e 8 "java/lang/String" "value" "[B" := ⟨9, lkJ0_9, dJ0_charAt_5068e_8⟩
theorem mlJ0_495 : Cond.methodLink RJ0 495 yJ1_charAt_3b067 ∈ mGood := mGood_in (List.mem_of_getElem? (i := 1117) (by decide +kernel)) rfl
theorem cd_J1_charAt_3b067 : Cond.code yJ1_charAt_3b067 cJ1_charAt_3b067 2 (some .char) ∈ mGood := mGood_in (List.mem_of_getElem? (i := 1119) (by decide +kernel)) rfl
theorem st_J1_charAt_3b067 : Cond.static yJ1_charAt_3b067 ∈ mGood := mGood_in (List.mem_of_getElem? (i := 1118) (by decide +kernel)) rfl
theorem vJ0_charAt_5068e_12 : mCallS RJ0 cJ0_charAt_5068e 12 yJ1_charAt_3b067 cJ1_charAt_3b067 2 (some .char) 2 := ⟨495, mlJ0_495, st_J1_charAt_3b067, ic_J1, cd_J1_charAt_3b067, by decide +kernel, by decide +kernel, by decide, dJ0_charAt_5068e_12⟩
theorem gJ0_charAt_5068e_17 : mGetK RJ0 cJ0_charAt_5068e 17 "java/lang/String" "value" "[B" := ⟨9, lkJ0_9, dJ0_charAt_5068e_17⟩
theorem mlJ0_498 : Cond.methodLink RJ0 498 yJ2_charAt_3b067 ∈ mGood := mGood_in (List.mem_of_getElem? (i := 1121) (by decide +kernel)) rfl
theorem cd_J2_charAt_3b067 : Cond.code yJ2_charAt_3b067 cJ2_charAt_3b067 2 (some .char) ∈ mGood := mGood_in (List.mem_of_getElem? (i := 1123) (by decide +kernel)) rfl
theorem st_J2_charAt_3b067 : Cond.static yJ2_charAt_3b067 ∈ mGood := mGood_in (List.mem_of_getElem? (i := 1122) (by decide +kernel)) rfl
theorem vJ0_charAt_5068e_21 : mCallS RJ0 cJ0_charAt_5068e 21 yJ2_charAt_3b067 cJ2_charAt_3b067 2 (some .char) 2 := ⟨498, mlJ0_498, st_J2_charAt_3b067, ic_J2, cd_J2_charAt_3b067, by decide +kernel, by decide +kernel, by decide, dJ0_charAt_5068e_21⟩
theorem sJ0_isLatin1_aae02_0 : mGetS RJ0 cJ0_isLatin1_aae02 0 "java/lang/String" "COMPACT_STRINGS" "Z" := ⟨38, lkJ0_38, dJ0_isLatin1_aae02_0⟩
theorem gJ0_isLatin1_aae02_7 : mGetK RJ0 cJ0_isLatin1_aae02 7 "java/lang/String" "coder" "B" := ⟨15, lkJ0_15, dJ0_isLatin1_aae02_7⟩
theorem mlJ1_9 : Cond.methodLink RJ1 9 yJ0_checkIndex_df160 ∈ mGood := mGood_in (List.mem_of_getElem? (i := 1120) (by decide +kernel)) rfl
theorem vJ1_charAt_3b067_3 : mCallS RJ1 cJ1_charAt_3b067 3 yJ0_checkIndex_df160 cJ0_checkIndex_df160 2 none 2 := ⟨9, mlJ1_9, st_J0_checkIndex_df160, ic_J0, cd_J0_checkIndex_df160, by decide +kernel, by decide +kernel, by decide, dJ1_charAt_3b067_3⟩
theorem lkJx29ce0_7 : mFl RJx29ce0 7 "java/lang/Enum" "ordinal" "I" := Or.inl (mGood_in (List.mem_of_getElem? (i := 1838) (by decide +kernel)) rfl)
theorem gJx29ce0_ordinal_8abf5_1 : mGetK RJx29ce0 cJx29ce0_ordinal_8abf5 1 "java/lang/Enum" "ordinal" "I" := ⟨7, lkJx29ce0_7, dJx29ce0_ordinal_8abf5_1⟩
theorem ac_byte : Cond.arrayClass (newarray.typeOf .byte) ∈ mGood := mGood_in (List.mem_of_getElem? (i := 235) (by decide +kernel)) rfl
end JF
