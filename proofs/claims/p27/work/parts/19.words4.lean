/-! words of the JDK methods -/
theorem zi_J4 : ∀ w ∈ u_ws RJ4 TJ4 4, w ∈ zTBL := by
  intro w hw
  obtain ⟨i, hi, rfl⟩ := List.mem_map.mp hw
  have hi : i < 4 := List.mem_range.mp hi
  match i, hi with
  | 0, _ => exact tb2 (j := 136) (by decide +kernel) rfl
  | 1, _ => exact tb2 (j := 138) (by decide +kernel) rfl
  | 2, _ => exact tb2 (j := 140) (by decide +kernel) rfl
  | 3, _ => exact tb2 (j := 142) (by decide +kernel) rfl
  | i + 4, hi => exact absurd hi (by omega)
theorem zt_J4 : zT RJ4 TJ4 4 := ⟨⟨tyJ4, tyJ4_ok⟩, nmJ4⟩
theorem zi_J0 : ∀ w ∈ u_ws RJ0 TJ0 4, w ∈ zTBL := by
  intro w hw
  obtain ⟨i, hi, rfl⟩ := List.mem_map.mp hw
  have hi : i < 4 := List.mem_range.mp hi
  match i, hi with
  | 0, _ => exact tb3 (j := 48) (by decide +kernel) rfl
  | 1, _ => exact tb3 (j := 50) (by decide +kernel) rfl
  | 2, _ => exact tb3 (j := 52) (by decide +kernel) rfl
  | 3, _ => exact tb3 (j := 54) (by decide +kernel) rfl
  | i + 4, hi => exact absurd hi (by omega)
theorem zt_J0 : zT RJ0 TJ0 4 := ⟨⟨tyJ0, tyJ0_ok⟩, nmJ0⟩
theorem mc_J5_init_d00df : zM0 yJ5_init_d00df cJ5_init_d00df 2 (none) 1 := ⟨tb2 (j := 121) (by decide +kernel) rfl, tb1 (j := 16) (by decide +kernel) rfl, by decide +kernel⟩
theorem in_J5_init_d00df : Cond.instanceMethod yJ5_init_d00df ∈ zTBL := tb2 (j := 120) (by decide +kernel) rfl
theorem gs_J5_18 : Cond.fieldLink RJ5 18 "java/lang/String" "COMPACT_STRINGS" "Z" ∈ zTBL := tb2 (j := 123) (by decide +kernel) rfl
theorem fl_J5_15 : zF2 RJ5 15 1 0 "java/lang/AbstractStringBuilder" RJ4 TJ4 4 := ⟨rfl, zi_J4, by decide, tb2 (j := 132) (by decide +kernel) rfl, Or.inl rfl⟩
theorem fl_J5_22 : zF2 RJ5 22 1 1 "java/lang/AbstractStringBuilder" RJ4 TJ4 4 := ⟨rfl, zi_J4, by decide, tb2 (j := 133) (by decide +kernel) rfl, Or.inl rfl⟩
theorem mc_J2_newBytesFor_77867 : zM0 yJ2_newBytesFor_77867 cJ2_newBytesFor_77867 1 (some (FieldType.array FieldType.byte)) 1 := ⟨tb2 (j := 127) (by decide +kernel) rfl, tb1 (j := 19) (by decide +kernel) rfl, by decide +kernel⟩
theorem st_J2_newBytesFor_77867 : Cond.static yJ2_newBytesFor_77867 ∈ zTBL := tb2 (j := 126) (by decide +kernel) rfl
theorem ml_J5_26 : zM RJ5 26 yJ2_newBytesFor_77867 cJ2_newBytesFor_77867 1 (some (FieldType.array FieldType.byte)) 1 := ⟨mc_J2_newBytesFor_77867, tb2 (j := 125) (by decide +kernel) rfl⟩
theorem mc_J5_append_3fe6f : zM0 yJ5_append_3fe6f cJ5_append_3fe6f 2 (some (FieldType.object "java/lang/AbstractStringBuilder")) 1 := ⟨tb2 (j := 151) (by decide +kernel) rfl, tb1 (j := 16) (by decide +kernel) rfl, by decide +kernel⟩
theorem in_J5_append_3fe6f : Cond.instanceMethod yJ5_append_3fe6f ∈ zTBL := tb2 (j := 150) (by decide +kernel) rfl
theorem fl_J5_79 : zF2 RJ5 79 1 3 "java/lang/AbstractStringBuilder" RJ4 TJ4 4 := ⟨rfl, zi_J4, by decide, tb2 (j := 135) (by decide +kernel) rfl, Or.inl rfl⟩
theorem mc_J5_ensureCapacityInternal_d00df : zM0 yJ5_ensureCapacityInternal_d00df cJ5_ensureCapacityInternal_d00df 3 (none) 1 := ⟨tb2 (j := 155) (by decide +kernel) rfl, tb1 (j := 16) (by decide +kernel) rfl, by decide +kernel⟩
theorem in_J5_ensureCapacityInternal_d00df : Cond.instanceMethod yJ5_ensureCapacityInternal_d00df ∈ zTBL := tb2 (j := 154) (by decide +kernel) rfl
theorem ml_J5_100 : zM RJ5 100 yJ5_ensureCapacityInternal_d00df cJ5_ensureCapacityInternal_d00df 3 (none) 1 := ⟨mc_J5_ensureCapacityInternal_d00df, tb2 (j := 152) (by decide +kernel) rfl⟩
theorem mc_J5_isLatin1_aae02 : zM0 yJ5_isLatin1_aae02 cJ5_isLatin1_aae02 1 (some FieldType.boolean) 0 := ⟨tb2 (j := 187) (by decide +kernel) rfl, tb1 (j := 16) (by decide +kernel) rfl, by decide +kernel⟩
theorem in_J5_isLatin1_aae02 : Cond.instanceMethod yJ5_isLatin1_aae02 ∈ zTBL := tb2 (j := 184) (by decide +kernel) rfl
theorem se_J5_isLatin1_aae02 : Cond.selects RJ4 yJ5_isLatin1_aae02 yJ5_isLatin1_aae02 ∈ zTBL := tb2 (j := 186) (by decide +kernel) rfl
theorem ml_J5_83 : zM RJ5 83 yJ5_isLatin1_aae02 cJ5_isLatin1_aae02 1 (some FieldType.boolean) 0 := ⟨mc_J5_isLatin1_aae02, tb2 (j := 183) (by decide +kernel) rfl⟩
theorem mc_J1_canEncode_fc78d : zM0 yJ1_canEncode_fc78d cJ1_canEncode_fc78d 1 (some FieldType.boolean) 1 := ⟨tb2 (j := 190) (by decide +kernel) rfl, tb1 (j := 22) (by decide +kernel) rfl, by decide +kernel⟩
theorem st_J1_canEncode_fc78d : Cond.static yJ1_canEncode_fc78d ∈ zTBL := tb2 (j := 189) (by decide +kernel) rfl
theorem ml_J5_191 : zM RJ5 191 yJ1_canEncode_fc78d cJ1_canEncode_fc78d 1 (some FieldType.boolean) 1 := ⟨mc_J1_canEncode_fc78d, tb2 (j := 188) (by decide +kernel) rfl⟩
theorem mc_J5_inflate_da8c8 : zM0 yJ5_inflate_da8c8 cJ5_inflate_da8c8 2 (none) 0 := ⟨tb2 (j := 194) (by decide +kernel) rfl, tb1 (j := 16) (by decide +kernel) rfl, by decide +kernel⟩
theorem in_J5_inflate_da8c8 : Cond.instanceMethod yJ5_inflate_da8c8 ∈ zTBL := tb2 (j := 193) (by decide +kernel) rfl
theorem ml_J5_195 : zM RJ5 195 yJ5_inflate_da8c8 cJ5_inflate_da8c8 2 (none) 0 := ⟨mc_J5_inflate_da8c8, tb2 (j := 191) (by decide +kernel) rfl⟩
theorem mc_J2_putCharSB_b72d1 : zM0 yJ2_putCharSB_b72d1 cJ2_putCharSB_b72d1 3 (none) 3 := ⟨tb2 (j := 226) (by decide +kernel) rfl, tb1 (j := 19) (by decide +kernel) rfl, by decide +kernel⟩
theorem st_J2_putCharSB_b72d1 : Cond.static yJ2_putCharSB_b72d1 ∈ zTBL := tb2 (j := 225) (by decide +kernel) rfl
theorem ml_J5_197 : zM RJ5 197 yJ2_putCharSB_b72d1 cJ2_putCharSB_b72d1 3 (none) 3 := ⟨mc_J2_putCharSB_b72d1, tb2 (j := 224) (by decide +kernel) rfl⟩
theorem mc_J5_newCapacity_0f7a4 : zM0 yJ5_newCapacity_0f7a4 cJ5_newCapacity_0f7a4 6 (some FieldType.int) 1 := ⟨tb2 (j := 159) (by decide +kernel) rfl, tb1 (j := 16) (by decide +kernel) rfl, by decide +kernel⟩
theorem in_J5_newCapacity_0f7a4 : Cond.instanceMethod yJ5_newCapacity_0f7a4 ∈ zTBL := tb2 (j := 158) (by decide +kernel) rfl
theorem ml_J5_104 : zM RJ5 104 yJ5_newCapacity_0f7a4 cJ5_newCapacity_0f7a4 6 (some FieldType.int) 1 := ⟨mc_J5_newCapacity_0f7a4, tb2 (j := 156) (by decide +kernel) rfl⟩
theorem mc_J7_copyOf_9075b : zM0 yJ7_copyOf_9075b cJ7_copyOf_9075b 3 (some (FieldType.array FieldType.byte)) 2 := ⟨tb2 (j := 171) (by decide +kernel) rfl, tb1 (j := 21) (by decide +kernel) rfl, by decide +kernel⟩
theorem st_J7_copyOf_9075b : Cond.static yJ7_copyOf_9075b ∈ zTBL := tb2 (j := 170) (by decide +kernel) rfl
theorem ml_J5_108 : zM RJ5 108 yJ7_copyOf_9075b cJ7_copyOf_9075b 3 (some (FieldType.array FieldType.byte)) 2 := ⟨mc_J7_copyOf_9075b, tb2 (j := 169) (by decide +kernel) rfl⟩
theorem mc_J5_getValue_6d5f1 : zM0 yJ5_getValue_6d5f1 cJ5_getValue_6d5f1 1 (some (FieldType.array FieldType.byte)) 0 := ⟨tb3 (j := 13) (by decide +kernel) rfl, tb1 (j := 16) (by decide +kernel) rfl, by decide +kernel⟩
theorem in_J5_getValue_6d5f1 : Cond.instanceMethod yJ5_getValue_6d5f1 ∈ zTBL := tb3 (j := 10) (by decide +kernel) rfl
theorem se_J5_getValue_6d5f1 : Cond.selects RJ4 yJ5_getValue_6d5f1 yJ5_getValue_6d5f1 ∈ zTBL := tb3 (j := 12) (by decide +kernel) rfl
theorem mc_J5_length_8abf5 : zM0 yJ5_length_8abf5 cJ5_length_8abf5 1 (some FieldType.int) 0 := ⟨tb3 (j := 21) (by decide +kernel) rfl, tb1 (j := 16) (by decide +kernel) rfl, by decide +kernel⟩
theorem in_J5_length_8abf5 : Cond.instanceMethod yJ5_length_8abf5 ∈ zTBL := tb3 (j := 15) (by decide +kernel) rfl
theorem mc_J0_init_db425 : zM0 yJ0_init_db425 cJ0_init_db425 5 (none) 2 := ⟨tb3 (j := 7) (by decide +kernel) rfl, tb1 (j := 18) (by decide +kernel) rfl, by decide +kernel⟩
theorem in_J0_init_db425 : Cond.instanceMethod yJ0_init_db425 ∈ zTBL := tb3 (j := 6) (by decide +kernel) rfl
theorem ml_J0_552 : zM RJ0 552 yJ5_getValue_6d5f1 cJ5_getValue_6d5f1 1 (some (FieldType.array FieldType.byte)) 0 := ⟨mc_J5_getValue_6d5f1, tb3 (j := 9) (by decide +kernel) rfl⟩
theorem ml_J0_549 : zM RJ0 549 yJ5_length_8abf5 cJ5_length_8abf5 1 (some FieldType.int) 0 := ⟨mc_J5_length_8abf5, tb3 (j := 14) (by decide +kernel) rfl⟩
theorem ml_J0_1047 : zM RJ0 1047 yJ5_isLatin1_aae02 cJ5_isLatin1_aae02 1 (some FieldType.boolean) 0 := ⟨mc_J5_isLatin1_aae02, tb3 (j := 22) (by decide +kernel) rfl⟩
theorem fl_J0_15 : zF2 RJ0 15 0 1 "java/lang/String" RJ0 TJ0 4 := ⟨rfl, zi_J0, by decide, tb3 (j := 47) (by decide +kernel) rfl, Or.inl rfl⟩
theorem fk_J0_15 : Cond.fieldLink RJ0 15 RJ0 (TJ0 1).2.1 (TJ0 1).2.2.1 ∈ zTBL := tb3 (j := 47) (by decide +kernel) rfl
theorem ff_J0_15 : zF RJ0 15 0 1 RJ0 TJ0 4 := ⟨rfl, zi_J0, by decide, rfl, Or.inl (tb3 (j := 47) (by decide +kernel) rfl)⟩
theorem mc_J7_copyOfRange_39247 : zM0 yJ7_copyOfRange_39247 cJ7_copyOfRange_39247 3 (some (FieldType.array FieldType.byte)) 3 := ⟨tb3 (j := 25) (by decide +kernel) rfl, tb1 (j := 21) (by decide +kernel) rfl, by decide +kernel⟩
theorem st_J7_copyOfRange_39247 : Cond.static yJ7_copyOfRange_39247 ∈ zTBL := tb3 (j := 24) (by decide +kernel) rfl
theorem ml_J0_54 : zM RJ0 54 yJ7_copyOfRange_39247 cJ7_copyOfRange_39247 3 (some (FieldType.array FieldType.byte)) 3 := ⟨mc_J7_copyOfRange_39247, tb3 (j := 23) (by decide +kernel) rfl⟩
theorem fl_J0_9 : zF2 RJ0 9 0 0 "java/lang/String" RJ0 TJ0 4 := ⟨rfl, zi_J0, by decide, tb3 (j := 46) (by decide +kernel) rfl, Or.inl rfl⟩
theorem fk_J0_9 : Cond.fieldLink RJ0 9 RJ0 (TJ0 0).2.1 (TJ0 0).2.2.1 ∈ zTBL := tb3 (j := 46) (by decide +kernel) rfl
theorem ff_J0_9 : zF RJ0 9 0 0 RJ0 TJ0 4 := ⟨rfl, zi_J0, by decide, rfl, Or.inl (tb3 (j := 46) (by decide +kernel) rfl)⟩
theorem gs_J0_38 : Cond.fieldLink RJ0 38 "java/lang/String" "COMPACT_STRINGS" "Z" ∈ zTBL := tb3 (j := 32) (by decide +kernel) rfl
theorem fl_J0_1048 : zF2 RJ0 1048 1 2 "java/lang/AbstractStringBuilder" RJ4 TJ4 4 := ⟨rfl, zi_J4, by decide, tb2 (j := 134) (by decide +kernel) rfl, Or.inl rfl⟩
theorem mc_J2_compress_39247 : zM0 yJ2_compress_39247 cJ2_compress_39247 6 (some (FieldType.array FieldType.byte)) 3 := ⟨tb3 (j := 35) (by decide +kernel) rfl, tb1 (j := 19) (by decide +kernel) rfl, by decide +kernel⟩
theorem st_J2_compress_39247 : Cond.static yJ2_compress_39247 ∈ zTBL := tb3 (j := 34) (by decide +kernel) rfl
theorem ml_J0_1051 : zM RJ0 1051 yJ2_compress_39247 cJ2_compress_39247 6 (some (FieldType.array FieldType.byte)) 3 := ⟨mc_J2_compress_39247, tb3 (j := 33) (by decide +kernel) rfl⟩
theorem mc_J2_coderFromArrayLen_85cad : zM0 yJ2_coderFromArrayLen_85cad cJ2_coderFromArrayLen_85cad 2 (some FieldType.byte) 2 := ⟨tb3 (j := 45) (by decide +kernel) rfl, tb1 (j := 19) (by decide +kernel) rfl, by decide +kernel⟩
theorem st_J2_coderFromArrayLen_85cad : Cond.static yJ2_coderFromArrayLen_85cad ∈ zTBL := tb3 (j := 44) (by decide +kernel) rfl
theorem ml_J0_47 : zM RJ0 47 yJ2_coderFromArrayLen_85cad cJ2_coderFromArrayLen_85cad 2 (some FieldType.byte) 2 := ⟨mc_J2_coderFromArrayLen_85cad, tb3 (j := 43) (by decide +kernel) rfl⟩
theorem mc_J0_init_81219 : zM0 yJ0_init_81219 cJ0_init_81219 2 (none) 1 := ⟨tb3 (j := 4) (by decide +kernel) rfl, tb1 (j := 18) (by decide +kernel) rfl, by decide +kernel⟩
theorem in_J0_init_81219 : Cond.instanceMethod yJ0_init_81219 ∈ zTBL := tb3 (j := 3) (by decide +kernel) rfl
theorem ml_J0_489 : zM RJ0 489 yJ0_init_db425 cJ0_init_db425 5 (none) 2 := ⟨mc_J0_init_db425, tb3 (j := 5) (by decide +kernel) rfl⟩
theorem mc_J0_coder_7d493 : zM0 yJ0_coder_7d493 cJ0_coder_7d493 1 (some FieldType.byte) 0 := ⟨tb3 (j := 64) (by decide +kernel) rfl, tb1 (j := 18) (by decide +kernel) rfl, by decide +kernel⟩
theorem in_J0_coder_7d493 : Cond.instanceMethod yJ0_coder_7d493 ∈ zTBL := tb3 (j := 62) (by decide +kernel) rfl
theorem se_J0_coder_7d493 : Cond.selects RJ0 yJ0_coder_7d493 yJ0_coder_7d493 ∈ zTBL := tb3 (j := 63) (by decide +kernel) rfl
theorem ml_J0_335 : zM RJ0 335 yJ0_coder_7d493 cJ0_coder_7d493 1 (some FieldType.byte) 0 := ⟨mc_J0_coder_7d493, tb3 (j := 61) (by decide +kernel) rfl⟩
theorem ml_J4_1 : zM RJ4 1 yJ5_init_d00df cJ5_init_d00df 2 (none) 1 := ⟨mc_J5_init_d00df, tb2 (j := 119) (by decide +kernel) rfl⟩
theorem ml_J4_50 : zM RJ4 50 yJ5_append_3fe6f cJ5_append_3fe6f 2 (some (FieldType.object "java/lang/AbstractStringBuilder")) 1 := ⟨mc_J5_append_3fe6f, tb2 (j := 149) (by decide +kernel) rfl⟩
theorem ms_J4_50 : zMS RJ4 50 yJ5_append_3fe6f cJ5_append_3fe6f 2 (some (FieldType.object "java/lang/AbstractStringBuilder")) 1 := ⟨mc_J5_append_3fe6f.1, mc_J5_append_3fe6f.2.1, tb2 (j := 149) (by decide +kernel) rfl, tb4 (j := 158) (by decide +kernel) rfl, tb2 (j := 144) (by decide +kernel) rfl, in_J5_append_3fe6f, by decide, by decide +kernel⟩
theorem ml_J4_137 : zM RJ4 137 yJ0_init_81219 cJ0_init_81219 2 (none) 1 := ⟨mc_J0_init_81219, tb3 (j := 2) (by decide +kernel) rfl⟩
theorem mc_J7_checkLength_df160 : zM0 yJ7_checkLength_df160 cJ7_checkLength_df160 2 (none) 2 := ⟨tb3 (j := 31) (by decide +kernel) rfl, tb1 (j := 21) (by decide +kernel) rfl, by decide +kernel⟩
theorem st_J7_checkLength_df160 : Cond.static yJ7_checkLength_df160 ∈ zTBL := tb3 (j := 30) (by decide +kernel) rfl
theorem mc_J7_copyOfRangeByte_39247 : zM0 yJ7_copyOfRangeByte_39247 cJ7_copyOfRangeByte_39247 5 (some (FieldType.array FieldType.byte)) 3 := ⟨tb3 (j := 28) (by decide +kernel) rfl, tb1 (j := 21) (by decide +kernel) rfl, by decide +kernel⟩
theorem st_J7_copyOfRangeByte_39247 : Cond.static yJ7_copyOfRangeByte_39247 ∈ zTBL := tb3 (j := 27) (by decide +kernel) rfl
theorem ml_J7_339 : zM RJ7 339 yJ7_copyOfRangeByte_39247 cJ7_copyOfRangeByte_39247 5 (some (FieldType.array FieldType.byte)) 3 := ⟨mc_J7_copyOfRangeByte_39247, tb3 (j := 26) (by decide +kernel) rfl⟩
theorem ml_J7_343 : zM RJ7 343 yJ7_checkLength_df160 cJ7_checkLength_df160 2 (none) 2 := ⟨mc_J7_checkLength_df160, tb3 (j := 29) (by decide +kernel) rfl⟩
theorem mc_J9_min_7cf53 : zM0 yJ9_min_7cf53 cJ9_min_7cf53 2 (some FieldType.int) 2 := ⟨tb2 (j := 181) (by decide +kernel) rfl, tb1 (j := 12) (by decide +kernel) rfl, by decide +kernel⟩
theorem st_J9_min_7cf53 : Cond.static yJ9_min_7cf53 ∈ zTBL := tb2 (j := 180) (by decide +kernel) rfl
theorem ml_J7_304 : zM RJ7 304 yJ9_min_7cf53 cJ9_min_7cf53 2 (some FieldType.int) 2 := ⟨mc_J9_min_7cf53, tb2 (j := 179) (by decide +kernel) rfl⟩
theorem mc_J3_checkIndex_8e157 : zM0 yJ3_checkIndex_8e157 cJ3_checkIndex_8e157 3 (some FieldType.int) 3 := ⟨tb2 (j := 235) (by decide +kernel) rfl, tb1 (j := 23) (by decide +kernel) rfl, by decide +kernel⟩
theorem st_J3_checkIndex_8e157 : Cond.static yJ3_checkIndex_8e157 ∈ zTBL := tb2 (j := 234) (by decide +kernel) rfl
