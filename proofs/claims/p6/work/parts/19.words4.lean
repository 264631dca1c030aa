/-! words of the JDK methods -/
theorem zi_Jx4a65c : ∀ w ∈ u_ws RJx4a65c TJx4a65c 3, w ∈ zTBL := by
  intro w hw
  obtain ⟨i, hi, rfl⟩ := List.mem_map.mp hw
  have hi : i < 3 := List.mem_range.mp hi
  match i, hi with
  | 0, _ => exact tb5 (j := 91) (by decide +kernel) rfl
  | 1, _ => exact tb5 (j := 87) (by decide +kernel) rfl
  | 2, _ => exact tb5 (j := 89) (by decide +kernel) rfl
  | i + 3, hi => exact absurd hi (by omega)
theorem zt_Jx4a65c : zT RJx4a65c TJx4a65c 3 := ⟨⟨tyJx4a65c, tyJx4a65c_ok⟩, nmJx4a65c⟩
theorem zi_Jx35411 : ∀ w ∈ u_ws RJx35411 TJx35411 4, w ∈ zTBL := by
  intro w hw
  obtain ⟨i, hi, rfl⟩ := List.mem_map.mp hw
  have hi : i < 4 := List.mem_range.mp hi
  match i, hi with
  | 0, _ => exact tb6 (j := 91) (by decide +kernel) rfl
  | 1, _ => exact tb6 (j := 93) (by decide +kernel) rfl
  | 2, _ => exact tb6 (j := 95) (by decide +kernel) rfl
  | 3, _ => exact tb6 (j := 97) (by decide +kernel) rfl
  | i + 4, hi => exact absurd hi (by omega)
theorem zt_Jx35411 : zT RJx35411 TJx35411 4 := ⟨⟨tyJx35411, tyJx35411_ok⟩, nmJx35411⟩
theorem zi_J4 : ∀ w ∈ u_ws RJ4 TJ4 4, w ∈ zTBL := by
  intro w hw
  obtain ⟨i, hi, rfl⟩ := List.mem_map.mp hw
  have hi : i < 4 := List.mem_range.mp hi
  match i, hi with
  | 0, _ => exact tb2 (j := 109) (by decide +kernel) rfl
  | 1, _ => exact tb2 (j := 111) (by decide +kernel) rfl
  | 2, _ => exact tb2 (j := 113) (by decide +kernel) rfl
  | 3, _ => exact tb2 (j := 115) (by decide +kernel) rfl
  | i + 4, hi => exact absurd hi (by omega)
theorem zt_J4 : zT RJ4 TJ4 4 := ⟨⟨tyJ4, tyJ4_ok⟩, nmJ4⟩
theorem zi_J0 : ∀ w ∈ u_ws RJ0 TJ0 4, w ∈ zTBL := by
  intro w hw
  obtain ⟨i, hi, rfl⟩ := List.mem_map.mp hw
  have hi : i < 4 := List.mem_range.mp hi
  match i, hi with
  | 0, _ => exact tb3 (j := 169) (by decide +kernel) rfl
  | 1, _ => exact tb3 (j := 171) (by decide +kernel) rfl
  | 2, _ => exact tb3 (j := 173) (by decide +kernel) rfl
  | 3, _ => exact tb3 (j := 175) (by decide +kernel) rfl
  | i + 4, hi => exact absurd hi (by omega)
theorem zt_J0 : zT RJ0 TJ0 4 := ⟨⟨tyJ0, tyJ0_ok⟩, nmJ0⟩
theorem mc_J5_init_d00df : zM0 yJ5_init_d00df cJ5_init_d00df 2 (none) 1 := ⟨tb2 (j := 94) (by decide +kernel) rfl, tb1 (j := 32) (by decide +kernel) rfl, by decide +kernel⟩
theorem in_J5_init_d00df : Cond.instanceMethod yJ5_init_d00df ∈ zTBL := tb2 (j := 93) (by decide +kernel) rfl
theorem gs_J5_18 : Cond.fieldLink RJ5 18 "java/lang/String" "COMPACT_STRINGS" "Z" ∈ zTBL := tb2 (j := 96) (by decide +kernel) rfl
theorem fl_J5_15 : zF2 RJ5 15 1 0 "java/lang/AbstractStringBuilder" RJ4 TJ4 4 := ⟨rfl, zi_J4, by decide, tb2 (j := 105) (by decide +kernel) rfl, Or.inl rfl⟩
theorem fl_J5_22 : zF2 RJ5 22 1 1 "java/lang/AbstractStringBuilder" RJ4 TJ4 4 := ⟨rfl, zi_J4, by decide, tb2 (j := 106) (by decide +kernel) rfl, Or.inl rfl⟩
theorem mc_J2_newBytesFor_77867 : zM0 yJ2_newBytesFor_77867 cJ2_newBytesFor_77867 1 (some (FieldType.array FieldType.byte)) 1 := ⟨tb2 (j := 100) (by decide +kernel) rfl, tb1 (j := 35) (by decide +kernel) rfl, by decide +kernel⟩
theorem st_J2_newBytesFor_77867 : Cond.static yJ2_newBytesFor_77867 ∈ zTBL := tb2 (j := 99) (by decide +kernel) rfl
theorem ml_J5_26 : zM RJ5 26 yJ2_newBytesFor_77867 cJ2_newBytesFor_77867 1 (some (FieldType.array FieldType.byte)) 1 := ⟨mc_J2_newBytesFor_77867, tb2 (j := 98) (by decide +kernel) rfl⟩
theorem mc_J5_append_3fe6f : zM0 yJ5_append_3fe6f cJ5_append_3fe6f 2 (some (FieldType.object "java/lang/AbstractStringBuilder")) 1 := ⟨tb2 (j := 129) (by decide +kernel) rfl, tb1 (j := 32) (by decide +kernel) rfl, by decide +kernel⟩
theorem in_J5_append_3fe6f : Cond.instanceMethod yJ5_append_3fe6f ∈ zTBL := tb2 (j := 128) (by decide +kernel) rfl
theorem fl_J5_79 : zF2 RJ5 79 1 3 "java/lang/AbstractStringBuilder" RJ4 TJ4 4 := ⟨rfl, zi_J4, by decide, tb2 (j := 108) (by decide +kernel) rfl, Or.inl rfl⟩
theorem mc_J5_ensureCapacityInternal_d00df : zM0 yJ5_ensureCapacityInternal_d00df cJ5_ensureCapacityInternal_d00df 3 (none) 1 := ⟨tb2 (j := 133) (by decide +kernel) rfl, tb1 (j := 32) (by decide +kernel) rfl, by decide +kernel⟩
theorem in_J5_ensureCapacityInternal_d00df : Cond.instanceMethod yJ5_ensureCapacityInternal_d00df ∈ zTBL := tb2 (j := 132) (by decide +kernel) rfl
theorem ml_J5_100 : zM RJ5 100 yJ5_ensureCapacityInternal_d00df cJ5_ensureCapacityInternal_d00df 3 (none) 1 := ⟨mc_J5_ensureCapacityInternal_d00df, tb2 (j := 130) (by decide +kernel) rfl⟩
theorem mc_J5_isLatin1_aae02 : zM0 yJ5_isLatin1_aae02 cJ5_isLatin1_aae02 1 (some FieldType.boolean) 0 := ⟨tb2 (j := 167) (by decide +kernel) rfl, tb1 (j := 32) (by decide +kernel) rfl, by decide +kernel⟩
theorem in_J5_isLatin1_aae02 : Cond.instanceMethod yJ5_isLatin1_aae02 ∈ zTBL := tb2 (j := 164) (by decide +kernel) rfl
theorem se_J5_isLatin1_aae02 : Cond.selects RJ4 yJ5_isLatin1_aae02 yJ5_isLatin1_aae02 ∈ zTBL := tb2 (j := 166) (by decide +kernel) rfl
theorem ml_J5_83 : zM RJ5 83 yJ5_isLatin1_aae02 cJ5_isLatin1_aae02 1 (some FieldType.boolean) 0 := ⟨mc_J5_isLatin1_aae02, tb2 (j := 163) (by decide +kernel) rfl⟩
theorem mc_J1_canEncode_fc78d : zM0 yJ1_canEncode_fc78d cJ1_canEncode_fc78d 1 (some FieldType.boolean) 1 := ⟨tb2 (j := 170) (by decide +kernel) rfl, tb1 (j := 36) (by decide +kernel) rfl, by decide +kernel⟩
theorem st_J1_canEncode_fc78d : Cond.static yJ1_canEncode_fc78d ∈ zTBL := tb2 (j := 169) (by decide +kernel) rfl
theorem ml_J5_191 : zM RJ5 191 yJ1_canEncode_fc78d cJ1_canEncode_fc78d 1 (some FieldType.boolean) 1 := ⟨mc_J1_canEncode_fc78d, tb2 (j := 168) (by decide +kernel) rfl⟩
theorem mc_J5_inflate_da8c8 : zM0 yJ5_inflate_da8c8 cJ5_inflate_da8c8 2 (none) 0 := ⟨tb2 (j := 174) (by decide +kernel) rfl, tb1 (j := 32) (by decide +kernel) rfl, by decide +kernel⟩
theorem in_J5_inflate_da8c8 : Cond.instanceMethod yJ5_inflate_da8c8 ∈ zTBL := tb2 (j := 173) (by decide +kernel) rfl
theorem ml_J5_195 : zM RJ5 195 yJ5_inflate_da8c8 cJ5_inflate_da8c8 2 (none) 0 := ⟨mc_J5_inflate_da8c8, tb2 (j := 171) (by decide +kernel) rfl⟩
theorem mc_J2_putCharSB_b72d1 : zM0 yJ2_putCharSB_b72d1 cJ2_putCharSB_b72d1 3 (none) 3 := ⟨tb2 (j := 206) (by decide +kernel) rfl, tb1 (j := 35) (by decide +kernel) rfl, by decide +kernel⟩
theorem st_J2_putCharSB_b72d1 : Cond.static yJ2_putCharSB_b72d1 ∈ zTBL := tb2 (j := 205) (by decide +kernel) rfl
theorem ml_J5_197 : zM RJ5 197 yJ2_putCharSB_b72d1 cJ2_putCharSB_b72d1 3 (none) 3 := ⟨mc_J2_putCharSB_b72d1, tb2 (j := 204) (by decide +kernel) rfl⟩
theorem mc_J5_newCapacity_0f7a4 : zM0 yJ5_newCapacity_0f7a4 cJ5_newCapacity_0f7a4 6 (some FieldType.int) 1 := ⟨tb2 (j := 137) (by decide +kernel) rfl, tb1 (j := 32) (by decide +kernel) rfl, by decide +kernel⟩
theorem in_J5_newCapacity_0f7a4 : Cond.instanceMethod yJ5_newCapacity_0f7a4 ∈ zTBL := tb2 (j := 136) (by decide +kernel) rfl
theorem ml_J5_104 : zM RJ5 104 yJ5_newCapacity_0f7a4 cJ5_newCapacity_0f7a4 6 (some FieldType.int) 1 := ⟨mc_J5_newCapacity_0f7a4, tb2 (j := 134) (by decide +kernel) rfl⟩
theorem mc_J7_copyOf_9075b : zM0 yJ7_copyOf_9075b cJ7_copyOf_9075b 3 (some (FieldType.array FieldType.byte)) 2 := ⟨tb2 (j := 151) (by decide +kernel) rfl, tb1 (j := 20) (by decide +kernel) rfl, by decide +kernel⟩
theorem st_J7_copyOf_9075b : Cond.static yJ7_copyOf_9075b ∈ zTBL := tb2 (j := 150) (by decide +kernel) rfl
theorem ml_J5_108 : zM RJ5 108 yJ7_copyOf_9075b cJ7_copyOf_9075b 3 (some (FieldType.array FieldType.byte)) 2 := ⟨mc_J7_copyOf_9075b, tb2 (j := 149) (by decide +kernel) rfl⟩
theorem mc_J5_getValue_6d5f1 : zM0 yJ5_getValue_6d5f1 cJ5_getValue_6d5f1 1 (some (FieldType.array FieldType.byte)) 0 := ⟨tb2 (j := 233) (by decide +kernel) rfl, tb1 (j := 32) (by decide +kernel) rfl, by decide +kernel⟩
theorem in_J5_getValue_6d5f1 : Cond.instanceMethod yJ5_getValue_6d5f1 ∈ zTBL := tb2 (j := 230) (by decide +kernel) rfl
theorem se_J5_getValue_6d5f1 : Cond.selects RJ4 yJ5_getValue_6d5f1 yJ5_getValue_6d5f1 ∈ zTBL := tb2 (j := 232) (by decide +kernel) rfl
theorem mc_J5_length_8abf5 : zM0 yJ5_length_8abf5 cJ5_length_8abf5 1 (some FieldType.int) 0 := ⟨tb3 (j := 1) (by decide +kernel) rfl, tb1 (j := 32) (by decide +kernel) rfl, by decide +kernel⟩
theorem in_J5_length_8abf5 : Cond.instanceMethod yJ5_length_8abf5 ∈ zTBL := tb2 (j := 235) (by decide +kernel) rfl
theorem mc_J0_init_db425 : zM0 yJ0_init_db425 cJ0_init_db425 5 (none) 2 := ⟨tb2 (j := 227) (by decide +kernel) rfl, tb1 (j := 34) (by decide +kernel) rfl, by decide +kernel⟩
theorem in_J0_init_db425 : Cond.instanceMethod yJ0_init_db425 ∈ zTBL := tb2 (j := 226) (by decide +kernel) rfl
theorem ml_J0_552 : zM RJ0 552 yJ5_getValue_6d5f1 cJ5_getValue_6d5f1 1 (some (FieldType.array FieldType.byte)) 0 := ⟨mc_J5_getValue_6d5f1, tb2 (j := 229) (by decide +kernel) rfl⟩
theorem ml_J0_549 : zM RJ0 549 yJ5_length_8abf5 cJ5_length_8abf5 1 (some FieldType.int) 0 := ⟨mc_J5_length_8abf5, tb2 (j := 234) (by decide +kernel) rfl⟩
theorem ml_J0_1047 : zM RJ0 1047 yJ5_isLatin1_aae02 cJ5_isLatin1_aae02 1 (some FieldType.boolean) 0 := ⟨mc_J5_isLatin1_aae02, tb3 (j := 2) (by decide +kernel) rfl⟩
theorem fl_J0_15 : zF2 RJ0 15 0 1 "java/lang/String" RJ0 TJ0 4 := ⟨rfl, zi_J0, by decide, tb3 (j := 168) (by decide +kernel) rfl, Or.inl rfl⟩
theorem fk_J0_15 : Cond.fieldLink RJ0 15 RJ0 (TJ0 1).2.1 (TJ0 1).2.2.1 ∈ zTBL := tb3 (j := 168) (by decide +kernel) rfl
theorem ff_J0_15 : zF RJ0 15 0 1 RJ0 TJ0 4 := ⟨rfl, zi_J0, by decide, rfl, Or.inl (tb3 (j := 168) (by decide +kernel) rfl)⟩
theorem mc_J7_copyOfRange_39247 : zM0 yJ7_copyOfRange_39247 cJ7_copyOfRange_39247 3 (some (FieldType.array FieldType.byte)) 3 := ⟨tb3 (j := 5) (by decide +kernel) rfl, tb1 (j := 20) (by decide +kernel) rfl, by decide +kernel⟩
theorem st_J7_copyOfRange_39247 : Cond.static yJ7_copyOfRange_39247 ∈ zTBL := tb3 (j := 4) (by decide +kernel) rfl
theorem ml_J0_54 : zM RJ0 54 yJ7_copyOfRange_39247 cJ7_copyOfRange_39247 3 (some (FieldType.array FieldType.byte)) 3 := ⟨mc_J7_copyOfRange_39247, tb3 (j := 3) (by decide +kernel) rfl⟩
theorem fl_J0_9 : zF2 RJ0 9 0 0 "java/lang/String" RJ0 TJ0 4 := ⟨rfl, zi_J0, by decide, tb3 (j := 167) (by decide +kernel) rfl, Or.inl rfl⟩
theorem fk_J0_9 : Cond.fieldLink RJ0 9 RJ0 (TJ0 0).2.1 (TJ0 0).2.2.1 ∈ zTBL := tb3 (j := 167) (by decide +kernel) rfl
theorem ff_J0_9 : zF RJ0 9 0 0 RJ0 TJ0 4 := ⟨rfl, zi_J0, by decide, rfl, Or.inl (tb3 (j := 167) (by decide +kernel) rfl)⟩
theorem gs_J0_38 : Cond.fieldLink RJ0 38 "java/lang/String" "COMPACT_STRINGS" "Z" ∈ zTBL := tb3 (j := 112) (by decide +kernel) rfl
theorem fl_J0_1048 : zF2 RJ0 1048 1 2 "java/lang/AbstractStringBuilder" RJ4 TJ4 4 := ⟨rfl, zi_J4, by decide, tb2 (j := 107) (by decide +kernel) rfl, Or.inl rfl⟩
theorem mc_J2_compress_39247 : zM0 yJ2_compress_39247 cJ2_compress_39247 6 (some (FieldType.array FieldType.byte)) 3 := ⟨tb3 (j := 156) (by decide +kernel) rfl, tb1 (j := 35) (by decide +kernel) rfl, by decide +kernel⟩
theorem st_J2_compress_39247 : Cond.static yJ2_compress_39247 ∈ zTBL := tb3 (j := 155) (by decide +kernel) rfl
theorem ml_J0_1051 : zM RJ0 1051 yJ2_compress_39247 cJ2_compress_39247 6 (some (FieldType.array FieldType.byte)) 3 := ⟨mc_J2_compress_39247, tb3 (j := 154) (by decide +kernel) rfl⟩
theorem mc_J2_coderFromArrayLen_85cad : zM0 yJ2_coderFromArrayLen_85cad cJ2_coderFromArrayLen_85cad 2 (some FieldType.byte) 2 := ⟨tb3 (j := 166) (by decide +kernel) rfl, tb1 (j := 35) (by decide +kernel) rfl, by decide +kernel⟩
theorem st_J2_coderFromArrayLen_85cad : Cond.static yJ2_coderFromArrayLen_85cad ∈ zTBL := tb3 (j := 165) (by decide +kernel) rfl
theorem ml_J0_47 : zM RJ0 47 yJ2_coderFromArrayLen_85cad cJ2_coderFromArrayLen_85cad 2 (some FieldType.byte) 2 := ⟨mc_J2_coderFromArrayLen_85cad, tb3 (j := 164) (by decide +kernel) rfl⟩
theorem mc_J0_init_81219 : zM0 yJ0_init_81219 cJ0_init_81219 2 (none) 1 := ⟨tb2 (j := 224) (by decide +kernel) rfl, tb1 (j := 34) (by decide +kernel) rfl, by decide +kernel⟩
theorem in_J0_init_81219 : Cond.instanceMethod yJ0_init_81219 ∈ zTBL := tb2 (j := 223) (by decide +kernel) rfl
theorem ml_J0_489 : zM RJ0 489 yJ0_init_db425 cJ0_init_db425 5 (none) 2 := ⟨mc_J0_init_db425, tb2 (j := 225) (by decide +kernel) rfl⟩
theorem mc_J0_coder_7d493 : zM0 yJ0_coder_7d493 cJ0_coder_7d493 1 (some FieldType.byte) 0 := ⟨tb3 (j := 111) (by decide +kernel) rfl, tb1 (j := 34) (by decide +kernel) rfl, by decide +kernel⟩
theorem in_J0_coder_7d493 : Cond.instanceMethod yJ0_coder_7d493 ∈ zTBL := tb3 (j := 109) (by decide +kernel) rfl
theorem se_J0_coder_7d493 : Cond.selects RJ0 yJ0_coder_7d493 yJ0_coder_7d493 ∈ zTBL := tb3 (j := 110) (by decide +kernel) rfl
theorem ml_J0_335 : zM RJ0 335 yJ0_coder_7d493 cJ0_coder_7d493 1 (some FieldType.byte) 0 := ⟨mc_J0_coder_7d493, tb3 (j := 108) (by decide +kernel) rfl⟩
theorem ml_J4_1 : zM RJ4 1 yJ5_init_d00df cJ5_init_d00df 2 (none) 1 := ⟨mc_J5_init_d00df, tb2 (j := 92) (by decide +kernel) rfl⟩
theorem ml_J4_50 : zM RJ4 50 yJ5_append_3fe6f cJ5_append_3fe6f 2 (some (FieldType.object "java/lang/AbstractStringBuilder")) 1 := ⟨mc_J5_append_3fe6f, tb2 (j := 127) (by decide +kernel) rfl⟩
theorem ms_J4_50 : zMS RJ4 50 yJ5_append_3fe6f cJ5_append_3fe6f 2 (some (FieldType.object "java/lang/AbstractStringBuilder")) 1 := ⟨mc_J5_append_3fe6f.1, mc_J5_append_3fe6f.2.1, tb2 (j := 127) (by decide +kernel) rfl, tb7 (j := 163) (by decide +kernel) rfl, tb2 (j := 117) (by decide +kernel) rfl, in_J5_append_3fe6f, by decide, by decide +kernel⟩
theorem ml_J4_137 : zM RJ4 137 yJ0_init_81219 cJ0_init_81219 2 (none) 1 := ⟨mc_J0_init_81219, tb2 (j := 222) (by decide +kernel) rfl⟩
theorem mc_Jxa1e45_init_da8c8 : zM0 yJxa1e45_init_da8c8 cJxa1e45_init_da8c8 1 (none) 0 := ⟨tb5 (j := 75) (by decide +kernel) rfl, tb1 (j := 8) (by decide +kernel) rfl, by decide +kernel⟩
theorem in_Jxa1e45_init_da8c8 : Cond.instanceMethod yJxa1e45_init_da8c8 ∈ zTBL := tb5 (j := 74) (by decide +kernel) rfl
theorem mc_Jxc12de_init_da8c8 : zM0 yJxc12de_init_da8c8 cJxc12de_init_da8c8 1 (none) 0 := ⟨tb5 (j := 72) (by decide +kernel) rfl, tb1 (j := 9) (by decide +kernel) rfl, by decide +kernel⟩
theorem in_Jxc12de_init_da8c8 : Cond.instanceMethod yJxc12de_init_da8c8 ∈ zTBL := tb5 (j := 71) (by decide +kernel) rfl
theorem ml_Jxc12de_1 : zM RJxc12de 1 yJxa1e45_init_da8c8 cJxa1e45_init_da8c8 1 (none) 0 := ⟨mc_Jxa1e45_init_da8c8, tb5 (j := 73) (by decide +kernel) rfl⟩
theorem fl_Jxc12de_7 : zF2 RJxc12de 7 3 0 "java/util/AbstractList" RJx4a65c TJx4a65c 3 := ⟨rfl, zi_Jx4a65c, by decide, tb5 (j := 83) (by decide +kernel) rfl, Or.inl rfl⟩
theorem ml_Jx4a65c_1 : zM RJx4a65c 1 yJxc12de_init_da8c8 cJxc12de_init_da8c8 1 (none) 0 := ⟨mc_Jxc12de_init_da8c8, tb5 (j := 70) (by decide +kernel) rfl⟩
theorem gs_Jx4a65c_39 : Cond.fieldLink RJx4a65c 39 "java/util/ArrayList" "DEFAULTCAPACITY_EMPTY_ELEMENTDATA" "[Ljava/lang/Object;" ∈ zTBL := tb5 (j := 77) (by decide +kernel) rfl
theorem fl_Jx4a65c_9 : zF2 RJx4a65c 9 3 1 "java/util/ArrayList" RJx4a65c TJx4a65c 3 := ⟨rfl, zi_Jx4a65c, by decide, tb5 (j := 79) (by decide +kernel) rfl, Or.inl rfl⟩
theorem fl_Jx4a65c_63 : zF2 RJx4a65c 63 3 0 "java/util/ArrayList" RJx4a65c TJx4a65c 3 := ⟨rfl, zi_Jx4a65c, by decide, tb5 (j := 86) (by decide +kernel) rfl, Or.inr (tb5 (j := 85) (by decide +kernel) rfl)⟩
theorem fl_Jx4a65c_48 : zF2 RJx4a65c 48 3 2 "java/util/ArrayList" RJx4a65c TJx4a65c 3 := ⟨rfl, zi_Jx4a65c, by decide, tb5 (j := 82) (by decide +kernel) rfl, Or.inl rfl⟩
theorem mc_Jx4a65c_add_72be8 : zM0 yJx4a65c_add_72be8 cJx4a65c_add_72be8 4 (none) 3 := ⟨tb5 (j := 197) (by decide +kernel) rfl, tb1 (j := 10) (by decide +kernel) rfl, by decide +kernel⟩
theorem in_Jx4a65c_add_72be8 : Cond.instanceMethod yJx4a65c_add_72be8 ∈ zTBL := tb5 (j := 196) (by decide +kernel) rfl
theorem se_Jx4a65c_add_72be8 : Cond.selects RJx4a65c yJx4a65c_add_72be8 yJx4a65c_add_72be8 ∈ zTBL := tbp (j := 20) (by decide +kernel) rfl
theorem ml_Jx4a65c_131 : zM RJx4a65c 131 yJx4a65c_add_72be8 cJx4a65c_add_72be8 4 (none) 3 := ⟨mc_Jx4a65c_add_72be8, tb5 (j := 194) (by decide +kernel) rfl⟩
theorem mc_Jx4a65c_grow_d5877 : zM0 yJx4a65c_grow_d5877 cJx4a65c_grow_d5877 1 (some (FieldType.array (FieldType.object "java/lang/Object"))) 0 := ⟨tb5 (j := 201) (by decide +kernel) rfl, tb1 (j := 10) (by decide +kernel) rfl, by decide +kernel⟩
theorem in_Jx4a65c_grow_d5877 : Cond.instanceMethod yJx4a65c_grow_d5877 ∈ zTBL := tb5 (j := 200) (by decide +kernel) rfl
theorem se_Jx4a65c_grow_d5877 : Cond.selects RJx4a65c yJx4a65c_grow_d5877 yJx4a65c_grow_d5877 ∈ zTBL := tbp (j := 21) (by decide +kernel) rfl
theorem ml_Jx4a65c_129 : zM RJx4a65c 129 yJx4a65c_grow_d5877 cJx4a65c_grow_d5877 1 (some (FieldType.array (FieldType.object "java/lang/Object"))) 0 := ⟨mc_Jx4a65c_grow_d5877, tb5 (j := 198) (by decide +kernel) rfl⟩
theorem mc_Jx4a65c_elementData_915e3 : zM0 yJx4a65c_elementData_915e3 cJx4a65c_elementData_915e3 2 (some (FieldType.object "java/lang/Object")) 1 := ⟨tb6 (j := 64) (by decide +kernel) rfl, tb1 (j := 10) (by decide +kernel) rfl, by decide +kernel⟩
theorem in_Jx4a65c_elementData_915e3 : Cond.instanceMethod yJx4a65c_elementData_915e3 ∈ zTBL := tb6 (j := 62) (by decide +kernel) rfl
theorem se_Jx4a65c_elementData_915e3 : Cond.selects RJx4a65c yJx4a65c_elementData_915e3 yJx4a65c_elementData_915e3 ∈ zTBL := tb6 (j := 63) (by decide +kernel) rfl
theorem mc_J15_checkIndex_7cf53 : zM0 yJ15_checkIndex_7cf53 cJ15_checkIndex_7cf53 2 (some FieldType.int) 2 := ⟨tb6 (j := 59) (by decide +kernel) rfl, tb1 (j := 25) (by decide +kernel) rfl, by decide +kernel⟩
theorem st_J15_checkIndex_7cf53 : Cond.static yJ15_checkIndex_7cf53 ∈ zTBL := tb6 (j := 58) (by decide +kernel) rfl
theorem ml_Jx4a65c_118 : zM RJx4a65c 118 yJ15_checkIndex_7cf53 cJ15_checkIndex_7cf53 2 (some FieldType.int) 2 := ⟨mc_J15_checkIndex_7cf53, tb6 (j := 57) (by decide +kernel) rfl⟩
theorem ml_Jx4a65c_123 : zM RJx4a65c 123 yJx4a65c_elementData_915e3 cJx4a65c_elementData_915e3 2 (some (FieldType.object "java/lang/Object")) 1 := ⟨mc_Jx4a65c_elementData_915e3, tb6 (j := 61) (by decide +kernel) rfl⟩
theorem mc_Jx4a65c_grow_92f84 : zM0 yJx4a65c_grow_92f84 cJx4a65c_grow_92f84 4 (some (FieldType.array (FieldType.object "java/lang/Object"))) 1 := ⟨tb5 (j := 205) (by decide +kernel) rfl, tb1 (j := 10) (by decide +kernel) rfl, by decide +kernel⟩
theorem in_Jx4a65c_grow_92f84 : Cond.instanceMethod yJx4a65c_grow_92f84 ∈ zTBL := tb5 (j := 204) (by decide +kernel) rfl
theorem se_Jx4a65c_grow_92f84 : Cond.selects RJx4a65c yJx4a65c_grow_92f84 yJx4a65c_grow_92f84 ∈ zTBL := tbp (j := 22) (by decide +kernel) rfl
theorem ml_Jx4a65c_69 : zM RJx4a65c 69 yJx4a65c_grow_92f84 cJx4a65c_grow_92f84 4 (some (FieldType.array (FieldType.object "java/lang/Object"))) 1 := ⟨mc_Jx4a65c_grow_92f84, tb5 (j := 202) (by decide +kernel) rfl⟩
theorem mc_J8_newLength_cabcc : zM0 yJ8_newLength_cabcc cJ8_newLength_cabcc 4 (some FieldType.int) 3 := ⟨tb2 (j := 140) (by decide +kernel) rfl, tb1 (j := 18) (by decide +kernel) rfl, by decide +kernel⟩
theorem st_J8_newLength_cabcc : Cond.static yJ8_newLength_cabcc ∈ zTBL := tb2 (j := 139) (by decide +kernel) rfl
theorem ml_Jx4a65c_73 : zM RJx4a65c 73 yJ8_newLength_cabcc cJ8_newLength_cabcc 4 (some FieldType.int) 3 := ⟨mc_J8_newLength_cabcc, tb5 (j := 206) (by decide +kernel) rfl⟩
theorem mc_J7_copyOf_1904c : zM0 yJ7_copyOf_1904c cJ7_copyOf_1904c 2 (some (FieldType.array (FieldType.object "java/lang/Object"))) 2 := ⟨tb5 (j := 209) (by decide +kernel) rfl, tb1 (j := 20) (by decide +kernel) rfl, by decide +kernel⟩
theorem st_J7_copyOf_1904c : Cond.static yJ7_copyOf_1904c ∈ zTBL := tb5 (j := 208) (by decide +kernel) rfl
theorem ml_Jx4a65c_66 : zM RJx4a65c 66 yJ7_copyOf_1904c cJ7_copyOf_1904c 2 (some (FieldType.array (FieldType.object "java/lang/Object"))) 2 := ⟨mc_J7_copyOf_1904c, tb5 (j := 207) (by decide +kernel) rfl⟩
theorem ml_Jx4a65c_79 : zM RJx4a65c 79 yJ9_max_7cf53 cJ9_max_7cf53 2 (some FieldType.int) 2 := ⟨mc_J9_max_7cf53, tb6 (j := 0) (by decide +kernel) rfl⟩
theorem mc_Jx35411_init_45d68 : zM0 yJx35411_init_45d68 cJx35411_init_45d68 2 (none) 1 := ⟨tb6 (j := 85) (by decide +kernel) rfl, tb1 (j := 29) (by decide +kernel) rfl, by decide +kernel⟩
theorem in_Jx35411_init_45d68 : Cond.instanceMethod yJx35411_init_45d68 ∈ zTBL := tb6 (j := 84) (by decide +kernel) rfl
theorem ml_Jx4a65c_269 : zM RJx4a65c 269 yJx35411_init_45d68 cJx35411_init_45d68 2 (none) 1 := ⟨mc_Jx35411_init_45d68, tb6 (j := 83) (by decide +kernel) rfl⟩
theorem fl_Jx35411_1 : zF2 RJx35411 1 2 3 "java/util/ArrayList$Itr" RJx35411 TJx35411 4 := ⟨rfl, zi_Jx35411, by decide, tb6 (j := 90) (by decide +kernel) rfl, Or.inl rfl⟩
theorem fk_Jx35411_1 : Cond.fieldLink RJx35411 1 RJx35411 (TJx35411 3).2.1 (TJx35411 3).2.2.1 ∈ zTBL := tb6 (j := 90) (by decide +kernel) rfl
theorem ff_Jx35411_1 : zF RJx35411 1 2 3 RJx35411 TJx35411 4 := ⟨rfl, zi_Jx35411, by decide, rfl, Or.inl (tb6 (j := 90) (by decide +kernel) rfl)⟩
theorem fl_Jx35411_13 : zF2 RJx35411 13 2 1 "java/util/ArrayList$Itr" RJx35411 TJx35411 4 := ⟨rfl, zi_Jx35411, by decide, tb6 (j := 88) (by decide +kernel) rfl, Or.inl rfl⟩
theorem fl_Jx35411_17 : zF2 RJx35411 17 3 0 "java/util/ArrayList" RJx4a65c TJx4a65c 3 := ⟨rfl, zi_Jx4a65c, by decide, tb5 (j := 84) (by decide +kernel) rfl, Or.inr (tb5 (j := 85) (by decide +kernel) rfl)⟩
theorem fl_Jx35411_22 : zF2 RJx35411 22 2 2 "java/util/ArrayList$Itr" RJx35411 TJx35411 4 := ⟨rfl, zi_Jx35411, by decide, tb6 (j := 89) (by decide +kernel) rfl, Or.inl rfl⟩
theorem mc_J7_checkLength_df160 : zM0 yJ7_checkLength_df160 cJ7_checkLength_df160 2 (none) 2 := ⟨tb3 (j := 11) (by decide +kernel) rfl, tb1 (j := 20) (by decide +kernel) rfl, by decide +kernel⟩
theorem st_J7_checkLength_df160 : Cond.static yJ7_checkLength_df160 ∈ zTBL := tb3 (j := 10) (by decide +kernel) rfl
theorem ml_J7_47 : zM RJ7 47 yJ4_init_da8c8 cJ4_init_da8c8 1 (none) 0 := ⟨mc_J4_init_da8c8, tb3 (j := 54) (by decide +kernel) rfl⟩
theorem mc_J4_append_bf812 : zM0 yJ4_append_bf812 cJ4_append_bf812 2 (some (FieldType.object "java/lang/StringBuilder")) 1 := ⟨tb3 (j := 58) (by decide +kernel) rfl, tb1 (j := 33) (by decide +kernel) rfl, by decide +kernel⟩
theorem in_J4_append_bf812 : Cond.instanceMethod yJ4_append_bf812 ∈ zTBL := tb3 (j := 56) (by decide +kernel) rfl
theorem se_J4_append_bf812 : Cond.selects RJ4 yJ4_append_bf812 yJ4_append_bf812 ∈ zTBL := tb3 (j := 57) (by decide +kernel) rfl
theorem ml_J7_54 : zM RJ7 54 yJ4_append_bf812 cJ4_append_bf812 2 (some (FieldType.object "java/lang/StringBuilder")) 1 := ⟨mc_J4_append_bf812, tb3 (j := 55) (by decide +kernel) rfl⟩
theorem mc_J4_append_15ec4 : zM0 yJ4_append_15ec4 cJ4_append_15ec4 2 (some (FieldType.object "java/lang/StringBuilder")) 1 := ⟨tb3 (j := 93) (by decide +kernel) rfl, tb1 (j := 33) (by decide +kernel) rfl, by decide +kernel⟩
theorem in_J4_append_15ec4 : Cond.instanceMethod yJ4_append_15ec4 ∈ zTBL := tb3 (j := 91) (by decide +kernel) rfl
theorem se_J4_append_15ec4 : Cond.selects RJ4 yJ4_append_15ec4 yJ4_append_15ec4 ∈ zTBL := tb3 (j := 92) (by decide +kernel) rfl
theorem ml_J7_50 : zM RJ7 50 yJ4_append_15ec4 cJ4_append_15ec4 2 (some (FieldType.object "java/lang/StringBuilder")) 1 := ⟨mc_J4_append_15ec4, tb3 (j := 90) (by decide +kernel) rfl⟩
theorem ml_J7_61 : zM RJ7 61 yJ4_toString_0e30d cJ4_toString_0e30d 1 (some (FieldType.object "java/lang/String")) 0 := ⟨mc_J4_toString_0e30d, tb3 (j := 128) (by decide +kernel) rfl⟩
theorem mc_J7_copyOfRangeByte_39247 : zM0 yJ7_copyOfRangeByte_39247 cJ7_copyOfRangeByte_39247 5 (some (FieldType.array FieldType.byte)) 3 := ⟨tb3 (j := 8) (by decide +kernel) rfl, tb1 (j := 20) (by decide +kernel) rfl, by decide +kernel⟩
theorem st_J7_copyOfRangeByte_39247 : Cond.static yJ7_copyOfRangeByte_39247 ∈ zTBL := tb3 (j := 7) (by decide +kernel) rfl
theorem ml_J7_339 : zM RJ7 339 yJ7_copyOfRangeByte_39247 cJ7_copyOfRangeByte_39247 5 (some (FieldType.array FieldType.byte)) 3 := ⟨mc_J7_copyOfRangeByte_39247, tb3 (j := 6) (by decide +kernel) rfl⟩
theorem ml_J7_343 : zM RJ7 343 yJ7_checkLength_df160 cJ7_checkLength_df160 2 (none) 2 := ⟨mc_J7_checkLength_df160, tb3 (j := 9) (by decide +kernel) rfl⟩
theorem mc_J9_min_7cf53 : zM0 yJ9_min_7cf53 cJ9_min_7cf53 2 (some FieldType.int) 2 := ⟨tb2 (j := 161) (by decide +kernel) rfl, tb1 (j := 19) (by decide +kernel) rfl, by decide +kernel⟩
theorem st_J9_min_7cf53 : Cond.static yJ9_min_7cf53 ∈ zTBL := tb2 (j := 160) (by decide +kernel) rfl
theorem ml_J7_304 : zM RJ7 304 yJ9_min_7cf53 cJ9_min_7cf53 2 (some FieldType.int) 2 := ⟨mc_J9_min_7cf53, tb2 (j := 159) (by decide +kernel) rfl⟩
theorem mc_J3_checkIndex_8e157 : zM0 yJ3_checkIndex_8e157 cJ3_checkIndex_8e157 3 (some FieldType.int) 3 := ⟨tb2 (j := 215) (by decide +kernel) rfl, tb1 (j := 26) (by decide +kernel) rfl, by decide +kernel⟩
theorem st_J3_checkIndex_8e157 : Cond.static yJ3_checkIndex_8e157 ∈ zTBL := tb2 (j := 214) (by decide +kernel) rfl
theorem ml_J15_105 : zM RJ15 105 yJ3_checkIndex_8e157 cJ3_checkIndex_8e157 3 (some FieldType.int) 3 := ⟨mc_J3_checkIndex_8e157, tb6 (j := 60) (by decide +kernel) rfl⟩
theorem mc_Jx35411_hasNext_aae02 : zM0 yJx35411_hasNext_aae02 cJx35411_hasNext_aae02 1 (some FieldType.boolean) 0 := ⟨tb6 (j := 109) (by decide +kernel) rfl, tb1 (j := 29) (by decide +kernel) rfl, by decide +kernel⟩
theorem in_Jx35411_hasNext_aae02 : Cond.instanceMethod yJx35411_hasNext_aae02 ∈ zTBL := tb6 (j := 107) (by decide +kernel) rfl
theorem fl_Jx35411_25 : zF2 RJx35411 25 2 0 "java/util/ArrayList$Itr" RJx35411 TJx35411 4 := ⟨rfl, zi_Jx35411, by decide, tb6 (j := 87) (by decide +kernel) rfl, Or.inl rfl⟩
theorem fn_Jx35411_28 : zF RJx35411 28 3 2 RJx4a65c TJx4a65c 3 := ⟨rfl, zi_Jx4a65c, by decide, rfl, Or.inr ⟨"java/util/ArrayList", nb5 (j := 81) (by decide +kernel) rfl⟩⟩
theorem mc_Jx35411_next_0502b : zM0 yJx35411_next_0502b cJx35411_next_0502b 3 (some (FieldType.object "java/lang/Object")) 0 := ⟨tb6 (j := 118) (by decide +kernel) rfl, tb1 (j := 29) (by decide +kernel) rfl, by decide +kernel⟩
theorem in_Jx35411_next_0502b : Cond.instanceMethod yJx35411_next_0502b ∈ zTBL := tb6 (j := 116) (by decide +kernel) rfl
theorem mc_Jx35411_checkForComodification_da8c8 : zM0 yJx35411_checkForComodification_da8c8 cJx35411_checkForComodification_da8c8 1 (none) 0 := ⟨tb6 (j := 122) (by decide +kernel) rfl, tb1 (j := 29) (by decide +kernel) rfl, by decide +kernel⟩
theorem in_Jx35411_checkForComodification_da8c8 : Cond.instanceMethod yJx35411_checkForComodification_da8c8 ∈ zTBL := tb6 (j := 120) (by decide +kernel) rfl
theorem se_Jx35411_checkForComodification_da8c8 : Cond.selects RJx35411 yJx35411_checkForComodification_da8c8 yJx35411_checkForComodification_da8c8 ∈ zTBL := tb6 (j := 121) (by decide +kernel) rfl
theorem ml_Jx35411_31 : zM RJx35411 31 yJx35411_checkForComodification_da8c8 cJx35411_checkForComodification_da8c8 1 (none) 0 := ⟨mc_Jx35411_checkForComodification_da8c8, tb6 (j := 119) (by decide +kernel) rfl⟩
theorem fl_Jx35411_37 : zF2 RJx35411 37 3 1 "java/util/ArrayList" RJx4a65c TJx4a65c 3 := ⟨rfl, zi_Jx4a65c, by decide, tb5 (j := 80) (by decide +kernel) rfl, Or.inl rfl⟩
theorem mf_X12_105 : zMF RX12 105 RJx35411 zItH yJx35411_hasNext_aae02 cJx35411_hasNext_aae02 1 (some FieldType.boolean) 0 := ⟨mc_Jx35411_hasNext_aae02.1, mc_Jx35411_hasNext_aae02.2.1, tb6 (j := 101) (by decide +kernel) rfl, tb6 (j := 105) (by decide +kernel) rfl, tb6 (j := 107) (by decide +kernel) rfl, by decide, by decide, by decide +kernel⟩
theorem mf_X12_111 : zMF RX12 111 RJx35411 zItN yJx35411_next_0502b cJx35411_next_0502b 3 (some (FieldType.object "java/lang/Object")) 0 := ⟨mc_Jx35411_next_0502b.1, mc_Jx35411_next_0502b.2.1, tb6 (j := 111) (by decide +kernel) rfl, tb6 (j := 114) (by decide +kernel) rfl, tb6 (j := 116) (by decide +kernel) rfl, by decide, by decide, by decide +kernel⟩
theorem co_X5 : Cond.castable RX5 "java/lang/Object" ∈ zNL := nb7 (j := 173) (by decide +kernel) rfl
theorem co_X2 : Cond.castable RX2 "java/lang/Object" ∈ zNL := nb7 (j := 174) (by decide +kernel) rfl
theorem co_X1 : Cond.castable RX1 "java/lang/Object" ∈ zNL := nb7 (j := 175) (by decide +kernel) rfl
theorem co_X0 : Cond.castable RX0 "java/lang/Object" ∈ zNL := nb7 (j := 176) (by decide +kernel) rfl
theorem co_X4 : Cond.castable RX4 "java/lang/Object" ∈ zNL := nb7 (j := 177) (by decide +kernel) rfl
theorem co_X3 : Cond.castable RX3 "java/lang/Object" ∈ zNL := nb7 (j := 178) (by decide +kernel) rfl
theorem co_X12 : Cond.castable RX12 "java/lang/Object" ∈ zNL := nb7 (j := 179) (by decide +kernel) rfl
theorem co_Jx4a65c : Cond.castable RJx4a65c "java/lang/Object" ∈ zNL := nb7 (j := 180) (by decide +kernel) rfl
theorem co_X6 : Cond.castable RX6 "java/lang/Object" ∈ zNL := nb7 (j := 181) (by decide +kernel) rfl
theorem co_X8 : Cond.castable RX8 "java/lang/Object" ∈ zNL := nb7 (j := 184) (by decide +kernel) rfl
theorem co_X9 : Cond.castable RX9 "java/lang/Object" ∈ zNL := nb7 (j := 185) (by decide +kernel) rfl
theorem co_X10 : Cond.castable RX10 "java/lang/Object" ∈ zNL := nb7 (j := 186) (by decide +kernel) rfl
theorem co_Jx35411 : Cond.castable RJx35411 "java/lang/Object" ∈ zNL := nb7 (j := 188) (by decide +kernel) rfl
theorem co_X7 : Cond.castable RX7 "java/lang/Object" ∈ zNL := nb7 (j := 189) (by decide +kernel) rfl
theorem co_X11 : Cond.castable RX11 "java/lang/Object" ∈ zNL := nb7 (j := 190) (by decide +kernel) rfl
theorem co_J4 : Cond.castable RJ4 "java/lang/Object" ∈ zNL := nb7 (j := 191) (by decide +kernel) rfl
theorem co_J0 : Cond.castable RJ0 "java/lang/Object" ∈ zNL := nb7 (j := 192) (by decide +kernel) rfl
theorem cl_Jx4a65c_7 : Cond.classLink RJx4a65c 7 "java/lang/Object" ∈ zTBL := tb6 (j := 1) (by decide +kernel) rfl
