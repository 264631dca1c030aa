/-! words, by their places in the tables -/
theorem tin1 {j : Nat} {w : Cond} (h : tables_1_1[j]? = some w) : w ∈ lw_tbl := List.mem_append_right _ (show w ∈ tables_1 from List.mem_append_left _ (List.mem_of_getElem? h))
theorem tb1 {j : Nat} {w : Cond} (h : tables_1_1[j]? = some w) (hg : goodWord w = true) : w ∈ zTBL := List.mem_filter.mpr ⟨tin1 h, hg⟩
theorem nb1 {j : Nat} {w : Cond} (h : tables_1_1[j]? = some w) (hg : zNst w = true) : w ∈ zNL := List.mem_filter.mpr ⟨tin1 h, hg⟩
theorem tin2 {j : Nat} {w : Cond} (h : tables_1_2[j]? = some w) : w ∈ lw_tbl := List.mem_append_right _ (show w ∈ tables_1 from List.mem_append_right _ (List.mem_append_left _ (List.mem_of_getElem? h)))
theorem tb2 {j : Nat} {w : Cond} (h : tables_1_2[j]? = some w) (hg : goodWord w = true) : w ∈ zTBL := List.mem_filter.mpr ⟨tin2 h, hg⟩
theorem nb2 {j : Nat} {w : Cond} (h : tables_1_2[j]? = some w) (hg : zNst w = true) : w ∈ zNL := List.mem_filter.mpr ⟨tin2 h, hg⟩
theorem tin3 {j : Nat} {w : Cond} (h : tables_1_3[j]? = some w) : w ∈ lw_tbl := List.mem_append_right _ (show w ∈ tables_1 from List.mem_append_right _ (List.mem_append_right _ (List.mem_append_left _ (List.mem_of_getElem? h))))
theorem tb3 {j : Nat} {w : Cond} (h : tables_1_3[j]? = some w) (hg : goodWord w = true) : w ∈ zTBL := List.mem_filter.mpr ⟨tin3 h, hg⟩
theorem nb3 {j : Nat} {w : Cond} (h : tables_1_3[j]? = some w) (hg : zNst w = true) : w ∈ zNL := List.mem_filter.mpr ⟨tin3 h, hg⟩
theorem tin4 {j : Nat} {w : Cond} (h : tables_1_4[j]? = some w) : w ∈ lw_tbl := List.mem_append_right _ (show w ∈ tables_1 from List.mem_append_right _ (List.mem_append_right _ (List.mem_append_right _ (List.mem_of_getElem? h))))
theorem tb4 {j : Nat} {w : Cond} (h : tables_1_4[j]? = some w) (hg : goodWord w = true) : w ∈ zTBL := List.mem_filter.mpr ⟨tin4 h, hg⟩
theorem nb4 {j : Nat} {w : Cond} (h : tables_1_4[j]? = some w) (hg : zNst w = true) : w ∈ zNL := List.mem_filter.mpr ⟨tin4 h, hg⟩
theorem tbp {j : Nat} {w : Cond} (h : (k2_sels lw_privs)[j]? = some w) (hg : goodWord w = true) : w ∈ zTBL := List.mem_filter.mpr ⟨List.mem_append_left _ (List.mem_of_getElem? h), hg⟩
theorem zi_X0 : ∀ w ∈ u_ws RX0 TX0 9, w ∈ zTBL := by
  intro w hw
  obtain ⟨i, hi, rfl⟩ := List.mem_map.mp hw
  have hi : i < 9 := List.mem_range.mp hi
  match i, hi with
  | 0, _ => exact tb3 (j := 163) (by decide +kernel) rfl
  | 1, _ => exact tb3 (j := 165) (by decide +kernel) rfl
  | 2, _ => exact tb3 (j := 167) (by decide +kernel) rfl
  | 3, _ => exact tb3 (j := 169) (by decide +kernel) rfl
  | 4, _ => exact tb3 (j := 171) (by decide +kernel) rfl
  | 5, _ => exact tb3 (j := 173) (by decide +kernel) rfl
  | 6, _ => exact tb3 (j := 175) (by decide +kernel) rfl
  | 7, _ => exact tb3 (j := 177) (by decide +kernel) rfl
  | 8, _ => exact tb3 (j := 179) (by decide +kernel) rfl
  | i + 9, hi => exact absurd hi (by omega)
theorem zt_X0 : zT RX0 TX0 9 := ⟨⟨tyX0, tyX0_ok⟩, nmX0⟩
theorem zi_X1 : ∀ w ∈ u_ws RX1 TX1 6, w ∈ zTBL := by
  intro w hw
  obtain ⟨i, hi, rfl⟩ := List.mem_map.mp hw
  have hi : i < 6 := List.mem_range.mp hi
  match i, hi with
  | 0, _ => exact tb3 (j := 133) (by decide +kernel) rfl
  | 1, _ => exact tb3 (j := 135) (by decide +kernel) rfl
  | 2, _ => exact tb3 (j := 137) (by decide +kernel) rfl
  | 3, _ => exact tb3 (j := 139) (by decide +kernel) rfl
  | 4, _ => exact tb3 (j := 141) (by decide +kernel) rfl
  | 5, _ => exact tb3 (j := 143) (by decide +kernel) rfl
  | i + 6, hi => exact absurd hi (by omega)
theorem zt_X1 : zT RX1 TX1 6 := ⟨⟨tyX1, tyX1_ok⟩, nmX1⟩
theorem zi_X2 : ∀ w ∈ u_ws RX2 TX2 7, w ∈ zTBL := by
  intro w hw
  obtain ⟨i, hi, rfl⟩ := List.mem_map.mp hw
  have hi : i < 7 := List.mem_range.mp hi
  match i, hi with
  | 0, _ => exact tb3 (j := 100) (by decide +kernel) rfl
  | 1, _ => exact tb3 (j := 102) (by decide +kernel) rfl
  | 2, _ => exact tb3 (j := 104) (by decide +kernel) rfl
  | 3, _ => exact tb3 (j := 106) (by decide +kernel) rfl
  | 4, _ => exact tb3 (j := 108) (by decide +kernel) rfl
  | 5, _ => exact tb3 (j := 110) (by decide +kernel) rfl
  | 6, _ => exact tb3 (j := 112) (by decide +kernel) rfl
  | i + 7, hi => exact absurd hi (by omega)
theorem zt_X2 : zT RX2 TX2 7 := ⟨⟨tyX2, tyX2_ok⟩, nmX2⟩
theorem zi_X3 : ∀ w ∈ u_ws RX3 TX3 6, w ∈ zTBL := by
  intro w hw
  obtain ⟨i, hi, rfl⟩ := List.mem_map.mp hw
  have hi : i < 6 := List.mem_range.mp hi
  match i, hi with
  | 0, _ => exact tb3 (j := 233) (by decide +kernel) rfl
  | 1, _ => exact tb3 (j := 235) (by decide +kernel) rfl
  | 2, _ => exact tb3 (j := 237) (by decide +kernel) rfl
  | 3, _ => exact tb3 (j := 239) (by decide +kernel) rfl
  | 4, _ => exact tb4 (j := 1) (by decide +kernel) rfl
  | 5, _ => exact tb4 (j := 3) (by decide +kernel) rfl
  | i + 6, hi => exact absurd hi (by omega)
theorem zt_X3 : zT RX3 TX3 6 := ⟨⟨tyX3, tyX3_ok⟩, nmX3⟩
theorem zi_X4 : ∀ w ∈ u_ws RX4 TX4 7, w ∈ zTBL := by
  intro w hw
  obtain ⟨i, hi, rfl⟩ := List.mem_map.mp hw
  have hi : i < 7 := List.mem_range.mp hi
  match i, hi with
  | 0, _ => exact tb3 (j := 199) (by decide +kernel) rfl
  | 1, _ => exact tb3 (j := 201) (by decide +kernel) rfl
  | 2, _ => exact tb3 (j := 203) (by decide +kernel) rfl
  | 3, _ => exact tb3 (j := 205) (by decide +kernel) rfl
  | 4, _ => exact tb3 (j := 207) (by decide +kernel) rfl
  | 5, _ => exact tb3 (j := 209) (by decide +kernel) rfl
  | 6, _ => exact tb3 (j := 211) (by decide +kernel) rfl
  | i + 7, hi => exact absurd hi (by omega)
theorem zt_X4 : zT RX4 TX4 7 := ⟨⟨tyX4, tyX4_ok⟩, nmX4⟩
theorem zi_X5 : ∀ w ∈ u_ws RX5 TX5 9, w ∈ zTBL := by
  intro w hw
  obtain ⟨i, hi, rfl⟩ := List.mem_map.mp hw
  have hi : i < 9 := List.mem_range.mp hi
  match i, hi with
  | 0, _ => exact tb4 (j := 15) (by decide +kernel) rfl
  | 1, _ => exact tb4 (j := 17) (by decide +kernel) rfl
  | 2, _ => exact tb4 (j := 19) (by decide +kernel) rfl
  | 3, _ => exact tb4 (j := 21) (by decide +kernel) rfl
  | 4, _ => exact tb4 (j := 23) (by decide +kernel) rfl
  | 5, _ => exact tb4 (j := 25) (by decide +kernel) rfl
  | 6, _ => exact tb4 (j := 27) (by decide +kernel) rfl
  | 7, _ => exact tb4 (j := 29) (by decide +kernel) rfl
  | 8, _ => exact tb4 (j := 31) (by decide +kernel) rfl
  | i + 9, hi => exact absurd hi (by omega)
theorem zt_X5 : zT RX5 TX5 9 := ⟨⟨tyX5, tyX5_ok⟩, nmX5⟩
theorem mc_X5_init : zM0 yX5_init cX5_init 1 (none) 0 := ⟨tb3 (j := 76) (by decide +kernel) rfl, tb1 (j := 1) (by decide +kernel) rfl, by decide +kernel⟩
theorem in_X5_init : Cond.instanceMethod yX5_init ∈ zTBL := tb3 (j := 75) (by decide +kernel) rfl
theorem mc_X2_init : zM0 yX2_init cX2_init 1 (none) 0 := ⟨tb3 (j := 81) (by decide +kernel) rfl, tb1 (j := 2) (by decide +kernel) rfl, by decide +kernel⟩
theorem in_X2_init : Cond.instanceMethod yX2_init ∈ zTBL := tb3 (j := 80) (by decide +kernel) rfl
theorem ml_X5_9 : zMN RX5 9 yX2_init cX2_init 1 (none) 0 := ⟨mc_X2_init, "Doublecoat", nb3 (j := 79) (by decide +kernel) rfl⟩
theorem fl_X5_10 : zF RX5 10 7 0 RX5 TX5 9 := ⟨rfl, zi_X5, by decide, rfl, Or.inl (tb4 (j := 6) (by decide +kernel) rfl)⟩
theorem mc_X1_init : zM0 yX1_init cX1_init 1 (none) 0 := ⟨tb3 (j := 119) (by decide +kernel) rfl, tb1 (j := 3) (by decide +kernel) rfl, by decide +kernel⟩
theorem in_X1_init : Cond.instanceMethod yX1_init ∈ zTBL := tb3 (j := 118) (by decide +kernel) rfl
theorem ml_X5_18 : zMN RX5 18 yX1_init cX1_init 1 (none) 0 := ⟨mc_X1_init, "Doublecoat", nb3 (j := 117) (by decide +kernel) rfl⟩
theorem fl_X5_19 : zF RX5 19 7 1 RX5 TX5 9 := ⟨rfl, zi_X5, by decide, rfl, Or.inl (tb4 (j := 7) (by decide +kernel) rfl)⟩
theorem mc_X0_init : zM0 yX0_init cX0_init 1 (none) 0 := ⟨tb3 (j := 149) (by decide +kernel) rfl, tb1 (j := 4) (by decide +kernel) rfl, by decide +kernel⟩
theorem in_X0_init : Cond.instanceMethod yX0_init ∈ zTBL := tb3 (j := 148) (by decide +kernel) rfl
theorem ml_X5_25 : zMN RX5 25 yX0_init cX0_init 1 (none) 0 := ⟨mc_X0_init, "Doublecoat", nb3 (j := 147) (by decide +kernel) rfl⟩
theorem fl_X5_26 : zF RX5 26 7 2 RX5 TX5 9 := ⟨rfl, zi_X5, by decide, rfl, Or.inl (tb4 (j := 8) (by decide +kernel) rfl)⟩
theorem mc_X4_init : zM0 yX4_init cX4_init 1 (none) 0 := ⟨tb3 (j := 185) (by decide +kernel) rfl, tb1 (j := 5) (by decide +kernel) rfl, by decide +kernel⟩
theorem in_X4_init : Cond.instanceMethod yX4_init ∈ zTBL := tb3 (j := 184) (by decide +kernel) rfl
theorem ml_X5_32 : zMN RX5 32 yX4_init cX4_init 1 (none) 0 := ⟨mc_X4_init, "Doublecoat", nb3 (j := 183) (by decide +kernel) rfl⟩
theorem fl_X5_33 : zF RX5 33 7 3 RX5 TX5 9 := ⟨rfl, zi_X5, by decide, rfl, Or.inl (tb4 (j := 9) (by decide +kernel) rfl)⟩
theorem mc_X3_init : zM0 yX3_init cX3_init 1 (none) 0 := ⟨tb3 (j := 218) (by decide +kernel) rfl, tb1 (j := 6) (by decide +kernel) rfl, by decide +kernel⟩
theorem in_X3_init : Cond.instanceMethod yX3_init ∈ zTBL := tb3 (j := 217) (by decide +kernel) rfl
theorem ml_X5_39 : zMN RX5 39 yX3_init cX3_init 1 (none) 0 := ⟨mc_X3_init, "Doublecoat", nb3 (j := 216) (by decide +kernel) rfl⟩
theorem fl_X5_40 : zF RX5 40 7 4 RX5 TX5 9 := ⟨rfl, zi_X5, by decide, rfl, Or.inl (tb4 (j := 10) (by decide +kernel) rfl)⟩
theorem mc_X5_part : zM0 yX5_part cX5_part 4 (some FieldType.int) 3 := ⟨tb4 (j := 41) (by decide +kernel) rfl, tb1 (j := 1) (by decide +kernel) rfl, by decide +kernel⟩
theorem in_X5_part : Cond.instanceMethod yX5_part ∈ zTBL := tb4 (j := 39) (by decide +kernel) rfl
theorem se_X5_part : Cond.selects RX5 yX5_part yX5_part ∈ zTBL := tb4 (j := 40) (by decide +kernel) rfl
theorem mc_X5_needWithin : zM0 yX5_needWithin cX5_needWithin 3 (none) 3 := ⟨tb1 (j := 103) (by decide +kernel) rfl, tb1 (j := 1) (by decide +kernel) rfl, by decide +kernel⟩
theorem st_X5_needWithin : Cond.static yX5_needWithin ∈ zTBL := tb1 (j := 102) (by decide +kernel) rfl
theorem ml_X5_44 : zM RX5 44 yX5_needWithin cX5_needWithin 3 (none) 3 := ⟨mc_X5_needWithin, tb1 (j := 101) (by decide +kernel) rfl⟩
theorem fl_X5_48 : zF RX5 48 4 5 RX2 TX2 7 := ⟨rfl, zi_X2, by decide, rfl, Or.inl (tb3 (j := 95) (by decide +kernel) rfl)⟩
theorem mc_X5_needRoom : zM0 yX5_needRoom cX5_needRoom 2 (none) 2 := ⟨tb4 (j := 44) (by decide +kernel) rfl, tb1 (j := 1) (by decide +kernel) rfl, by decide +kernel⟩
theorem st_X5_needRoom : Cond.static yX5_needRoom ∈ zTBL := tb4 (j := 43) (by decide +kernel) rfl
theorem ml_X5_52 : zM RX5 52 yX5_needRoom cX5_needRoom 2 (none) 2 := ⟨mc_X5_needRoom, tb4 (j := 42) (by decide +kernel) rfl⟩
theorem mc_X0_forget : zM0 yX0_forget cX0_forget 1 (none) 0 := ⟨tb4 (j := 64) (by decide +kernel) rfl, tb1 (j := 4) (by decide +kernel) rfl, by decide +kernel⟩
theorem in_X0_forget : Cond.instanceMethod yX0_forget ∈ zTBL := tb4 (j := 62) (by decide +kernel) rfl
theorem se_X0_forget : Cond.selects RX0 yX0_forget yX0_forget ∈ zTBL := tb4 (j := 63) (by decide +kernel) rfl
theorem ml_X5_56 : zM RX5 56 yX0_forget cX0_forget 1 (none) 0 := ⟨mc_X0_forget, tb4 (j := 61) (by decide +kernel) rfl⟩
theorem mc_X2_addPart : zM0 yX2_addPart cX2_addPart 4 (some FieldType.int) 3 := ⟨tb4 (j := 68) (by decide +kernel) rfl, tb1 (j := 2) (by decide +kernel) rfl, by decide +kernel⟩
theorem in_X2_addPart : Cond.instanceMethod yX2_addPart ∈ zTBL := tb4 (j := 66) (by decide +kernel) rfl
theorem se_X2_addPart : Cond.selects RX2 yX2_addPart yX2_addPart ∈ zTBL := tb4 (j := 67) (by decide +kernel) rfl
theorem ml_X5_59 : zM RX5 59 yX2_addPart cX2_addPart 4 (some FieldType.int) 3 := ⟨mc_X2_addPart, tb4 (j := 65) (by decide +kernel) rfl⟩
theorem mc_X5_player : zM0 yX5_player cX5_player 4 (some FieldType.int) 3 := ⟨tb4 (j := 72) (by decide +kernel) rfl, tb1 (j := 1) (by decide +kernel) rfl, by decide +kernel⟩
theorem in_X5_player : Cond.instanceMethod yX5_player ∈ zTBL := tb4 (j := 70) (by decide +kernel) rfl
theorem se_X5_player : Cond.selects RX5 yX5_player yX5_player ∈ zTBL := tb4 (j := 71) (by decide +kernel) rfl
theorem mc_X5_needSet : zM0 yX5_needSet cX5_needSet 2 (none) 2 := ⟨tb4 (j := 75) (by decide +kernel) rfl, tb1 (j := 1) (by decide +kernel) rfl, by decide +kernel⟩
theorem st_X5_needSet : Cond.static yX5_needSet ∈ zTBL := tb4 (j := 74) (by decide +kernel) rfl
theorem ml_X5_63 : zM RX5 63 yX5_needSet cX5_needSet 2 (none) 2 := ⟨mc_X5_needSet, tb4 (j := 73) (by decide +kernel) rfl⟩
theorem fl_X5_66 : zF RX5 66 3 4 RX1 TX1 6 := ⟨rfl, zi_X1, by decide, rfl, Or.inl (tb3 (j := 130) (by decide +kernel) rfl)⟩
theorem mc_X1_addPlayer : zM0 yX1_addPlayer cX1_addPlayer 4 (some FieldType.int) 3 := ⟨tb4 (j := 80) (by decide +kernel) rfl, tb1 (j := 3) (by decide +kernel) rfl, by decide +kernel⟩
theorem in_X1_addPlayer : Cond.instanceMethod yX1_addPlayer ∈ zTBL := tb4 (j := 78) (by decide +kernel) rfl
theorem se_X1_addPlayer : Cond.selects RX1 yX1_addPlayer yX1_addPlayer ∈ zTBL := tb4 (j := 79) (by decide +kernel) rfl
theorem ml_X5_69 : zM RX5 69 yX1_addPlayer cX1_addPlayer 4 (some FieldType.int) 3 := ⟨mc_X1_addPlayer, tb4 (j := 77) (by decide +kernel) rfl⟩
theorem mc_X5_scene : zM0 yX5_scene cX5_scene 3 (some FieldType.int) 2 := ⟨tb4 (j := 84) (by decide +kernel) rfl, tb1 (j := 1) (by decide +kernel) rfl, by decide +kernel⟩
theorem in_X5_scene : Cond.instanceMethod yX5_scene ∈ zTBL := tb4 (j := 82) (by decide +kernel) rfl
theorem se_X5_scene : Cond.selects RX5 yX5_scene yX5_scene ∈ zTBL := tb4 (j := 83) (by decide +kernel) rfl
theorem fl_X5_72 : zF RX5 72 4 6 RX2 TX2 7 := ⟨rfl, zi_X2, by decide, rfl, Or.inl (tb3 (j := 98) (by decide +kernel) rfl)⟩
theorem mc_X2_addScene : zM0 yX2_addScene cX2_addScene 3 (some FieldType.int) 2 := ⟨tb4 (j := 88) (by decide +kernel) rfl, tb1 (j := 2) (by decide +kernel) rfl, by decide +kernel⟩
theorem in_X2_addScene : Cond.instanceMethod yX2_addScene ∈ zTBL := tb4 (j := 86) (by decide +kernel) rfl
theorem se_X2_addScene : Cond.selects RX2 yX2_addScene yX2_addScene ∈ zTBL := tb4 (j := 87) (by decide +kernel) rfl
theorem ml_X5_75 : zM RX5 75 yX2_addScene cX2_addScene 3 (some FieldType.int) 2 := ⟨mc_X2_addScene, tb4 (j := 85) (by decide +kernel) rfl⟩
theorem mc_X5_pause : zM0 yX5_pause cX5_pause 4 (some FieldType.int) 2 := ⟨tb4 (j := 128) (by decide +kernel) rfl, tb1 (j := 1) (by decide +kernel) rfl, by decide +kernel⟩
theorem in_X5_pause : Cond.instanceMethod yX5_pause ∈ zTBL := tb4 (j := 126) (by decide +kernel) rfl
theorem se_X5_pause : Cond.selects RX5 yX5_pause yX5_pause ∈ zTBL := tb4 (j := 127) (by decide +kernel) rfl
theorem mc_X5_needIndex : zM0 yX5_needIndex cX5_needIndex 2 (none) 2 := ⟨tb1 (j := 30) (by decide +kernel) rfl, tb1 (j := 1) (by decide +kernel) rfl, by decide +kernel⟩
theorem st_X5_needIndex : Cond.static yX5_needIndex ∈ zTBL := tb1 (j := 29) (by decide +kernel) rfl
theorem ml_X5_79 : zM RX5 79 yX5_needIndex cX5_needIndex 2 (none) 2 := ⟨mc_X5_needIndex, tb1 (j := 28) (by decide +kernel) rfl⟩
theorem fl_X5_82 : zF RX5 82 4 4 RX2 TX2 7 := ⟨rfl, zi_X2, by decide, rfl, Or.inl (tb3 (j := 93) (by decide +kernel) rfl)⟩
theorem mc_X5_sick : zM0 yX5_sick cX5_sick 3 (some FieldType.int) 2 := ⟨tb4 (j := 124) (by decide +kernel) rfl, tb1 (j := 1) (by decide +kernel) rfl, by decide +kernel⟩
theorem in_X5_sick : Cond.instanceMethod yX5_sick ∈ zTBL := tb4 (j := 122) (by decide +kernel) rfl
theorem se_X5_sick : Cond.selects RX5 yX5_sick yX5_sick ∈ zTBL := tb4 (j := 123) (by decide +kernel) rfl
theorem fl_X5_86 : zF RX5 86 3 5 RX1 TX1 6 := ⟨rfl, zi_X1, by decide, rfl, Or.inl (tb3 (j := 132) (by decide +kernel) rfl)⟩
theorem mc_X1_countWell : zM0 yX1_countWell cX1_countWell 1 (some FieldType.int) 0 := ⟨tb1 (j := 203) (by decide +kernel) rfl, tb1 (j := 3) (by decide +kernel) rfl, by decide +kernel⟩
theorem in_X1_countWell : Cond.instanceMethod yX1_countWell ∈ zTBL := tb1 (j := 201) (by decide +kernel) rfl
theorem se_X1_countWell : Cond.selects RX1 yX1_countWell yX1_countWell ∈ zTBL := tb1 (j := 202) (by decide +kernel) rfl
theorem ml_X5_89 : zM RX5 89 yX1_countWell cX1_countWell 1 (some FieldType.int) 0 := ⟨mc_X1_countWell, tb1 (j := 200) (by decide +kernel) rfl⟩
theorem mc_X5_coat : zM0 yX5_coat cX5_coat 4 (some FieldType.int) 3 := ⟨tb4 (j := 92) (by decide +kernel) rfl, tb1 (j := 1) (by decide +kernel) rfl, by decide +kernel⟩
theorem in_X5_coat : Cond.instanceMethod yX5_coat ∈ zTBL := tb4 (j := 90) (by decide +kernel) rfl
theorem se_X5_coat : Cond.selects RX5 yX5_coat yX5_coat ∈ zTBL := tb4 (j := 91) (by decide +kernel) rfl
theorem fl_X5_93 : zF RX5 93 6 3 RX4 TX4 7 := ⟨rfl, zi_X4, by decide, rfl, Or.inl (tb3 (j := 194) (by decide +kernel) rfl)⟩
theorem mc_X4_addCoat : zM0 yX4_addCoat cX4_addCoat 4 (some FieldType.int) 3 := ⟨tb4 (j := 96) (by decide +kernel) rfl, tb1 (j := 5) (by decide +kernel) rfl, by decide +kernel⟩
theorem in_X4_addCoat : Cond.instanceMethod yX4_addCoat ∈ zTBL := tb4 (j := 94) (by decide +kernel) rfl
theorem se_X4_addCoat : Cond.selects RX4 yX4_addCoat yX4_addCoat ∈ zTBL := tb4 (j := 95) (by decide +kernel) rfl
theorem ml_X5_96 : zM RX5 96 yX4_addCoat cX4_addCoat 4 (some FieldType.int) 3 := ⟨mc_X4_addCoat, tb4 (j := 93) (by decide +kernel) rfl⟩
theorem mc_X5_pawn : zM0 yX5_pawn cX5_pawn 3 (some FieldType.int) 2 := ⟨tb4 (j := 132) (by decide +kernel) rfl, tb1 (j := 1) (by decide +kernel) rfl, by decide +kernel⟩
theorem in_X5_pawn : Cond.instanceMethod yX5_pawn ∈ zTBL := tb4 (j := 130) (by decide +kernel) rfl
theorem se_X5_pawn : Cond.selects RX5 yX5_pawn yX5_pawn ∈ zTBL := tb4 (j := 131) (by decide +kernel) rfl
theorem fl_X5_99 : zF RX5 99 6 4 RX4 TX4 7 := ⟨rfl, zi_X4, by decide, rfl, Or.inl (tb3 (j := 196) (by decide +kernel) rfl)⟩
theorem mc_X5_has : zM0 yX5_has cX5_has 2 (some FieldType.boolean) 2 := ⟨tb1 (j := 122) (by decide +kernel) rfl, tb1 (j := 1) (by decide +kernel) rfl, by decide +kernel⟩
theorem st_X5_has : Cond.static yX5_has ∈ zTBL := tb1 (j := 121) (by decide +kernel) rfl
theorem ml_X5_102 : zM RX5 102 yX5_has cX5_has 2 (some FieldType.boolean) 2 := ⟨mc_X5_has, tb1 (j := 120) (by decide +kernel) rfl⟩
theorem fl_X5_113 : zF RX5 113 7 5 RX5 TX5 9 := ⟨rfl, zi_X5, by decide, rfl, Or.inl (tb4 (j := 11) (by decide +kernel) rfl)⟩
theorem fl_X5_116 : zF RX5 116 6 2 RX4 TX4 7 := ⟨rfl, zi_X4, by decide, rfl, Or.inl (tb3 (j := 192) (by decide +kernel) rfl)⟩
theorem fl_X5_119 : zF RX5 119 3 3 RX1 TX1 6 := ⟨rfl, zi_X1, by decide, rfl, Or.inl (tb3 (j := 128) (by decide +kernel) rfl)⟩
theorem mc_X5_redeem : zM0 yX5_redeem cX5_redeem 4 (some FieldType.int) 2 := ⟨tb4 (j := 137) (by decide +kernel) rfl, tb1 (j := 1) (by decide +kernel) rfl, by decide +kernel⟩
theorem in_X5_redeem : Cond.instanceMethod yX5_redeem ∈ zTBL := tb4 (j := 135) (by decide +kernel) rfl
theorem se_X5_redeem : Cond.selects RX5 yX5_redeem yX5_redeem ∈ zTBL := tb4 (j := 136) (by decide +kernel) rfl
theorem fl_X5_124 : zF RX5 124 7 6 RX5 TX5 9 := ⟨rfl, zi_X5, by decide, rfl, Or.inl (tb4 (j := 12) (by decide +kernel) rfl)⟩
theorem mc_X5_town : zM0 yX5_town cX5_town 4 (some FieldType.int) 3 := ⟨tb4 (j := 100) (by decide +kernel) rfl, tb1 (j := 1) (by decide +kernel) rfl, by decide +kernel⟩
theorem in_X5_town : Cond.instanceMethod yX5_town ∈ zTBL := tb4 (j := 98) (by decide +kernel) rfl
theorem se_X5_town : Cond.selects RX5 yX5_town yX5_town ∈ zTBL := tb4 (j := 99) (by decide +kernel) rfl
theorem fl_X5_127 : zF RX5 127 5 4 RX3 TX3 6 := ⟨rfl, zi_X3, by decide, rfl, Or.inl (tb3 (j := 231) (by decide +kernel) rfl)⟩
theorem mc_X3_addTown : zM0 yX3_addTown cX3_addTown 6 (some FieldType.int) 3 := ⟨tb4 (j := 104) (by decide +kernel) rfl, tb1 (j := 6) (by decide +kernel) rfl, by decide +kernel⟩
theorem in_X3_addTown : Cond.instanceMethod yX3_addTown ∈ zTBL := tb4 (j := 102) (by decide +kernel) rfl
theorem se_X3_addTown : Cond.selects RX3 yX3_addTown yX3_addTown ∈ zTBL := tb4 (j := 103) (by decide +kernel) rfl
theorem ml_X5_130 : zM RX5 130 yX3_addTown cX3_addTown 6 (some FieldType.int) 3 := ⟨mc_X3_addTown, tb4 (j := 101) (by decide +kernel) rfl⟩
theorem mc_X5_night : zM0 yX5_night cX5_night 5 (some FieldType.int) 1 := ⟨tb4 (j := 142) (by decide +kernel) rfl, tb1 (j := 1) (by decide +kernel) rfl, by decide +kernel⟩
theorem in_X5_night : Cond.instanceMethod yX5_night ∈ zTBL := tb4 (j := 140) (by decide +kernel) rfl
theorem se_X5_night : Cond.selects RX5 yX5_night yX5_night ∈ zTBL := tb4 (j := 141) (by decide +kernel) rfl
theorem mc_X0_recall : zM0 yX0_recall cX0_recall 4 (none) 2 := ⟨tb1 (j := 126) (by decide +kernel) rfl, tb1 (j := 4) (by decide +kernel) rfl, by decide +kernel⟩
theorem in_X0_recall : Cond.instanceMethod yX0_recall ∈ zTBL := tb1 (j := 124) (by decide +kernel) rfl
theorem se_X0_recall : Cond.selects RX0 yX0_recall yX0_recall ∈ zTBL := tb1 (j := 125) (by decide +kernel) rfl
theorem ml_X5_133 : zM RX5 133 yX0_recall cX0_recall 4 (none) 2 := ⟨mc_X0_recall, tb1 (j := 123) (by decide +kernel) rfl⟩
theorem mc_X0_actors : zM0 yX0_actors cX0_actors 3 (some FieldType.int) 0 := ⟨tb2 (j := 39) (by decide +kernel) rfl, tb1 (j := 4) (by decide +kernel) rfl, by decide +kernel⟩
theorem in_X0_actors : Cond.instanceMethod yX0_actors ∈ zTBL := tb2 (j := 37) (by decide +kernel) rfl
theorem se_X0_actors : Cond.selects RX0 yX0_actors yX0_actors ∈ zTBL := tb2 (j := 38) (by decide +kernel) rfl
theorem ml_X5_137 : zM RX5 137 yX0_actors cX0_actors 3 (some FieldType.int) 0 := ⟨mc_X0_actors, tb2 (j := 36) (by decide +kernel) rfl⟩
theorem fl_X5_142 : zF RX5 142 5 2 RX3 TX3 6 := ⟨rfl, zi_X3, by decide, rfl, Or.inl (tb3 (j := 227) (by decide +kernel) rfl)⟩
theorem mc_X1_portion : zM0 yX1_portion cX1_portion 10 (some FieldType.int) 3 := ⟨tb2 (j := 43) (by decide +kernel) rfl, tb1 (j := 3) (by decide +kernel) rfl, by decide +kernel⟩
theorem in_X1_portion : Cond.instanceMethod yX1_portion ∈ zTBL := tb2 (j := 41) (by decide +kernel) rfl
theorem se_X1_portion : Cond.selects RX1 yX1_portion yX1_portion ∈ zTBL := tb2 (j := 42) (by decide +kernel) rfl
theorem ml_X5_145 : zM RX5 145 yX1_portion cX1_portion 10 (some FieldType.int) 3 := ⟨mc_X1_portion, tb2 (j := 40) (by decide +kernel) rfl⟩
theorem fl_X5_148 : zF RX5 148 7 7 RX5 TX5 9 := ⟨rfl, zi_X5, by decide, rfl, Or.inl (tb4 (j := 13) (by decide +kernel) rfl)⟩
theorem mc_X5_ofPart : zM0 yX5_ofPart cX5_ofPart 3 (some FieldType.int) 2 := ⟨tb2 (j := 20) (by decide +kernel) rfl, tb1 (j := 1) (by decide +kernel) rfl, by decide +kernel⟩
theorem in_X5_ofPart : Cond.instanceMethod yX5_ofPart ∈ zTBL := tb2 (j := 18) (by decide +kernel) rfl
theorem se_X5_ofPart : Cond.selects RX5 yX5_ofPart yX5_ofPart ∈ zTBL := tb2 (j := 19) (by decide +kernel) rfl
theorem fl_X5_154 : zF RX5 154 4 0 RX2 TX2 7 := ⟨rfl, zi_X2, by decide, rfl, Or.inl (tb3 (j := 85) (by decide +kernel) rfl)⟩
theorem fl_X5_157 : zF RX5 157 4 1 RX2 TX2 7 := ⟨rfl, zi_X2, by decide, rfl, Or.inl (tb3 (j := 87) (by decide +kernel) rfl)⟩
theorem fl_X5_160 : zF RX5 160 4 2 RX2 TX2 7 := ⟨rfl, zi_X2, by decide, rfl, Or.inl (tb3 (j := 89) (by decide +kernel) rfl)⟩
theorem mc_X2_scenesWith : zM0 yX2_scenesWith cX2_scenesWith 4 (some FieldType.int) 1 := ⟨tb2 (j := 24) (by decide +kernel) rfl, tb1 (j := 2) (by decide +kernel) rfl, by decide +kernel⟩
theorem in_X2_scenesWith : Cond.instanceMethod yX2_scenesWith ∈ zTBL := tb2 (j := 22) (by decide +kernel) rfl
theorem se_X2_scenesWith : Cond.selects RX2 yX2_scenesWith yX2_scenesWith ∈ zTBL := tb2 (j := 23) (by decide +kernel) rfl
theorem ml_X5_163 : zM RX5 163 yX2_scenesWith cX2_scenesWith 4 (some FieldType.int) 1 := ⟨mc_X2_scenesWith, tb2 (j := 21) (by decide +kernel) rfl⟩
theorem mc_X0_clashesOf : zM0 yX0_clashesOf cX0_clashesOf 3 (some FieldType.int) 2 := ⟨tb2 (j := 9) (by decide +kernel) rfl, tb1 (j := 4) (by decide +kernel) rfl, by decide +kernel⟩
theorem in_X0_clashesOf : Cond.instanceMethod yX0_clashesOf ∈ zTBL := tb2 (j := 7) (by decide +kernel) rfl
theorem se_X0_clashesOf : Cond.selects RX0 yX0_clashesOf yX0_clashesOf ∈ zTBL := tb2 (j := 8) (by decide +kernel) rfl
theorem ml_X5_167 : zM RX5 167 yX0_clashesOf cX0_clashesOf 3 (some FieldType.int) 2 := ⟨mc_X0_clashesOf, tb2 (j := 6) (by decide +kernel) rfl⟩
theorem mc_X1_ableOfAny : zM0 yX1_ableOfAny cX1_ableOfAny 4 (some FieldType.int) 1 := ⟨tb1 (j := 157) (by decide +kernel) rfl, tb1 (j := 3) (by decide +kernel) rfl, by decide +kernel⟩
theorem in_X1_ableOfAny : Cond.instanceMethod yX1_ableOfAny ∈ zTBL := tb1 (j := 155) (by decide +kernel) rfl
theorem se_X1_ableOfAny : Cond.selects RX1 yX1_ableOfAny yX1_ableOfAny ∈ zTBL := tb1 (j := 156) (by decide +kernel) rfl
theorem ml_X5_171 : zM RX5 171 yX1_ableOfAny cX1_ableOfAny 4 (some FieldType.int) 1 := ⟨mc_X1_ableOfAny, tb1 (j := 219) (by decide +kernel) rfl⟩
theorem mc_X0_playerOf : zM0 yX0_playerOf cX0_playerOf 3 (some FieldType.int) 1 := ⟨tb2 (j := 5) (by decide +kernel) rfl, tb1 (j := 4) (by decide +kernel) rfl, by decide +kernel⟩
theorem in_X0_playerOf : Cond.instanceMethod yX0_playerOf ∈ zTBL := tb2 (j := 3) (by decide +kernel) rfl
theorem se_X0_playerOf : Cond.selects RX0 yX0_playerOf yX0_playerOf ∈ zTBL := tb2 (j := 4) (by decide +kernel) rfl
theorem ml_X5_174 : zM RX5 174 yX0_playerOf cX0_playerOf 3 (some FieldType.int) 1 := ⟨mc_X0_playerOf, tb2 (j := 2) (by decide +kernel) rfl⟩
theorem mc_X5_ofPlayer : zM0 yX5_ofPlayer cX5_ofPlayer 3 (some FieldType.int) 2 := ⟨tb1 (j := 27) (by decide +kernel) rfl, tb1 (j := 1) (by decide +kernel) rfl, by decide +kernel⟩
theorem in_X5_ofPlayer : Cond.instanceMethod yX5_ofPlayer ∈ zTBL := tb1 (j := 25) (by decide +kernel) rfl
theorem se_X5_ofPlayer : Cond.selects RX5 yX5_ofPlayer yX5_ofPlayer ∈ zTBL := tb1 (j := 26) (by decide +kernel) rfl
theorem fl_X5_177 : zF RX5 177 3 0 RX1 TX1 6 := ⟨rfl, zi_X1, by decide, rfl, Or.inl (tb3 (j := 122) (by decide +kernel) rfl)⟩
theorem fl_X5_180 : zF RX5 180 3 1 RX1 TX1 6 := ⟨rfl, zi_X1, by decide, rfl, Or.inl (tb3 (j := 124) (by decide +kernel) rfl)⟩
theorem fl_X5_183 : zF RX5 183 3 2 RX1 TX1 6 := ⟨rfl, zi_X1, by decide, rfl, Or.inl (tb3 (j := 126) (by decide +kernel) rfl)⟩
theorem fl_X5_186 : zF RX5 186 2 0 RX0 TX0 9 := ⟨rfl, zi_X0, by decide, rfl, Or.inl (tb3 (j := 152) (by decide +kernel) rfl)⟩
theorem mc_X5_ofScene : zM0 yX5_ofScene cX5_ofScene 4 (some FieldType.int) 2 := ⟨tb2 (j := 52) (by decide +kernel) rfl, tb1 (j := 1) (by decide +kernel) rfl, by decide +kernel⟩
theorem in_X5_ofScene : Cond.instanceMethod yX5_ofScene ∈ zTBL := tb2 (j := 50) (by decide +kernel) rfl
theorem se_X5_ofScene : Cond.selects RX5 yX5_ofScene yX5_ofScene ∈ zTBL := tb2 (j := 51) (by decide +kernel) rfl
theorem fl_X5_189 : zF RX5 189 4 3 RX2 TX2 7 := ⟨rfl, zi_X2, by decide, rfl, Or.inl (tb3 (j := 91) (by decide +kernel) rfl)⟩
theorem mc_X5_filled : zM0 yX5_filled cX5_filled 5 (some FieldType.int) 1 := ⟨tb1 (j := 218) (by decide +kernel) rfl, tb1 (j := 1) (by decide +kernel) rfl, by decide +kernel⟩
theorem in_X5_filled : Cond.instanceMethod yX5_filled ∈ zTBL := tb1 (j := 216) (by decide +kernel) rfl
theorem se_X5_filled : Cond.selects RX5 yX5_filled yX5_filled ∈ zTBL := tbp (j := 9) (by decide +kernel) rfl
theorem ml_X5_192 : zM RX5 192 yX5_filled cX5_filled 5 (some FieldType.int) 1 := ⟨mc_X5_filled, tb1 (j := 214) (by decide +kernel) rfl⟩
theorem mc_X5_lack : zM0 yX5_lack cX5_lack 6 (some FieldType.int) 1 := ⟨tb1 (j := 229) (by decide +kernel) rfl, tb1 (j := 1) (by decide +kernel) rfl, by decide +kernel⟩
theorem in_X5_lack : Cond.instanceMethod yX5_lack ∈ zTBL := tb1 (j := 228) (by decide +kernel) rfl
theorem se_X5_lack : Cond.selects RX5 yX5_lack yX5_lack ∈ zTBL := tbp (j := 10) (by decide +kernel) rfl
theorem ml_X5_195 : zM RX5 195 yX5_lack cX5_lack 6 (some FieldType.int) 1 := ⟨mc_X5_lack, tb1 (j := 226) (by decide +kernel) rfl⟩
theorem mc_X5_excess : zM0 yX5_excess cX5_excess 4 (some FieldType.int) 1 := ⟨tb1 (j := 233) (by decide +kernel) rfl, tb1 (j := 1) (by decide +kernel) rfl, by decide +kernel⟩
theorem in_X5_excess : Cond.instanceMethod yX5_excess ∈ zTBL := tb1 (j := 232) (by decide +kernel) rfl
theorem se_X5_excess : Cond.selects RX5 yX5_excess yX5_excess ∈ zTBL := tbp (j := 11) (by decide +kernel) rfl
theorem ml_X5_198 : zM RX5 198 yX5_excess cX5_excess 4 (some FieldType.int) 1 := ⟨mc_X5_excess, tb1 (j := 230) (by decide +kernel) rfl⟩
theorem mc_X5_leastWaste : zM0 yX5_leastWaste cX5_leastWaste 4 (some FieldType.int) 1 := ⟨tb2 (j := 56) (by decide +kernel) rfl, tb1 (j := 1) (by decide +kernel) rfl, by decide +kernel⟩
theorem in_X5_leastWaste : Cond.instanceMethod yX5_leastWaste ∈ zTBL := tb2 (j := 55) (by decide +kernel) rfl
theorem se_X5_leastWaste : Cond.selects RX5 yX5_leastWaste yX5_leastWaste ∈ zTBL := tbp (j := 14) (by decide +kernel) rfl
theorem ml_X5_201 : zM RX5 201 yX5_leastWaste cX5_leastWaste 4 (some FieldType.int) 1 := ⟨mc_X5_leastWaste, tb2 (j := 53) (by decide +kernel) rfl⟩
theorem mc_X5_ofCoat : zM0 yX5_ofCoat cX5_ofCoat 3 (some FieldType.int) 2 := ⟨tb2 (j := 86) (by decide +kernel) rfl, tb1 (j := 1) (by decide +kernel) rfl, by decide +kernel⟩
theorem in_X5_ofCoat : Cond.instanceMethod yX5_ofCoat ∈ zTBL := tb2 (j := 84) (by decide +kernel) rfl
theorem se_X5_ofCoat : Cond.selects RX5 yX5_ofCoat yX5_ofCoat ∈ zTBL := tb2 (j := 85) (by decide +kernel) rfl
theorem fl_X5_204 : zF RX5 204 6 0 RX4 TX4 7 := ⟨rfl, zi_X4, by decide, rfl, Or.inl (tb3 (j := 188) (by decide +kernel) rfl)⟩
theorem fl_X5_205 : zF RX5 205 6 1 RX4 TX4 7 := ⟨rfl, zi_X4, by decide, rfl, Or.inl (tb3 (j := 190) (by decide +kernel) rfl)⟩
theorem mc_X5_ofTown : zM0 yX5_ofTown cX5_ofTown 3 (some FieldType.int) 2 := ⟨tb2 (j := 90) (by decide +kernel) rfl, tb1 (j := 1) (by decide +kernel) rfl, by decide +kernel⟩
theorem in_X5_ofTown : Cond.instanceMethod yX5_ofTown ∈ zTBL := tb2 (j := 88) (by decide +kernel) rfl
theorem se_X5_ofTown : Cond.selects RX5 yX5_ofTown yX5_ofTown ∈ zTBL := tb2 (j := 89) (by decide +kernel) rfl
theorem fl_X5_206 : zF RX5 206 5 0 RX3 TX3 6 := ⟨rfl, zi_X3, by decide, rfl, Or.inl (tb3 (j := 223) (by decide +kernel) rfl)⟩
theorem fl_X5_209 : zF RX5 209 5 1 RX3 TX3 6 := ⟨rfl, zi_X3, by decide, rfl, Or.inl (tb3 (j := 225) (by decide +kernel) rfl)⟩
theorem mc_X3_milesHome : zM0 yX3_milesHome cX3_milesHome 2 (some FieldType.int) 1 := ⟨tb2 (j := 94) (by decide +kernel) rfl, tb1 (j := 6) (by decide +kernel) rfl, by decide +kernel⟩
theorem in_X3_milesHome : Cond.instanceMethod yX3_milesHome ∈ zTBL := tb2 (j := 92) (by decide +kernel) rfl
theorem se_X3_milesHome : Cond.selects RX3 yX3_milesHome yX3_milesHome ∈ zTBL := tb2 (j := 93) (by decide +kernel) rfl
theorem ml_X5_212 : zM RX5 212 yX3_milesHome cX3_milesHome 2 (some FieldType.int) 1 := ⟨mc_X3_milesHome, tb2 (j := 91) (by decide +kernel) rfl⟩
theorem mc_X5_house : zM0 yX5_house cX5_house 2 (some FieldType.int) 1 := ⟨tb1 (j := 199) (by decide +kernel) rfl, tb1 (j := 1) (by decide +kernel) rfl, by decide +kernel⟩
theorem in_X5_house : Cond.instanceMethod yX5_house ∈ zTBL := tb1 (j := 197) (by decide +kernel) rfl
theorem se_X5_house : Cond.selects RX5 yX5_house yX5_house ∈ zTBL := tb1 (j := 198) (by decide +kernel) rfl
theorem mc_J6_bitCount_0f7a4 : zM0 yJ6_bitCount_0f7a4 cJ6_bitCount_0f7a4 1 (some FieldType.int) 1 := ⟨tb1 (j := 170) (by decide +kernel) rfl, tb1 (j := 13) (by decide +kernel) rfl, by decide +kernel⟩
theorem st_J6_bitCount_0f7a4 : Cond.static yJ6_bitCount_0f7a4 ∈ zTBL := tb1 (j := 169) (by decide +kernel) rfl
theorem ml_X5_215 : zM RX5 215 yJ6_bitCount_0f7a4 cJ6_bitCount_0f7a4 1 (some FieldType.int) 1 := ⟨mc_J6_bitCount_0f7a4, tb1 (j := 205) (by decide +kernel) rfl⟩
theorem fl_X5_220 : zF RX5 220 2 1 RX0 TX0 9 := ⟨rfl, zi_X0, by decide, rfl, Or.inl (tb3 (j := 154) (by decide +kernel) rfl)⟩
theorem fl_X5_223 : zF RX5 223 2 2 RX0 TX0 9 := ⟨rfl, zi_X0, by decide, rfl, Or.inl (tb3 (j := 156) (by decide +kernel) rfl)⟩
theorem mc_X1_allPurses : zM0 yX1_allPurses cX1_allPurses 3 (some FieldType.int) 0 := ⟨tb1 (j := 209) (by decide +kernel) rfl, tb1 (j := 3) (by decide +kernel) rfl, by decide +kernel⟩
theorem in_X1_allPurses : Cond.instanceMethod yX1_allPurses ∈ zTBL := tb1 (j := 207) (by decide +kernel) rfl
theorem se_X1_allPurses : Cond.selects RX1 yX1_allPurses yX1_allPurses ∈ zTBL := tb1 (j := 208) (by decide +kernel) rfl
theorem ml_X5_226 : zM RX5 226 yX1_allPurses cX1_allPurses 3 (some FieldType.int) 0 := ⟨mc_X1_allPurses, tb1 (j := 206) (by decide +kernel) rfl⟩
theorem fl_X5_151 : zF RX5 151 7 8 RX5 TX5 9 := ⟨rfl, zi_X5, by decide, rfl, Or.inl (tb4 (j := 14) (by decide +kernel) rfl)⟩
theorem mc_X5_cast : zM0 yX5_cast cX5_cast 4 (some (FieldType.object "java/lang/String")) 0 := ⟨tb2 (j := 112) (by decide +kernel) rfl, tb1 (j := 1) (by decide +kernel) rfl, by decide +kernel⟩
theorem in_X5_cast : Cond.instanceMethod yX5_cast ∈ zTBL := tb2 (j := 110) (by decide +kernel) rfl
theorem se_X5_cast : Cond.selects RX5 yX5_cast yX5_cast ∈ zTBL := tb2 (j := 111) (by decide +kernel) rfl
theorem mc_J4_init_da8c8 : zM0 yJ4_init_da8c8 cJ4_init_da8c8 1 (none) 0 := ⟨tb2 (j := 118) (by decide +kernel) rfl, tb1 (j := 17) (by decide +kernel) rfl, by decide +kernel⟩
theorem in_J4_init_da8c8 : Cond.instanceMethod yJ4_init_da8c8 ∈ zTBL := tb2 (j := 117) (by decide +kernel) rfl
theorem ml_X5_233 : zM RX5 233 yJ4_init_da8c8 cJ4_init_da8c8 1 (none) 0 := ⟨mc_J4_init_da8c8, tb2 (j := 116) (by decide +kernel) rfl⟩
theorem mc_J4_append_cf468 : zM0 yJ4_append_cf468 cJ4_append_cf468 2 (some (FieldType.object "java/lang/StringBuilder")) 1 := ⟨tb2 (j := 148) (by decide +kernel) rfl, tb1 (j := 17) (by decide +kernel) rfl, by decide +kernel⟩
theorem in_J4_append_cf468 : Cond.instanceMethod yJ4_append_cf468 ∈ zTBL := tb2 (j := 146) (by decide +kernel) rfl
theorem se_J4_append_cf468 : Cond.selects RJ4 yJ4_append_cf468 yJ4_append_cf468 ∈ zTBL := tb2 (j := 147) (by decide +kernel) rfl
theorem ml_X5_234 : zM RX5 234 yJ4_append_cf468 cJ4_append_cf468 2 (some (FieldType.object "java/lang/StringBuilder")) 1 := ⟨mc_J4_append_cf468, tb2 (j := 145) (by decide +kernel) rfl⟩
theorem mc_J4_toString_0e30d : zM0 yJ4_toString_0e30d cJ4_toString_0e30d 1 (some (FieldType.object "java/lang/String")) 0 := ⟨tb2 (j := 239) (by decide +kernel) rfl, tb1 (j := 17) (by decide +kernel) rfl, by decide +kernel⟩
theorem in_J4_toString_0e30d : Cond.instanceMethod yJ4_toString_0e30d ∈ zTBL := tb2 (j := 237) (by decide +kernel) rfl
theorem se_J4_toString_0e30d : Cond.selects RJ4 yJ4_toString_0e30d yJ4_toString_0e30d ∈ zTBL := tb2 (j := 238) (by decide +kernel) rfl
theorem ml_X5_238 : zM RX5 238 yJ4_toString_0e30d cJ4_toString_0e30d 1 (some (FieldType.object "java/lang/String")) 0 := ⟨mc_J4_toString_0e30d, tb2 (j := 236) (by decide +kernel) rfl⟩
theorem mc_X5_tour : zM0 yX5_tour cX5_tour 4 (some FieldType.int) 2 := ⟨tb2 (j := 98) (by decide +kernel) rfl, tb1 (j := 1) (by decide +kernel) rfl, by decide +kernel⟩
theorem in_X5_tour : Cond.instanceMethod yX5_tour ∈ zTBL := tb2 (j := 96) (by decide +kernel) rfl
theorem se_X5_tour : Cond.selects RX5 yX5_tour yX5_tour ∈ zTBL := tb2 (j := 97) (by decide +kernel) rfl
theorem mc_X3_bestTour : zM0 yX3_bestTour cX3_bestTour 5 (some FieldType.int) 1 := ⟨tb2 (j := 102) (by decide +kernel) rfl, tb1 (j := 6) (by decide +kernel) rfl, by decide +kernel⟩
theorem in_X3_bestTour : Cond.instanceMethod yX3_bestTour ∈ zTBL := tb2 (j := 100) (by decide +kernel) rfl
theorem se_X3_bestTour : Cond.selects RX3 yX3_bestTour yX3_bestTour ∈ zTBL := tb2 (j := 101) (by decide +kernel) rfl
theorem ml_X5_242 : zM RX5 242 yX3_bestTour cX3_bestTour 5 (some FieldType.int) 1 := ⟨mc_X3_bestTour, tb2 (j := 99) (by decide +kernel) rfl⟩
theorem mc_X3_takingsOf : zM0 yX3_takingsOf cX3_takingsOf 4 (some FieldType.int) 1 := ⟨tb2 (j := 106) (by decide +kernel) rfl, tb1 (j := 6) (by decide +kernel) rfl, by decide +kernel⟩
theorem in_X3_takingsOf : Cond.instanceMethod yX3_takingsOf ∈ zTBL := tb2 (j := 104) (by decide +kernel) rfl
theorem se_X3_takingsOf : Cond.selects RX3 yX3_takingsOf yX3_takingsOf ∈ zTBL := tb2 (j := 105) (by decide +kernel) rfl
theorem ml_X5_245 : zM RX5 245 yX3_takingsOf cX3_takingsOf 4 (some FieldType.int) 1 := ⟨mc_X3_takingsOf, tb2 (j := 108) (by decide +kernel) rfl⟩
theorem fl_X5_248 : zF RX5 248 5 3 RX3 TX3 6 := ⟨rfl, zi_X3, by decide, rfl, Or.inl (tb3 (j := 229) (by decide +kernel) rfl)⟩
theorem mc_X5_without : zM0 yX5_without cX5_without 4 (some FieldType.int) 1 := ⟨tb2 (j := 29) (by decide +kernel) rfl, tb1 (j := 1) (by decide +kernel) rfl, by decide +kernel⟩
theorem in_X5_without : Cond.instanceMethod yX5_without ∈ zTBL := tb2 (j := 27) (by decide +kernel) rfl
theorem se_X5_without : Cond.selects RX5 yX5_without yX5_without ∈ zTBL := tb2 (j := 28) (by decide +kernel) rfl
theorem mc_X2_allScenes : zM0 yX2_allScenes cX2_allScenes 1 (some FieldType.int) 0 := ⟨tb1 (j := 130) (by decide +kernel) rfl, tb1 (j := 2) (by decide +kernel) rfl, by decide +kernel⟩
theorem in_X2_allScenes : Cond.instanceMethod yX2_allScenes ∈ zTBL := tb1 (j := 128) (by decide +kernel) rfl
theorem se_X2_allScenes : Cond.selects RX2 yX2_allScenes yX2_allScenes ∈ zTBL := tb1 (j := 129) (by decide +kernel) rfl
theorem ml_X5_251 : zM RX5 251 yX2_allScenes cX2_allScenes 1 (some FieldType.int) 0 := ⟨mc_X2_allScenes, tb2 (j := 30) (by decide +kernel) rfl⟩
theorem mc_X0_fewest : zM0 yX0_fewest cX0_fewest 5 (some FieldType.int) 3 := ⟨tb1 (j := 134) (by decide +kernel) rfl, tb1 (j := 4) (by decide +kernel) rfl, by decide +kernel⟩
theorem in_X0_fewest : Cond.instanceMethod yX0_fewest ∈ zTBL := tb1 (j := 132) (by decide +kernel) rfl
theorem se_X0_fewest : Cond.selects RX0 yX0_fewest yX0_fewest ∈ zTBL := tb1 (j := 133) (by decide +kernel) rfl
theorem ml_X5_254 : zM RX5 254 yX0_fewest cX0_fewest 5 (some FieldType.int) 3 := ⟨mc_X0_fewest, tb2 (j := 31) (by decide +kernel) rfl⟩
theorem mc_X5_shareOf : zM0 yX5_shareOf cX5_shareOf 3 (some FieldType.int) 2 := ⟨tb2 (j := 35) (by decide +kernel) rfl, tb1 (j := 1) (by decide +kernel) rfl, by decide +kernel⟩
theorem in_X5_shareOf : Cond.instanceMethod yX5_shareOf ∈ zTBL := tb2 (j := 33) (by decide +kernel) rfl
theorem se_X5_shareOf : Cond.selects RX5 yX5_shareOf yX5_shareOf ∈ zTBL := tb2 (j := 34) (by decide +kernel) rfl
theorem mc_X5_isSound : zM0 yX5_isSound cX5_isSound 3 (some FieldType.boolean) 0 := ⟨tb1 (j := 213) (by decide +kernel) rfl, tb1 (j := 1) (by decide +kernel) rfl, by decide +kernel⟩
theorem in_X5_isSound : Cond.instanceMethod yX5_isSound ∈ zTBL := tb1 (j := 211) (by decide +kernel) rfl
theorem se_X5_isSound : Cond.selects RX5 yX5_isSound yX5_isSound ∈ zTBL := tb1 (j := 212) (by decide +kernel) rfl
theorem mc_X1_hasDebt : zM0 yX1_hasDebt cX1_hasDebt 2 (some FieldType.boolean) 0 := ⟨tb1 (j := 237) (by decide +kernel) rfl, tb1 (j := 3) (by decide +kernel) rfl, by decide +kernel⟩
theorem in_X1_hasDebt : Cond.instanceMethod yX1_hasDebt ∈ zTBL := tb1 (j := 235) (by decide +kernel) rfl
theorem se_X1_hasDebt : Cond.selects RX1 yX1_hasDebt yX1_hasDebt ∈ zTBL := tb1 (j := 236) (by decide +kernel) rfl
theorem ml_X5_258 : zM RX5 258 yX1_hasDebt cX1_hasDebt 2 (some FieldType.boolean) 0 := ⟨mc_X1_hasDebt, tb1 (j := 234) (by decide +kernel) rfl⟩
theorem mc_X5_bestCastClashes : zM0 yX5_bestCastClashes cX5_bestCastClashes 3 (some FieldType.boolean) 0 := ⟨tb2 (j := 1) (by decide +kernel) rfl, tb1 (j := 1) (by decide +kernel) rfl, by decide +kernel⟩
theorem in_X5_bestCastClashes : Cond.instanceMethod yX5_bestCastClashes ∈ zTBL := tb2 (j := 0) (by decide +kernel) rfl
theorem se_X5_bestCastClashes : Cond.selects RX5 yX5_bestCastClashes yX5_bestCastClashes ∈ zTBL := tbp (j := 12) (by decide +kernel) rfl
theorem ml_X5_262 : zM RX5 262 yX5_bestCastClashes cX5_bestCastClashes 3 (some FieldType.boolean) 0 := ⟨mc_X5_bestCastClashes, tb1 (j := 238) (by decide +kernel) rfl⟩
theorem mc_X5_digest : zM0 yX5_digest cX5_digest 5 (some FieldType.long) 0 := ⟨tb2 (j := 13) (by decide +kernel) rfl, tb1 (j := 1) (by decide +kernel) rfl, by decide +kernel⟩
theorem in_X5_digest : Cond.instanceMethod yX5_digest ∈ zTBL := tb2 (j := 11) (by decide +kernel) rfl
theorem se_X5_digest : Cond.selects RX5 yX5_digest yX5_digest ∈ zTBL := tb2 (j := 12) (by decide +kernel) rfl
theorem ml_X5_269 : zM RX5 269 yX5_house cX5_house 2 (some FieldType.int) 1 := ⟨mc_X5_house, tb2 (j := 16) (by decide +kernel) rfl⟩
theorem ml_X5_272 : zM RX5 272 yX5_ofPart cX5_ofPart 3 (some FieldType.int) 2 := ⟨mc_X5_ofPart, tb2 (j := 17) (by decide +kernel) rfl⟩
theorem ml_X5_275 : zM RX5 275 yX5_ofPlayer cX5_ofPlayer 3 (some FieldType.int) 2 := ⟨mc_X5_ofPlayer, tb2 (j := 25) (by decide +kernel) rfl⟩
theorem ml_X5_278 : zM RX5 278 yX5_without cX5_without 4 (some FieldType.int) 1 := ⟨mc_X5_without, tb2 (j := 26) (by decide +kernel) rfl⟩
theorem ml_X5_281 : zM RX5 281 yX5_shareOf cX5_shareOf 3 (some FieldType.int) 2 := ⟨mc_X5_shareOf, tb2 (j := 32) (by decide +kernel) rfl⟩
theorem ml_X5_284 : zM RX5 284 yX5_ofScene cX5_ofScene 4 (some FieldType.int) 2 := ⟨mc_X5_ofScene, tb2 (j := 49) (by decide +kernel) rfl⟩
theorem ml_X5_287 : zM RX5 287 yX5_ofCoat cX5_ofCoat 3 (some FieldType.int) 2 := ⟨mc_X5_ofCoat, tb2 (j := 83) (by decide +kernel) rfl⟩
theorem ml_X5_290 : zM RX5 290 yX5_ofTown cX5_ofTown 3 (some FieldType.int) 2 := ⟨mc_X5_ofTown, tb2 (j := 87) (by decide +kernel) rfl⟩
theorem ml_X5_293 : zM RX5 293 yX5_tour cX5_tour 4 (some FieldType.int) 2 := ⟨mc_X5_tour, tb2 (j := 95) (by decide +kernel) rfl⟩
theorem ml_X5_296 : zM RX5 296 yX5_cast cX5_cast 4 (some (FieldType.object "java/lang/String")) 0 := ⟨mc_X5_cast, tb2 (j := 109) (by decide +kernel) rfl⟩
theorem mc_J0_length_8abf5 : zM0 yJ0_length_8abf5 cJ0_length_8abf5 1 (some FieldType.int) 0 := ⟨tb3 (j := 60) (by decide +kernel) rfl, tb1 (j := 18) (by decide +kernel) rfl, by decide +kernel⟩
theorem in_J0_length_8abf5 : Cond.instanceMethod yJ0_length_8abf5 ∈ zTBL := tb3 (j := 58) (by decide +kernel) rfl
theorem se_J0_length_8abf5 : Cond.selects RJ0 yJ0_length_8abf5 yJ0_length_8abf5 ∈ zTBL := tb3 (j := 59) (by decide +kernel) rfl
theorem ml_X5_299 : zM RX5 299 yJ0_length_8abf5 cJ0_length_8abf5 1 (some FieldType.int) 0 := ⟨mc_J0_length_8abf5, tb3 (j := 57) (by decide +kernel) rfl⟩
theorem ml_X5_304 : zM RX5 304 yX5_isSound cX5_isSound 3 (some FieldType.boolean) 0 := ⟨mc_X5_isSound, tb3 (j := 65) (by decide +kernel) rfl⟩
theorem mc_X5_withOneMore : zM0 yX5_withOneMore cX5_withOneMore 5 (some FieldType.int) 2 := ⟨tb1 (j := 222) (by decide +kernel) rfl, tb1 (j := 1) (by decide +kernel) rfl, by decide +kernel⟩
theorem st_X5_withOneMore : Cond.static yX5_withOneMore ∈ zTBL := tb1 (j := 221) (by decide +kernel) rfl
theorem ml_X5_321 : zM RX5 321 yX5_withOneMore cX5_withOneMore 5 (some FieldType.int) 2 := ⟨mc_X5_withOneMore, tb1 (j := 220) (by decide +kernel) rfl⟩
theorem mc_J9_max_7cf53 : zM0 yJ9_max_7cf53 cJ9_max_7cf53 2 (some FieldType.int) 2 := ⟨tb1 (j := 225) (by decide +kernel) rfl, tb1 (j := 12) (by decide +kernel) rfl, by decide +kernel⟩
theorem st_J9_max_7cf53 : Cond.static yJ9_max_7cf53 ∈ zTBL := tb1 (j := 224) (by decide +kernel) rfl
theorem ml_X5_324 : zM RX5 324 yJ9_max_7cf53 cJ9_max_7cf53 2 (some FieldType.int) 2 := ⟨mc_J9_max_7cf53, tb1 (j := 223) (by decide +kernel) rfl⟩
theorem mc_X4_startDressing : zM0 yX4_startDressing cX4_startDressing 2 (none) 0 := ⟨tb2 (j := 60) (by decide +kernel) rfl, tb1 (j := 5) (by decide +kernel) rfl, by decide +kernel⟩
theorem in_X4_startDressing : Cond.instanceMethod yX4_startDressing ∈ zTBL := tb2 (j := 58) (by decide +kernel) rfl
theorem se_X4_startDressing : Cond.selects RX4 yX4_startDressing yX4_startDressing ∈ zTBL := tb2 (j := 59) (by decide +kernel) rfl
theorem ml_X5_329 : zM RX5 329 yX4_startDressing cX4_startDressing 2 (none) 0 := ⟨mc_X4_startDressing, tb2 (j := 57) (by decide +kernel) rfl⟩
theorem mc_X4_dressOneMore : zM0 yX4_dressOneMore cX4_dressOneMore 6 (none) 2 := ⟨tb2 (j := 64) (by decide +kernel) rfl, tb1 (j := 5) (by decide +kernel) rfl, by decide +kernel⟩
theorem in_X4_dressOneMore : Cond.instanceMethod yX4_dressOneMore ∈ zTBL := tb2 (j := 62) (by decide +kernel) rfl
theorem se_X4_dressOneMore : Cond.selects RX4 yX4_dressOneMore yX4_dressOneMore ∈ zTBL := tb2 (j := 63) (by decide +kernel) rfl
theorem ml_X5_332 : zM RX5 332 yX4_dressOneMore cX4_dressOneMore 6 (none) 2 := ⟨mc_X4_dressOneMore, tb2 (j := 61) (by decide +kernel) rfl⟩
theorem mc_X4_leastWaste : zM0 yX4_leastWaste cX4_leastWaste 3 (some FieldType.int) 0 := ⟨tb2 (j := 82) (by decide +kernel) rfl, tb1 (j := 5) (by decide +kernel) rfl, by decide +kernel⟩
theorem in_X4_leastWaste : Cond.instanceMethod yX4_leastWaste ∈ zTBL := tb2 (j := 80) (by decide +kernel) rfl
theorem se_X4_leastWaste : Cond.selects RX4 yX4_leastWaste yX4_leastWaste ∈ zTBL := tb2 (j := 81) (by decide +kernel) rfl
theorem ml_X5_335 : zM RX5 335 yX4_leastWaste cX4_leastWaste 3 (some FieldType.int) 0 := ⟨mc_X4_leastWaste, tb2 (j := 79) (by decide +kernel) rfl⟩
theorem fl_X0_9 : zF RX0 9 2 0 RX0 TX0 9 := ⟨rfl, zi_X0, by decide, rfl, Or.inl (tb3 (j := 151) (by decide +kernel) rfl)⟩
theorem fl_X0_15 : zF RX0 15 2 4 RX0 TX0 9 := ⟨rfl, zi_X0, by decide, rfl, Or.inl (tb3 (j := 158) (by decide +kernel) rfl)⟩
theorem fl_X0_18 : zF RX0 18 2 5 RX0 TX0 9 := ⟨rfl, zi_X0, by decide, rfl, Or.inl (tb3 (j := 159) (by decide +kernel) rfl)⟩
theorem fl_X0_21 : zF RX0 21 2 6 RX0 TX0 9 := ⟨rfl, zi_X0, by decide, rfl, Or.inl (tb3 (j := 160) (by decide +kernel) rfl)⟩
theorem fl_X0_24 : zF RX0 24 2 7 RX0 TX0 9 := ⟨rfl, zi_X0, by decide, rfl, Or.inl (tb3 (j := 161) (by decide +kernel) rfl)⟩
theorem fl_X0_27 : zF RX0 27 2 3 RX0 TX0 9 := ⟨rfl, zi_X0, by decide, rfl, Or.inl (tb3 (j := 157) (by decide +kernel) rfl)⟩
theorem ml_X0_31 : zM RX0 31 yX2_allScenes cX2_allScenes 1 (some FieldType.int) 0 := ⟨mc_X2_allScenes, tb1 (j := 127) (by decide +kernel) rfl⟩
theorem ml_X0_37 : zM RX0 37 yX0_fewest cX0_fewest 5 (some FieldType.int) 3 := ⟨mc_X0_fewest, tb1 (j := 131) (by decide +kernel) rfl⟩
theorem fl_X0_41 : zF RX0 41 2 1 RX0 TX0 9 := ⟨rfl, zi_X0, by decide, rfl, Or.inl (tb3 (j := 153) (by decide +kernel) rfl)⟩
theorem mc_X0_keepFirst : zM0 yX0_keepFirst cX0_keepFirst 2 (none) 1 := ⟨tb1 (j := 184) (by decide +kernel) rfl, tb1 (j := 4) (by decide +kernel) rfl, by decide +kernel⟩
theorem in_X0_keepFirst : Cond.instanceMethod yX0_keepFirst ∈ zTBL := tb1 (j := 183) (by decide +kernel) rfl
theorem se_X0_keepFirst : Cond.selects RX0 yX0_keepFirst yX0_keepFirst ∈ zTBL := tbp (j := 6) (by decide +kernel) rfl
theorem ml_X0_45 : zM RX0 45 yX0_keepFirst cX0_keepFirst 2 (none) 1 := ⟨mc_X0_keepFirst, tb1 (j := 181) (by decide +kernel) rfl⟩
theorem mc_X0_fewestCut : zM0 yX0_fewestCut cX0_fewestCut 5 (some FieldType.int) 2 := ⟨tb1 (j := 195) (by decide +kernel) rfl, tb1 (j := 4) (by decide +kernel) rfl, by decide +kernel⟩
theorem in_X0_fewestCut : Cond.instanceMethod yX0_fewestCut ∈ zTBL := tb1 (j := 194) (by decide +kernel) rfl
theorem se_X0_fewestCut : Cond.selects RX0 yX0_fewestCut yX0_fewestCut ∈ zTBL := tbp (j := 8) (by decide +kernel) rfl
theorem ml_X0_49 : zM RX0 49 yX0_fewestCut cX0_fewestCut 5 (some FieldType.int) 2 := ⟨mc_X0_fewestCut, tb1 (j := 192) (by decide +kernel) rfl⟩
theorem fl_X0_53 : zF RX0 53 2 2 RX0 TX0 9 := ⟨rfl, zi_X0, by decide, rfl, Or.inl (tb3 (j := 155) (by decide +kernel) rfl)⟩
theorem mc_X2_partsOf : zM0 yX2_partsOf cX2_partsOf 4 (some FieldType.int) 1 := ⟨tb1 (j := 162) (by decide +kernel) rfl, tb1 (j := 2) (by decide +kernel) rfl, by decide +kernel⟩
theorem in_X2_partsOf : Cond.instanceMethod yX2_partsOf ∈ zTBL := tb1 (j := 160) (by decide +kernel) rfl
theorem se_X2_partsOf : Cond.selects RX2 yX2_partsOf yX2_partsOf ∈ zTBL := tb1 (j := 161) (by decide +kernel) rfl
theorem ml_X0_56 : zM RX0 56 yX2_partsOf cX2_partsOf 4 (some FieldType.int) 1 := ⟨mc_X2_partsOf, tb1 (j := 159) (by decide +kernel) rfl⟩
theorem mc_X0_orderByNumber : zM0 yX0_orderByNumber cX0_orderByNumber 3 (none) 1 := ⟨tb1 (j := 188) (by decide +kernel) rfl, tb1 (j := 4) (by decide +kernel) rfl, by decide +kernel⟩
theorem in_X0_orderByNumber : Cond.instanceMethod yX0_orderByNumber ∈ zTBL := tb1 (j := 187) (by decide +kernel) rfl
theorem se_X0_orderByNumber : Cond.selects RX0 yX0_orderByNumber yX0_orderByNumber ∈ zTBL := tbp (j := 7) (by decide +kernel) rfl
theorem ml_X0_60 : zM RX0 60 yX0_orderByNumber cX0_orderByNumber 3 (none) 1 := ⟨mc_X0_orderByNumber, tb1 (j := 185) (by decide +kernel) rfl⟩
theorem mc_X0_canPlace : zM0 yX0_canPlace cX0_canPlace 3 (some FieldType.boolean) 1 := ⟨tb1 (j := 177) (by decide +kernel) rfl, tb1 (j := 4) (by decide +kernel) rfl, by decide +kernel⟩
theorem in_X0_canPlace : Cond.instanceMethod yX0_canPlace ∈ zTBL := tb1 (j := 176) (by decide +kernel) rfl
theorem se_X0_canPlace : Cond.selects RX0 yX0_canPlace yX0_canPlace ∈ zTBL := tbp (j := 5) (by decide +kernel) rfl
theorem ml_X0_64 : zM RX0 64 yX0_canPlace cX0_canPlace 3 (some FieldType.boolean) 1 := ⟨mc_X0_canPlace, tb1 (j := 174) (by decide +kernel) rfl⟩
theorem fl_X0_74 : zF RX0 74 4 6 RX2 TX2 7 := ⟨rfl, zi_X2, by decide, rfl, Or.inl (tb3 (j := 99) (by decide +kernel) rfl)⟩
theorem ml_X0_77 : zM RX0 77 yJ6_bitCount_0f7a4 cJ6_bitCount_0f7a4 1 (some FieldType.int) 1 := ⟨mc_J6_bitCount_0f7a4, tb1 (j := 168) (by decide +kernel) rfl⟩
theorem mc_X0_prepare : zM0 yX0_prepare cX0_prepare 5 (none) 3 := ⟨tb1 (j := 139) (by decide +kernel) rfl, tb1 (j := 4) (by decide +kernel) rfl, by decide +kernel⟩
theorem in_X0_prepare : Cond.instanceMethod yX0_prepare ∈ zTBL := tb1 (j := 137) (by decide +kernel) rfl
theorem se_X0_prepare : Cond.selects RX0 yX0_prepare yX0_prepare ∈ zTBL := tbp (j := 1) (by decide +kernel) rfl
theorem ml_X0_82 : zM RX0 82 yX0_prepare cX0_prepare 5 (none) 3 := ⟨mc_X0_prepare, tb1 (j := 135) (by decide +kernel) rfl⟩
theorem ml_X0_86 : zMN RX0 86 yX5_has cX5_has 2 (some FieldType.boolean) 2 := ⟨mc_X5_has, "Doublecoat", nb1 (j := 167) (by decide +kernel) rfl⟩
theorem mc_X2_fillClashes : zM0 yX2_fillClashes cX2_fillClashes 5 (none) 2 := ⟨tb1 (j := 143) (by decide +kernel) rfl, tb1 (j := 2) (by decide +kernel) rfl, by decide +kernel⟩
theorem in_X2_fillClashes : Cond.instanceMethod yX2_fillClashes ∈ zTBL := tb1 (j := 141) (by decide +kernel) rfl
theorem se_X2_fillClashes : Cond.selects RX2 yX2_fillClashes yX2_fillClashes ∈ zTBL := tb1 (j := 142) (by decide +kernel) rfl
theorem ml_X0_90 : zM RX0 90 yX2_fillClashes cX2_fillClashes 5 (none) 2 := ⟨mc_X2_fillClashes, tb1 (j := 140) (by decide +kernel) rfl⟩
theorem fl_X0_94 : zF RX0 94 4 5 RX2 TX2 7 := ⟨rfl, zi_X2, by decide, rfl, Or.inl (tb3 (j := 96) (by decide +kernel) rfl)⟩
theorem fl_X0_97 : zF RX0 97 4 0 RX2 TX2 7 := ⟨rfl, zi_X2, by decide, rfl, Or.inl (tb3 (j := 84) (by decide +kernel) rfl)⟩
theorem ml_X0_100 : zM RX0 100 yX1_ableOfAny cX1_ableOfAny 4 (some FieldType.int) 1 := ⟨mc_X1_ableOfAny, tb1 (j := 154) (by decide +kernel) rfl⟩
theorem mc_X0_orderByChoice : zM0 yX0_orderByChoice cX0_orderByChoice 4 (none) 1 := ⟨tb1 (j := 166) (by decide +kernel) rfl, tb1 (j := 4) (by decide +kernel) rfl, by decide +kernel⟩
theorem in_X0_orderByChoice : Cond.instanceMethod yX0_orderByChoice ∈ zTBL := tb1 (j := 165) (by decide +kernel) rfl
theorem se_X0_orderByChoice : Cond.selects RX0 yX0_orderByChoice yX0_orderByChoice ∈ zTBL := tbp (j := 4) (by decide +kernel) rfl
theorem ml_X0_105 : zM RX0 105 yX0_orderByChoice cX0_orderByChoice 4 (none) 1 := ⟨mc_X0_orderByChoice, tb1 (j := 163) (by decide +kernel) rfl⟩
theorem fl_X0_108 : zF RX0 108 2 8 RX0 TX0 9 := ⟨rfl, zi_X0, by decide, rfl, Or.inl (tb3 (j := 162) (by decide +kernel) rfl)⟩
theorem mc_X0_canPlaceFrom : zM0 yX0_canPlaceFrom cX0_canPlaceFrom 6 (some FieldType.boolean) 3 := ⟨tb1 (j := 180) (by decide +kernel) rfl, tb1 (j := 4) (by decide +kernel) rfl, by decide +kernel⟩
theorem st_X0_canPlaceFrom : Cond.static yX0_canPlaceFrom ∈ zTBL := tb1 (j := 179) (by decide +kernel) rfl
theorem ml_X0_111 : zM RX0 111 yX0_canPlaceFrom cX0_canPlaceFrom 6 (some FieldType.boolean) 3 := ⟨mc_X0_canPlaceFrom, tb1 (j := 178) (by decide +kernel) rfl⟩
theorem fl_X1_9 : zF RX1 9 3 0 RX1 TX1 6 := ⟨rfl, zi_X1, by decide, rfl, Or.inl (tb3 (j := 121) (by decide +kernel) rfl)⟩
theorem fl_X1_15 : zF RX1 15 3 1 RX1 TX1 6 := ⟨rfl, zi_X1, by decide, rfl, Or.inl (tb3 (j := 123) (by decide +kernel) rfl)⟩
theorem fl_X1_18 : zF RX1 18 3 2 RX1 TX1 6 := ⟨rfl, zi_X1, by decide, rfl, Or.inl (tb3 (j := 125) (by decide +kernel) rfl)⟩
theorem fl_X1_21 : zF RX1 21 3 3 RX1 TX1 6 := ⟨rfl, zi_X1, by decide, rfl, Or.inl (tb3 (j := 127) (by decide +kernel) rfl)⟩
theorem fl_X1_24 : zF RX1 24 3 4 RX1 TX1 6 := ⟨rfl, zi_X1, by decide, rfl, Or.inl (tb3 (j := 129) (by decide +kernel) rfl)⟩
theorem fl_X1_28 : zF RX1 28 3 5 RX1 TX1 6 := ⟨rfl, zi_X1, by decide, rfl, Or.inl (tb3 (j := 131) (by decide +kernel) rfl)⟩
theorem ml_X1_31 : zM RX1 31 yJ6_bitCount_0f7a4 cJ6_bitCount_0f7a4 1 (some FieldType.int) 1 := ⟨mc_J6_bitCount_0f7a4, tb1 (j := 204) (by decide +kernel) rfl⟩
theorem ml_X1_37 : zMN RX1 37 yX5_has cX5_has 2 (some FieldType.boolean) 2 := ⟨mc_X5_has, "Doublecoat", nb1 (j := 158) (by decide +kernel) rfl⟩
theorem mc_X1_sharesOf : zM0 yX1_sharesOf cX1_sharesOf 4 (some FieldType.int) 1 := ⟨tb2 (j := 48) (by decide +kernel) rfl, tb1 (j := 3) (by decide +kernel) rfl, by decide +kernel⟩
theorem in_X1_sharesOf : Cond.instanceMethod yX1_sharesOf ∈ zTBL := tb2 (j := 46) (by decide +kernel) rfl
theorem se_X1_sharesOf : Cond.selects RX1 yX1_sharesOf yX1_sharesOf ∈ zTBL := tbp (j := 13) (by decide +kernel) rfl
theorem ml_X1_41 : zM RX1 41 yX1_sharesOf cX1_sharesOf 4 (some FieldType.int) 1 := ⟨mc_X1_sharesOf, tb2 (j := 44) (by decide +kernel) rfl⟩
theorem fl_X2_9 : zF RX2 9 4 0 RX2 TX2 7 := ⟨rfl, zi_X2, by decide, rfl, Or.inl (tb3 (j := 83) (by decide +kernel) rfl)⟩
theorem fl_X2_15 : zF RX2 15 4 1 RX2 TX2 7 := ⟨rfl, zi_X2, by decide, rfl, Or.inl (tb3 (j := 86) (by decide +kernel) rfl)⟩
theorem fl_X2_18 : zF RX2 18 4 2 RX2 TX2 7 := ⟨rfl, zi_X2, by decide, rfl, Or.inl (tb3 (j := 88) (by decide +kernel) rfl)⟩
theorem fl_X2_21 : zF RX2 21 4 3 RX2 TX2 7 := ⟨rfl, zi_X2, by decide, rfl, Or.inl (tb3 (j := 90) (by decide +kernel) rfl)⟩
theorem fl_X2_24 : zF RX2 24 4 4 RX2 TX2 7 := ⟨rfl, zi_X2, by decide, rfl, Or.inl (tb3 (j := 92) (by decide +kernel) rfl)⟩
theorem fl_X2_27 : zF RX2 27 4 5 RX2 TX2 7 := ⟨rfl, zi_X2, by decide, rfl, Or.inl (tb3 (j := 94) (by decide +kernel) rfl)⟩
theorem fl_X2_31 : zF RX2 31 4 6 RX2 TX2 7 := ⟨rfl, zi_X2, by decide, rfl, Or.inl (tb3 (j := 97) (by decide +kernel) rfl)⟩
theorem ml_X2_34 : zMN RX2 34 yX5_has cX5_has 2 (some FieldType.boolean) 2 := ⟨mc_X5_has, "Doublecoat", nb1 (j := 144) (by decide +kernel) rfl⟩
theorem mc_X2_clashTogether : zM0 yX2_clashTogether cX2_clashTogether 4 (none) 2 := ⟨tb1 (j := 149) (by decide +kernel) rfl, tb1 (j := 2) (by decide +kernel) rfl, by decide +kernel⟩
theorem in_X2_clashTogether : Cond.instanceMethod yX2_clashTogether ∈ zTBL := tb1 (j := 147) (by decide +kernel) rfl
theorem se_X2_clashTogether : Cond.selects RX2 yX2_clashTogether yX2_clashTogether ∈ zTBL := tbp (j := 2) (by decide +kernel) rfl
theorem ml_X2_38 : zM RX2 38 yX2_clashTogether cX2_clashTogether 4 (none) 2 := ⟨mc_X2_clashTogether, tb1 (j := 145) (by decide +kernel) rfl⟩
theorem mc_X2_clashInTurn : zM0 yX2_clashInTurn cX2_clashInTurn 6 (none) 3 := ⟨tb1 (j := 153) (by decide +kernel) rfl, tb1 (j := 2) (by decide +kernel) rfl, by decide +kernel⟩
theorem in_X2_clashInTurn : Cond.instanceMethod yX2_clashInTurn ∈ zTBL := tb1 (j := 152) (by decide +kernel) rfl
theorem se_X2_clashInTurn : Cond.selects RX2 yX2_clashInTurn yX2_clashInTurn ∈ zTBL := tbp (j := 3) (by decide +kernel) rfl
theorem ml_X2_42 : zM RX2 42 yX2_clashInTurn cX2_clashInTurn 6 (none) 3 := ⟨mc_X2_clashInTurn, tb1 (j := 150) (by decide +kernel) rfl⟩
theorem fl_X3_9 : zF RX3 9 5 0 RX3 TX3 6 := ⟨rfl, zi_X3, by decide, rfl, Or.inl (tb3 (j := 222) (by decide +kernel) rfl)⟩
theorem fl_X3_15 : zF RX3 15 5 1 RX3 TX3 6 := ⟨rfl, zi_X3, by decide, rfl, Or.inl (tb3 (j := 224) (by decide +kernel) rfl)⟩
theorem fl_X3_18 : zF RX3 18 5 2 RX3 TX3 6 := ⟨rfl, zi_X3, by decide, rfl, Or.inl (tb3 (j := 226) (by decide +kernel) rfl)⟩
theorem fl_X3_21 : zF RX3 21 5 3 RX3 TX3 6 := ⟨rfl, zi_X3, by decide, rfl, Or.inl (tb3 (j := 228) (by decide +kernel) rfl)⟩
theorem fl_X3_26 : zF RX3 26 5 5 RX3 TX3 6 := ⟨rfl, zi_X3, by decide, rfl, Or.inl (tb3 (j := 232) (by decide +kernel) rfl)⟩
theorem fl_X3_29 : zF RX3 29 5 4 RX3 TX3 6 := ⟨rfl, zi_X3, by decide, rfl, Or.inl (tb3 (j := 230) (by decide +kernel) rfl)⟩
theorem mc_X3_measure : zM0 yX3_measure cX3_measure 4 (none) 1 := ⟨tb4 (j := 108) (by decide +kernel) rfl, tb1 (j := 6) (by decide +kernel) rfl, by decide +kernel⟩
theorem in_X3_measure : Cond.instanceMethod yX3_measure ∈ zTBL := tb4 (j := 107) (by decide +kernel) rfl
theorem se_X3_measure : Cond.selects RX3 yX3_measure yX3_measure ∈ zTBL := tbp (j := 17) (by decide +kernel) rfl
theorem ml_X3_33 : zM RX3 33 yX3_measure cX3_measure 4 (none) 1 := ⟨mc_X3_measure, tb4 (j := 105) (by decide +kernel) rfl⟩
theorem ml_X3_37 : zMN RX3 37 yX5_has cX5_has 2 (some FieldType.boolean) 2 := ⟨mc_X5_has, "Doublecoat", nb2 (j := 107) (by decide +kernel) rfl⟩
theorem mc_X3_milesOut : zM0 yX3_milesOut cX3_milesOut 6 (some FieldType.int) 2 := ⟨tb4 (j := 112) (by decide +kernel) rfl, tb1 (j := 6) (by decide +kernel) rfl, by decide +kernel⟩
theorem in_X3_milesOut : Cond.instanceMethod yX3_milesOut ∈ zTBL := tb4 (j := 111) (by decide +kernel) rfl
theorem se_X3_milesOut : Cond.selects RX3 yX3_milesOut yX3_milesOut ∈ zTBL := tbp (j := 18) (by decide +kernel) rfl
theorem ml_X3_41 : zM RX3 41 yX3_milesOut cX3_milesOut 6 (some FieldType.int) 2 := ⟨mc_X3_milesOut, tb4 (j := 109) (by decide +kernel) rfl⟩
theorem ml_X3_45 : zM RX3 45 yX3_milesHome cX3_milesHome 2 (some FieldType.int) 1 := ⟨mc_X3_milesHome, tb4 (j := 113) (by decide +kernel) rfl⟩
theorem mc_J9_abs_0f7a4 : zM0 yJ9_abs_0f7a4 cJ9_abs_0f7a4 1 (some FieldType.int) 1 := ⟨tb2 (j := 73) (by decide +kernel) rfl, tb1 (j := 12) (by decide +kernel) rfl, by decide +kernel⟩
theorem st_J9_abs_0f7a4 : Cond.static yJ9_abs_0f7a4 ∈ zTBL := tb2 (j := 72) (by decide +kernel) rfl
theorem ml_X3_49 : zM RX3 49 yJ9_abs_0f7a4 cJ9_abs_0f7a4 1 (some FieldType.int) 1 := ⟨mc_J9_abs_0f7a4, tb4 (j := 114) (by decide +kernel) rfl⟩
theorem ml_X3_54 : zM RX3 54 yX3_takingsOf cX3_takingsOf 4 (some FieldType.int) 1 := ⟨mc_X3_takingsOf, tb2 (j := 103) (by decide +kernel) rfl⟩
theorem fl_X4_9 : zF RX4 9 6 0 RX4 TX4 7 := ⟨rfl, zi_X4, by decide, rfl, Or.inl (tb3 (j := 187) (by decide +kernel) rfl)⟩
theorem fl_X4_15 : zF RX4 15 6 1 RX4 TX4 7 := ⟨rfl, zi_X4, by decide, rfl, Or.inl (tb3 (j := 189) (by decide +kernel) rfl)⟩
theorem fl_X4_18 : zF RX4 18 6 2 RX4 TX4 7 := ⟨rfl, zi_X4, by decide, rfl, Or.inl (tb3 (j := 191) (by decide +kernel) rfl)⟩
theorem fl_X4_21 : zF RX4 21 6 5 RX4 TX4 7 := ⟨rfl, zi_X4, by decide, rfl, Or.inl (tb3 (j := 197) (by decide +kernel) rfl)⟩
theorem fl_X4_24 : zF RX4 24 6 3 RX4 TX4 7 := ⟨rfl, zi_X4, by decide, rfl, Or.inl (tb3 (j := 193) (by decide +kernel) rfl)⟩
theorem fl_X4_28 : zF RX4 28 6 6 RX4 TX4 7 := ⟨rfl, zi_X4, by decide, rfl, Or.inl (tb3 (j := 198) (by decide +kernel) rfl)⟩
theorem ml_X4_31 : zM RX4 31 yJ6_bitCount_0f7a4 cJ6_bitCount_0f7a4 1 (some FieldType.int) 1 := ⟨mc_J6_bitCount_0f7a4, tb2 (j := 65) (by decide +kernel) rfl⟩
theorem mc_X4_wasteOf : zM0 yX4_wasteOf cX4_wasteOf 5 (some FieldType.int) 3 := ⟨tb2 (j := 70) (by decide +kernel) rfl, tb1 (j := 5) (by decide +kernel) rfl, by decide +kernel⟩
theorem in_X4_wasteOf : Cond.instanceMethod yX4_wasteOf ∈ zTBL := tb2 (j := 68) (by decide +kernel) rfl
theorem se_X4_wasteOf : Cond.selects RX4 yX4_wasteOf yX4_wasteOf ∈ zTBL := tbp (j := 15) (by decide +kernel) rfl
theorem ml_X4_37 : zM RX4 37 yX4_wasteOf cX4_wasteOf 5 (some FieldType.int) 3 := ⟨mc_X4_wasteOf, tb2 (j := 66) (by decide +kernel) rfl⟩
theorem ml_X4_41 : zMN RX4 41 yX5_has cX5_has 2 (some FieldType.boolean) 2 := ⟨mc_X5_has, "Doublecoat", nb2 (j := 74) (by decide +kernel) rfl⟩
theorem mc_X4_keepLess : zM0 yX4_keepLess cX4_keepLess 3 (none) 2 := ⟨tb2 (j := 78) (by decide +kernel) rfl, tb1 (j := 5) (by decide +kernel) rfl, by decide +kernel⟩
theorem in_X4_keepLess : Cond.instanceMethod yX4_keepLess ∈ zTBL := tb2 (j := 77) (by decide +kernel) rfl
theorem se_X4_keepLess : Cond.selects RX4 yX4_keepLess yX4_keepLess ∈ zTBL := tbp (j := 16) (by decide +kernel) rfl
theorem ml_X4_45 : zM RX4 45 yX4_keepLess cX4_keepLess 3 (none) 2 := ⟨mc_X4_keepLess, tb2 (j := 75) (by decide +kernel) rfl⟩
theorem ml_X4_49 : zM RX4 49 yJ9_abs_0f7a4 cJ9_abs_0f7a4 1 (some FieldType.int) 1 := ⟨mc_J9_abs_0f7a4, tb2 (j := 71) (by decide +kernel) rfl⟩
theorem fl_X4_54 : zF RX4 54 6 4 RX4 TX4 7 := ⟨rfl, zi_X4, by decide, rfl, Or.inl (tb3 (j := 195) (by decide +kernel) rfl)⟩
theorem mc_L_below : zM0 yL_below cL_below 2 (some FieldType.int) 2 := ⟨tb4 (j := 36) (by decide +kernel) rfl, tb1 (j := 0) (by decide +kernel) rfl, by decide +kernel⟩
theorem st_L_below : Cond.static yL_below ∈ zTBL := tb4 (j := 35) (by decide +kernel) rfl
theorem mc_L_cell : zM0 yL_cell cL_cell 2 (some FieldType.int) 2 := ⟨tb3 (j := 68) (by decide +kernel) rfl, tb1 (j := 0) (by decide +kernel) rfl, by decide +kernel⟩
theorem st_L_cell : Cond.static yL_cell ∈ zTBL := tb3 (j := 67) (by decide +kernel) rfl
theorem mc_L_company : zM0 yL_company cL_company 8 (some (FieldType.object "Doublecoat")) 1 := ⟨tb3 (j := 72) (by decide +kernel) rfl, tb1 (j := 0) (by decide +kernel) rfl, by decide +kernel⟩
theorem st_L_company : Cond.static yL_company ∈ zTBL := tb3 (j := 71) (by decide +kernel) rfl
theorem ml_L_11 : zM RL 11 yX5_init cX5_init 1 (none) 0 := ⟨mc_X5_init, tb3 (j := 74) (by decide +kernel) rfl⟩
theorem ml_L_12 : zM RL 12 yL_cell cL_cell 2 (some FieldType.int) 2 := ⟨mc_L_cell, tb3 (j := 66) (by decide +kernel) rfl⟩
theorem ml_L_18 : zM RL 18 yL_below cL_below 2 (some FieldType.int) 2 := ⟨mc_L_below, tb4 (j := 34) (by decide +kernel) rfl⟩
theorem ml_L_22 : zM RL 22 yX5_part cX5_part 4 (some FieldType.int) 3 := ⟨mc_X5_part, tb4 (j := 38) (by decide +kernel) rfl⟩
theorem ml_L_26 : zM RL 26 yX5_player cX5_player 4 (some FieldType.int) 3 := ⟨mc_X5_player, tb4 (j := 69) (by decide +kernel) rfl⟩
theorem ml_L_29 : zM RL 29 yX5_scene cX5_scene 3 (some FieldType.int) 2 := ⟨mc_X5_scene, tb4 (j := 81) (by decide +kernel) rfl⟩
theorem ml_L_32 : zM RL 32 yX5_coat cX5_coat 4 (some FieldType.int) 3 := ⟨mc_X5_coat, tb4 (j := 89) (by decide +kernel) rfl⟩
theorem ml_L_35 : zM RL 35 yX5_town cX5_town 4 (some FieldType.int) 3 := ⟨mc_X5_town, tb4 (j := 97) (by decide +kernel) rfl⟩
theorem ml_L_38 : zM RL 38 yX5_house cX5_house 2 (some FieldType.int) 1 := ⟨mc_X5_house, tb1 (j := 196) (by decide +kernel) rfl⟩
theorem ml_L_42 : zM RL 42 yJ9_max_7cf53 cJ9_max_7cf53 2 (some FieldType.int) 2 := ⟨mc_J9_max_7cf53, tb4 (j := 120) (by decide +kernel) rfl⟩
theorem ml_L_47 : zM RL 47 yX5_sick cX5_sick 3 (some FieldType.int) 2 := ⟨mc_X5_sick, tb4 (j := 121) (by decide +kernel) rfl⟩
theorem ml_L_51 : zM RL 51 yX5_pause cX5_pause 4 (some FieldType.int) 2 := ⟨mc_X5_pause, tb4 (j := 125) (by decide +kernel) rfl⟩
theorem ml_L_54 : zM RL 54 yX5_pawn cX5_pawn 3 (some FieldType.int) 2 := ⟨mc_X5_pawn, tb4 (j := 129) (by decide +kernel) rfl⟩
theorem ml_L_57 : zM RL 57 yX5_redeem cX5_redeem 4 (some FieldType.int) 2 := ⟨mc_X5_redeem, tb4 (j := 134) (by decide +kernel) rfl⟩
theorem ml_L_60 : zM RL 60 yX5_night cX5_night 5 (some FieldType.int) 1 := ⟨mc_X5_night, tb4 (j := 139) (by decide +kernel) rfl⟩
theorem ml_L_67 : zM RL 67 yL_company cL_company 8 (some (FieldType.object "Doublecoat")) 1 := ⟨mc_L_company, tb3 (j := 70) (by decide +kernel) rfl⟩
theorem mc_L_isFilled : zM0 yL_isFilled cL_isFilled 6 (some FieldType.boolean) 2 := ⟨tb4 (j := 146) (by decide +kernel) rfl, tb1 (j := 0) (by decide +kernel) rfl, by decide +kernel⟩
theorem st_L_isFilled : Cond.static yL_isFilled ∈ zTBL := tb4 (j := 145) (by decide +kernel) rfl
theorem ml_L_71 : zM RL 71 yL_isFilled cL_isFilled 6 (some FieldType.boolean) 2 := ⟨mc_L_isFilled, tb4 (j := 144) (by decide +kernel) rfl⟩
theorem ml_L_75 : zM RL 75 yX5_ofPlayer cX5_ofPlayer 3 (some FieldType.int) 2 := ⟨mc_X5_ofPlayer, tb1 (j := 24) (by decide +kernel) rfl⟩
theorem ml_L_78 : zM RL 78 yX5_digest cX5_digest 5 (some FieldType.long) 0 := ⟨mc_X5_digest, tb2 (j := 10) (by decide +kernel) rfl⟩
theorem ml_L_85 : zM RL 85 yX5_isSound cX5_isSound 3 (some FieldType.boolean) 0 := ⟨mc_X5_isSound, tb1 (j := 210) (by decide +kernel) rfl⟩
theorem ml_L_89 : zM RL 89 yX5_ofScene cX5_ofScene 4 (some FieldType.int) 2 := ⟨mc_X5_ofScene, tb4 (j := 147) (by decide +kernel) rfl⟩
theorem mc_L_excess : zM0 yL_excess cL_excess 4 (some FieldType.int) 2 := ⟨tb4 (j := 150) (by decide +kernel) rfl, tb1 (j := 0) (by decide +kernel) rfl, by decide +kernel⟩
theorem st_L_excess : Cond.static yL_excess ∈ zTBL := tb4 (j := 149) (by decide +kernel) rfl
theorem ml_L_92 : zM RL 92 yL_excess cL_excess 4 (some FieldType.int) 2 := ⟨mc_L_excess, tb4 (j := 148) (by decide +kernel) rfl⟩
theorem ml_L_96 : zM RL 96 yJ6_bitCount_0f7a4 cJ6_bitCount_0f7a4 1 (some FieldType.int) 1 := ⟨mc_J6_bitCount_0f7a4, tb4 (j := 156) (by decide +kernel) rfl⟩
theorem mc_J6_numberOfTrailingZeros_0f7a4 : zM0 yJ6_numberOfTrailingZeros_0f7a4 cJ6_numberOfTrailingZeros_0f7a4 2 (some FieldType.int) 1 := ⟨tb4 (j := 153) (by decide +kernel) rfl, tb1 (j := 13) (by decide +kernel) rfl, by decide +kernel⟩
theorem st_J6_numberOfTrailingZeros_0f7a4 : Cond.static yJ6_numberOfTrailingZeros_0f7a4 ∈ zTBL := tb4 (j := 152) (by decide +kernel) rfl
theorem ml_L_101 : zM RL 101 yJ6_numberOfTrailingZeros_0f7a4 cJ6_numberOfTrailingZeros_0f7a4 2 (some FieldType.int) 1 := ⟨mc_J6_numberOfTrailingZeros_0f7a4, tb4 (j := 151) (by decide +kernel) rfl⟩
theorem ml_L_104 : zM RL 104 yX5_ofPart cX5_ofPart 3 (some FieldType.int) 2 := ⟨mc_X5_ofPart, tb4 (j := 155) (by decide +kernel) rfl⟩
