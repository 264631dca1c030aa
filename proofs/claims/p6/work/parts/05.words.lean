/-! words, by their places in the tables -/
theorem tin1 {j : Nat} {w : Cond} (h : tables_1_1[j]? = some w) : w ∈ lw_tbl := List.mem_append_right _ (show w ∈ tables_1 from List.mem_append_left _ (List.mem_of_getElem? h))
theorem tb1 {j : Nat} {w : Cond} (h : tables_1_1[j]? = some w) (hg : goodWord w = true) : w ∈ zTBL := List.mem_filter.mpr ⟨tin1 h, hg⟩
theorem nb1 {j : Nat} {w : Cond} (h : tables_1_1[j]? = some w) (hg : zNst w = true) : w ∈ zNL := List.mem_filter.mpr ⟨tin1 h, hg⟩
theorem tin2 {j : Nat} {w : Cond} (h : tables_1_2[j]? = some w) : w ∈ lw_tbl := List.mem_append_right _ (show w ∈ tables_1 from List.mem_append_right _ (List.mem_append_left _ (List.mem_of_getElem? h)))
theorem tb2 {j : Nat} {w : Cond} (h : tables_1_2[j]? = some w) (hg : goodWord w = true) : w ∈ zTBL := List.mem_filter.mpr ⟨tin2 h, hg⟩
theorem nb2 {j : Nat} {w : Cond} (h : tables_1_2[j]? = some w) (hg : zNst w = true) : w ∈ zNL := List.mem_filter.mpr ⟨tin2 h, hg⟩
theorem tin3 {j : Nat} {w : Cond} (h : tables_1_3[j]? = some w) : w ∈ lw_tbl := List.mem_append_right _ (show w ∈ tables_1 from List.mem_append_right _ (List.mem_append_right _ (List.mem_append_left _ (List.mem_of_getElem? h))))
theorem tb3 {j : Nat} {w : Cond} (h : tables_1_3[j]? = some w) (hg : goodWord w = true) : w ∈ zTBL := List.mem_filter.mpr ⟨tin3 h, hg⟩
theorem nb3 {j : Nat} {w : Cond} (h : tables_1_3[j]? = some w) (hg : zNst w = true) : w ∈ zNL := List.mem_filter.mpr ⟨tin3 h, hg⟩
theorem tin4 {j : Nat} {w : Cond} (h : tables_1_4[j]? = some w) : w ∈ lw_tbl := List.mem_append_right _ (show w ∈ tables_1 from List.mem_append_right _ (List.mem_append_right _ (List.mem_append_right _ (List.mem_append_left _ (List.mem_of_getElem? h)))))
theorem tb4 {j : Nat} {w : Cond} (h : tables_1_4[j]? = some w) (hg : goodWord w = true) : w ∈ zTBL := List.mem_filter.mpr ⟨tin4 h, hg⟩
theorem nb4 {j : Nat} {w : Cond} (h : tables_1_4[j]? = some w) (hg : zNst w = true) : w ∈ zNL := List.mem_filter.mpr ⟨tin4 h, hg⟩
theorem tin5 {j : Nat} {w : Cond} (h : tables_1_5[j]? = some w) : w ∈ lw_tbl := List.mem_append_right _ (show w ∈ tables_1 from List.mem_append_right _ (List.mem_append_right _ (List.mem_append_right _ (List.mem_append_right _ (List.mem_append_left _ (List.mem_of_getElem? h))))))
theorem tb5 {j : Nat} {w : Cond} (h : tables_1_5[j]? = some w) (hg : goodWord w = true) : w ∈ zTBL := List.mem_filter.mpr ⟨tin5 h, hg⟩
theorem nb5 {j : Nat} {w : Cond} (h : tables_1_5[j]? = some w) (hg : zNst w = true) : w ∈ zNL := List.mem_filter.mpr ⟨tin5 h, hg⟩
theorem tin6 {j : Nat} {w : Cond} (h : tables_1_6[j]? = some w) : w ∈ lw_tbl := List.mem_append_right _ (show w ∈ tables_1 from List.mem_append_right _ (List.mem_append_right _ (List.mem_append_right _ (List.mem_append_right _ (List.mem_append_right _ (List.mem_append_left _ (List.mem_of_getElem? h)))))))
theorem tb6 {j : Nat} {w : Cond} (h : tables_1_6[j]? = some w) (hg : goodWord w = true) : w ∈ zTBL := List.mem_filter.mpr ⟨tin6 h, hg⟩
theorem nb6 {j : Nat} {w : Cond} (h : tables_1_6[j]? = some w) (hg : zNst w = true) : w ∈ zNL := List.mem_filter.mpr ⟨tin6 h, hg⟩
theorem tin7 {j : Nat} {w : Cond} (h : tables_1_7[j]? = some w) : w ∈ lw_tbl := List.mem_append_right _ (show w ∈ tables_1 from List.mem_append_right _ (List.mem_append_right _ (List.mem_append_right _ (List.mem_append_right _ (List.mem_append_right _ (List.mem_append_right _ (List.mem_of_getElem? h)))))))
theorem tb7 {j : Nat} {w : Cond} (h : tables_1_7[j]? = some w) (hg : goodWord w = true) : w ∈ zTBL := List.mem_filter.mpr ⟨tin7 h, hg⟩
theorem nb7 {j : Nat} {w : Cond} (h : tables_1_7[j]? = some w) (hg : zNst w = true) : w ∈ zNL := List.mem_filter.mpr ⟨tin7 h, hg⟩
theorem tbp {j : Nat} {w : Cond} (h : (k2_sels lw_privs)[j]? = some w) (hg : goodWord w = true) : w ∈ zTBL := List.mem_filter.mpr ⟨List.mem_append_left _ (List.mem_of_getElem? h), hg⟩
theorem zi_X0 : ∀ w ∈ u_ws RX0 TX0 9, w ∈ zTBL := by
  intro w hw
  obtain ⟨i, hi, rfl⟩ := List.mem_map.mp hw
  have hi : i < 9 := List.mem_range.mp hi
  match i, hi with
  | 0, _ => exact tb1 (j := 133) (by decide +kernel) rfl
  | 1, _ => exact tb1 (j := 135) (by decide +kernel) rfl
  | 2, _ => exact tb1 (j := 137) (by decide +kernel) rfl
  | 3, _ => exact tb1 (j := 139) (by decide +kernel) rfl
  | 4, _ => exact tb1 (j := 141) (by decide +kernel) rfl
  | 5, _ => exact tb1 (j := 143) (by decide +kernel) rfl
  | 6, _ => exact tb1 (j := 145) (by decide +kernel) rfl
  | 7, _ => exact tb1 (j := 147) (by decide +kernel) rfl
  | 8, _ => exact tb1 (j := 149) (by decide +kernel) rfl
  | i + 9, hi => exact absurd hi (by omega)
theorem zt_X0 : zT RX0 TX0 9 := ⟨⟨tyX0, tyX0_ok⟩, nmX0⟩
theorem zi_X1 : ∀ w ∈ u_ws RX1 TX1 6, w ∈ zTBL := by
  intro w hw
  obtain ⟨i, hi, rfl⟩ := List.mem_map.mp hw
  have hi : i < 6 := List.mem_range.mp hi
  match i, hi with
  | 0, _ => exact tb1 (j := 102) (by decide +kernel) rfl
  | 1, _ => exact tb1 (j := 104) (by decide +kernel) rfl
  | 2, _ => exact tb1 (j := 106) (by decide +kernel) rfl
  | 3, _ => exact tb1 (j := 108) (by decide +kernel) rfl
  | 4, _ => exact tb1 (j := 110) (by decide +kernel) rfl
  | 5, _ => exact tb1 (j := 112) (by decide +kernel) rfl
  | i + 6, hi => exact absurd hi (by omega)
theorem zt_X1 : zT RX1 TX1 6 := ⟨⟨tyX1, tyX1_ok⟩, nmX1⟩
theorem zi_X2 : ∀ w ∈ u_ws RX2 TX2 7, w ∈ zTBL := by
  intro w hw
  obtain ⟨i, hi, rfl⟩ := List.mem_map.mp hw
  have hi : i < 7 := List.mem_range.mp hi
  match i, hi with
  | 0, _ => exact tb1 (j := 68) (by decide +kernel) rfl
  | 1, _ => exact tb1 (j := 70) (by decide +kernel) rfl
  | 2, _ => exact tb1 (j := 72) (by decide +kernel) rfl
  | 3, _ => exact tb1 (j := 74) (by decide +kernel) rfl
  | 4, _ => exact tb1 (j := 76) (by decide +kernel) rfl
  | 5, _ => exact tb1 (j := 78) (by decide +kernel) rfl
  | 6, _ => exact tb1 (j := 80) (by decide +kernel) rfl
  | i + 7, hi => exact absurd hi (by omega)
theorem zt_X2 : zT RX2 TX2 7 := ⟨⟨tyX2, tyX2_ok⟩, nmX2⟩
theorem zi_X3 : ∀ w ∈ u_ws RX3 TX3 6, w ∈ zTBL := by
  intro w hw
  obtain ⟨i, hi, rfl⟩ := List.mem_map.mp hw
  have hi : i < 6 := List.mem_range.mp hi
  match i, hi with
  | 0, _ => exact tb1 (j := 204) (by decide +kernel) rfl
  | 1, _ => exact tb1 (j := 206) (by decide +kernel) rfl
  | 2, _ => exact tb1 (j := 208) (by decide +kernel) rfl
  | 3, _ => exact tb1 (j := 210) (by decide +kernel) rfl
  | 4, _ => exact tb1 (j := 212) (by decide +kernel) rfl
  | 5, _ => exact tb1 (j := 214) (by decide +kernel) rfl
  | i + 6, hi => exact absurd hi (by omega)
theorem zt_X3 : zT RX3 TX3 6 := ⟨⟨tyX3, tyX3_ok⟩, nmX3⟩
theorem zi_X4 : ∀ w ∈ u_ws RX4 TX4 7, w ∈ zTBL := by
  intro w hw
  obtain ⟨i, hi, rfl⟩ := List.mem_map.mp hw
  have hi : i < 7 := List.mem_range.mp hi
  match i, hi with
  | 0, _ => exact tb1 (j := 170) (by decide +kernel) rfl
  | 1, _ => exact tb1 (j := 172) (by decide +kernel) rfl
  | 2, _ => exact tb1 (j := 174) (by decide +kernel) rfl
  | 3, _ => exact tb1 (j := 176) (by decide +kernel) rfl
  | 4, _ => exact tb1 (j := 178) (by decide +kernel) rfl
  | 5, _ => exact tb1 (j := 180) (by decide +kernel) rfl
  | 6, _ => exact tb1 (j := 182) (by decide +kernel) rfl
  | i + 7, hi => exact absurd hi (by omega)
theorem zt_X4 : zT RX4 TX4 7 := ⟨⟨tyX4, tyX4_ok⟩, nmX4⟩
theorem zi_X5 : ∀ w ∈ u_ws RX5 TX5 9, w ∈ zTBL := by
  intro w hw
  obtain ⟨i, hi, rfl⟩ := List.mem_map.mp hw
  have hi : i < 9 := List.mem_range.mp hi
  match i, hi with
  | 0, _ => exact tb1 (j := 226) (by decide +kernel) rfl
  | 1, _ => exact tb1 (j := 228) (by decide +kernel) rfl
  | 2, _ => exact tb1 (j := 230) (by decide +kernel) rfl
  | 3, _ => exact tb1 (j := 232) (by decide +kernel) rfl
  | 4, _ => exact tb1 (j := 234) (by decide +kernel) rfl
  | 5, _ => exact tb1 (j := 236) (by decide +kernel) rfl
  | 6, _ => exact tb1 (j := 238) (by decide +kernel) rfl
  | 7, _ => exact tb2 (j := 0) (by decide +kernel) rfl
  | 8, _ => exact tb2 (j := 2) (by decide +kernel) rfl
  | i + 9, hi => exact absurd hi (by omega)
theorem zt_X5 : zT RX5 TX5 9 := ⟨⟨tyX5, tyX5_ok⟩, nmX5⟩
theorem zi_X6 : ∀ w ∈ u_ws RX6 TX6 1, w ∈ zTBL := by
  intro w hw
  obtain ⟨i, hi, rfl⟩ := List.mem_map.mp hw
  have hi : i < 1 := List.mem_range.mp hi
  match i, hi with
  | 0, _ => exact tb4 (j := 120) (by decide +kernel) rfl
  | i + 1, hi => exact absurd hi (by omega)
theorem zt_X6 : zT RX6 TX6 1 := ⟨⟨tyX6, tyX6_ok⟩, nmX6⟩
theorem zi_X7 : ∀ w ∈ u_ws RX7 TX7 4, w ∈ zTBL := by
  intro w hw
  obtain ⟨i, hi, rfl⟩ := List.mem_map.mp hw
  have hi : i < 4 := List.mem_range.mp hi
  match i, hi with
  | 0, _ => exact tb6 (j := 137) (by decide +kernel) rfl
  | 1, _ => exact tb6 (j := 139) (by decide +kernel) rfl
  | 2, _ => exact tb6 (j := 141) (by decide +kernel) rfl
  | 3, _ => exact tb6 (j := 143) (by decide +kernel) rfl
  | i + 4, hi => exact absurd hi (by omega)
theorem zt_X7 : zT RX7 TX7 4 := ⟨⟨tyX7, tyX7_ok⟩, nmX7⟩
theorem zi_X8 : ∀ w ∈ u_ws RX8 TX8 3, w ∈ zTBL := by
  intro w hw
  obtain ⟨i, hi, rfl⟩ := List.mem_map.mp hw
  have hi : i < 3 := List.mem_range.mp hi
  match i, hi with
  | 0, _ => exact tb5 (j := 183) (by decide +kernel) rfl
  | 1, _ => exact tb5 (j := 185) (by decide +kernel) rfl
  | 2, _ => exact tb5 (j := 187) (by decide +kernel) rfl
  | i + 3, hi => exact absurd hi (by omega)
theorem zt_X8 : zT RX8 TX8 3 := ⟨⟨tyX8, tyX8_ok⟩, nmX8⟩
theorem zi_X9 : ∀ w ∈ u_ws RX9 TX9 5, w ∈ zTBL := by
  intro w hw
  obtain ⟨i, hi, rfl⟩ := List.mem_map.mp hw
  have hi : i < 5 := List.mem_range.mp hi
  match i, hi with
  | 0, _ => exact tb6 (j := 17) (by decide +kernel) rfl
  | 1, _ => exact tb6 (j := 19) (by decide +kernel) rfl
  | 2, _ => exact tb6 (j := 21) (by decide +kernel) rfl
  | 3, _ => exact tb6 (j := 23) (by decide +kernel) rfl
  | 4, _ => exact tb6 (j := 25) (by decide +kernel) rfl
  | i + 5, hi => exact absurd hi (by omega)
theorem zt_X9 : zT RX9 TX9 5 := ⟨⟨tyX9, tyX9_ok⟩, nmX9⟩
theorem zi_X10 : ∀ w ∈ u_ws RX10 TX10 2, w ∈ zTBL := by
  intro w hw
  obtain ⟨i, hi, rfl⟩ := List.mem_map.mp hw
  have hi : i < 2 := List.mem_range.mp hi
  match i, hi with
  | 0, _ => exact tb6 (j := 40) (by decide +kernel) rfl
  | 1, _ => exact tb6 (j := 42) (by decide +kernel) rfl
  | i + 2, hi => exact absurd hi (by omega)
theorem zt_X10 : zT RX10 TX10 2 := ⟨⟨tyX10, tyX10_ok⟩, nmX10⟩
theorem zi_X11 : ∀ w ∈ u_ws RX11 TX11 3, w ∈ zTBL := by
  intro w hw
  obtain ⟨i, hi, rfl⟩ := List.mem_map.mp hw
  have hi : i < 3 := List.mem_range.mp hi
  match i, hi with
  | 0, _ => exact tb6 (j := 171) (by decide +kernel) rfl
  | 1, _ => exact tb6 (j := 173) (by decide +kernel) rfl
  | 2, _ => exact tb6 (j := 175) (by decide +kernel) rfl
  | i + 3, hi => exact absurd hi (by omega)
theorem zt_X11 : zT RX11 TX11 3 := ⟨⟨tyX11, tyX11_ok⟩, nmX11⟩
theorem zi_X12 : ∀ w ∈ u_ws RX12 TX12 20, w ∈ zTBL := by
  intro w hw
  obtain ⟨i, hi, rfl⟩ := List.mem_map.mp hw
  have hi : i < 20 := List.mem_range.mp hi
  match i, hi with
  | 0, _ => exact tb5 (j := 114) (by decide +kernel) rfl
  | 1, _ => exact tb5 (j := 116) (by decide +kernel) rfl
  | 2, _ => exact tb5 (j := 118) (by decide +kernel) rfl
  | 3, _ => exact tb5 (j := 120) (by decide +kernel) rfl
  | 4, _ => exact tb5 (j := 122) (by decide +kernel) rfl
  | 5, _ => exact tb5 (j := 124) (by decide +kernel) rfl
  | 6, _ => exact tb5 (j := 126) (by decide +kernel) rfl
  | 7, _ => exact tb5 (j := 128) (by decide +kernel) rfl
  | 8, _ => exact tb5 (j := 130) (by decide +kernel) rfl
  | 9, _ => exact tb5 (j := 132) (by decide +kernel) rfl
  | 10, _ => exact tb5 (j := 134) (by decide +kernel) rfl
  | 11, _ => exact tb5 (j := 136) (by decide +kernel) rfl
  | 12, _ => exact tb5 (j := 138) (by decide +kernel) rfl
  | 13, _ => exact tb5 (j := 140) (by decide +kernel) rfl
  | 14, _ => exact tb5 (j := 142) (by decide +kernel) rfl
  | 15, _ => exact tb5 (j := 144) (by decide +kernel) rfl
  | 16, _ => exact tb5 (j := 146) (by decide +kernel) rfl
  | 17, _ => exact tb5 (j := 148) (by decide +kernel) rfl
  | 18, _ => exact tb5 (j := 150) (by decide +kernel) rfl
  | 19, _ => exact tb5 (j := 152) (by decide +kernel) rfl
  | i + 20, hi => exact absurd hi (by omega)
theorem zt_X12 : zT RX12 TX12 20 := ⟨⟨tyX12, tyX12_ok⟩, nmX12⟩
theorem mc_X5_init : zM0 yX5_init cX5_init 1 (none) 0 := ⟨tb1 (j := 41) (by decide +kernel) rfl, tb1 (j := 1) (by decide +kernel) rfl, by decide +kernel⟩
theorem in_X5_init : Cond.instanceMethod yX5_init ∈ zTBL := tb1 (j := 40) (by decide +kernel) rfl
theorem mc_X2_init : zM0 yX2_init cX2_init 1 (none) 0 := ⟨tb1 (j := 49) (by decide +kernel) rfl, tb1 (j := 2) (by decide +kernel) rfl, by decide +kernel⟩
theorem in_X2_init : Cond.instanceMethod yX2_init ∈ zTBL := tb1 (j := 48) (by decide +kernel) rfl
theorem ml_X5_9 : zMN RX5 9 yX2_init cX2_init 1 (none) 0 := ⟨mc_X2_init, "Doublecoat", nb1 (j := 47) (by decide +kernel) rfl⟩
theorem fl_X5_10 : zF RX5 10 9 0 RX5 TX5 9 := ⟨rfl, zi_X5, by decide, rfl, Or.inl (tb1 (j := 217) (by decide +kernel) rfl)⟩
theorem mc_X1_init : zM0 yX1_init cX1_init 1 (none) 0 := ⟨tb1 (j := 88) (by decide +kernel) rfl, tb1 (j := 3) (by decide +kernel) rfl, by decide +kernel⟩
theorem in_X1_init : Cond.instanceMethod yX1_init ∈ zTBL := tb1 (j := 87) (by decide +kernel) rfl
theorem ml_X5_18 : zMN RX5 18 yX1_init cX1_init 1 (none) 0 := ⟨mc_X1_init, "Doublecoat", nb1 (j := 86) (by decide +kernel) rfl⟩
theorem fl_X5_19 : zF RX5 19 9 1 RX5 TX5 9 := ⟨rfl, zi_X5, by decide, rfl, Or.inl (tb1 (j := 218) (by decide +kernel) rfl)⟩
theorem mc_X0_init : zM0 yX0_init cX0_init 1 (none) 0 := ⟨tb1 (j := 119) (by decide +kernel) rfl, tb1 (j := 4) (by decide +kernel) rfl, by decide +kernel⟩
theorem in_X0_init : Cond.instanceMethod yX0_init ∈ zTBL := tb1 (j := 118) (by decide +kernel) rfl
theorem ml_X5_25 : zMN RX5 25 yX0_init cX0_init 1 (none) 0 := ⟨mc_X0_init, "Doublecoat", nb1 (j := 117) (by decide +kernel) rfl⟩
theorem fl_X5_26 : zF RX5 26 9 2 RX5 TX5 9 := ⟨rfl, zi_X5, by decide, rfl, Or.inl (tb1 (j := 219) (by decide +kernel) rfl)⟩
theorem mc_X4_init : zM0 yX4_init cX4_init 1 (none) 0 := ⟨tb1 (j := 156) (by decide +kernel) rfl, tb1 (j := 5) (by decide +kernel) rfl, by decide +kernel⟩
theorem in_X4_init : Cond.instanceMethod yX4_init ∈ zTBL := tb1 (j := 155) (by decide +kernel) rfl
theorem ml_X5_32 : zMN RX5 32 yX4_init cX4_init 1 (none) 0 := ⟨mc_X4_init, "Doublecoat", nb1 (j := 154) (by decide +kernel) rfl⟩
theorem fl_X5_33 : zF RX5 33 9 3 RX5 TX5 9 := ⟨rfl, zi_X5, by decide, rfl, Or.inl (tb1 (j := 220) (by decide +kernel) rfl)⟩
theorem mc_X3_init : zM0 yX3_init cX3_init 1 (none) 0 := ⟨tb1 (j := 189) (by decide +kernel) rfl, tb1 (j := 6) (by decide +kernel) rfl, by decide +kernel⟩
theorem in_X3_init : Cond.instanceMethod yX3_init ∈ zTBL := tb1 (j := 188) (by decide +kernel) rfl
theorem ml_X5_39 : zMN RX5 39 yX3_init cX3_init 1 (none) 0 := ⟨mc_X3_init, "Doublecoat", nb1 (j := 187) (by decide +kernel) rfl⟩
theorem fl_X5_40 : zF RX5 40 9 4 RX5 TX5 9 := ⟨rfl, zi_X5, by decide, rfl, Or.inl (tb1 (j := 221) (by decide +kernel) rfl)⟩
theorem mc_X5_part : zM0 yX5_part cX5_part 4 (some FieldType.int) 3 := ⟨tb4 (j := 131) (by decide +kernel) rfl, tb1 (j := 1) (by decide +kernel) rfl, by decide +kernel⟩
theorem in_X5_part : Cond.instanceMethod yX5_part ∈ zTBL := tb4 (j := 129) (by decide +kernel) rfl
theorem se_X5_part : Cond.selects RX5 yX5_part yX5_part ∈ zTBL := tb4 (j := 130) (by decide +kernel) rfl
theorem mc_X5_needWithin : zM0 yX5_needWithin cX5_needWithin 3 (none) 3 := ⟨tb3 (j := 229) (by decide +kernel) rfl, tb1 (j := 1) (by decide +kernel) rfl, by decide +kernel⟩
theorem st_X5_needWithin : Cond.static yX5_needWithin ∈ zTBL := tb3 (j := 228) (by decide +kernel) rfl
theorem ml_X5_44 : zM RX5 44 yX5_needWithin cX5_needWithin 3 (none) 3 := ⟨mc_X5_needWithin, tb3 (j := 227) (by decide +kernel) rfl⟩
theorem fl_X5_48 : zF RX5 48 6 5 RX2 TX2 7 := ⟨rfl, zi_X2, by decide, rfl, Or.inl (tb1 (j := 63) (by decide +kernel) rfl)⟩
theorem mc_X5_needRoom : zM0 yX5_needRoom cX5_needRoom 2 (none) 2 := ⟨tb4 (j := 134) (by decide +kernel) rfl, tb1 (j := 1) (by decide +kernel) rfl, by decide +kernel⟩
theorem st_X5_needRoom : Cond.static yX5_needRoom ∈ zTBL := tb4 (j := 133) (by decide +kernel) rfl
theorem ml_X5_52 : zM RX5 52 yX5_needRoom cX5_needRoom 2 (none) 2 := ⟨mc_X5_needRoom, tb4 (j := 132) (by decide +kernel) rfl⟩
theorem mc_X0_forget : zM0 yX0_forget cX0_forget 1 (none) 0 := ⟨tb4 (j := 154) (by decide +kernel) rfl, tb1 (j := 4) (by decide +kernel) rfl, by decide +kernel⟩
theorem in_X0_forget : Cond.instanceMethod yX0_forget ∈ zTBL := tb4 (j := 152) (by decide +kernel) rfl
theorem se_X0_forget : Cond.selects RX0 yX0_forget yX0_forget ∈ zTBL := tb4 (j := 153) (by decide +kernel) rfl
theorem ml_X5_56 : zM RX5 56 yX0_forget cX0_forget 1 (none) 0 := ⟨mc_X0_forget, tb4 (j := 151) (by decide +kernel) rfl⟩
theorem mc_X2_addPart : zM0 yX2_addPart cX2_addPart 4 (some FieldType.int) 3 := ⟨tb4 (j := 158) (by decide +kernel) rfl, tb1 (j := 2) (by decide +kernel) rfl, by decide +kernel⟩
theorem in_X2_addPart : Cond.instanceMethod yX2_addPart ∈ zTBL := tb4 (j := 156) (by decide +kernel) rfl
theorem se_X2_addPart : Cond.selects RX2 yX2_addPart yX2_addPart ∈ zTBL := tb4 (j := 157) (by decide +kernel) rfl
theorem ml_X5_59 : zM RX5 59 yX2_addPart cX2_addPart 4 (some FieldType.int) 3 := ⟨mc_X2_addPart, tb4 (j := 155) (by decide +kernel) rfl⟩
theorem mc_X5_player : zM0 yX5_player cX5_player 4 (some FieldType.int) 3 := ⟨tb4 (j := 165) (by decide +kernel) rfl, tb1 (j := 1) (by decide +kernel) rfl, by decide +kernel⟩
theorem in_X5_player : Cond.instanceMethod yX5_player ∈ zTBL := tb4 (j := 163) (by decide +kernel) rfl
theorem se_X5_player : Cond.selects RX5 yX5_player yX5_player ∈ zTBL := tb4 (j := 164) (by decide +kernel) rfl
theorem mc_X5_needSet : zM0 yX5_needSet cX5_needSet 2 (none) 2 := ⟨tb4 (j := 168) (by decide +kernel) rfl, tb1 (j := 1) (by decide +kernel) rfl, by decide +kernel⟩
theorem st_X5_needSet : Cond.static yX5_needSet ∈ zTBL := tb4 (j := 167) (by decide +kernel) rfl
theorem ml_X5_63 : zM RX5 63 yX5_needSet cX5_needSet 2 (none) 2 := ⟨mc_X5_needSet, tb4 (j := 166) (by decide +kernel) rfl⟩
theorem fl_X5_66 : zF RX5 66 5 4 RX1 TX1 6 := ⟨rfl, zi_X1, by decide, rfl, Or.inl (tb1 (j := 99) (by decide +kernel) rfl)⟩
theorem mc_X1_addPlayer : zM0 yX1_addPlayer cX1_addPlayer 4 (some FieldType.int) 3 := ⟨tb4 (j := 173) (by decide +kernel) rfl, tb1 (j := 3) (by decide +kernel) rfl, by decide +kernel⟩
theorem in_X1_addPlayer : Cond.instanceMethod yX1_addPlayer ∈ zTBL := tb4 (j := 171) (by decide +kernel) rfl
theorem se_X1_addPlayer : Cond.selects RX1 yX1_addPlayer yX1_addPlayer ∈ zTBL := tb4 (j := 172) (by decide +kernel) rfl
theorem ml_X5_69 : zM RX5 69 yX1_addPlayer cX1_addPlayer 4 (some FieldType.int) 3 := ⟨mc_X1_addPlayer, tb4 (j := 170) (by decide +kernel) rfl⟩
theorem mc_X5_scene : zM0 yX5_scene cX5_scene 3 (some FieldType.int) 2 := ⟨tb4 (j := 180) (by decide +kernel) rfl, tb1 (j := 1) (by decide +kernel) rfl, by decide +kernel⟩
theorem in_X5_scene : Cond.instanceMethod yX5_scene ∈ zTBL := tb4 (j := 178) (by decide +kernel) rfl
theorem se_X5_scene : Cond.selects RX5 yX5_scene yX5_scene ∈ zTBL := tb4 (j := 179) (by decide +kernel) rfl
theorem fl_X5_72 : zF RX5 72 6 6 RX2 TX2 7 := ⟨rfl, zi_X2, by decide, rfl, Or.inl (tb1 (j := 66) (by decide +kernel) rfl)⟩
theorem mc_X2_addScene : zM0 yX2_addScene cX2_addScene 3 (some FieldType.int) 2 := ⟨tb4 (j := 184) (by decide +kernel) rfl, tb1 (j := 2) (by decide +kernel) rfl, by decide +kernel⟩
theorem in_X2_addScene : Cond.instanceMethod yX2_addScene ∈ zTBL := tb4 (j := 182) (by decide +kernel) rfl
theorem se_X2_addScene : Cond.selects RX2 yX2_addScene yX2_addScene ∈ zTBL := tb4 (j := 183) (by decide +kernel) rfl
theorem ml_X5_75 : zM RX5 75 yX2_addScene cX2_addScene 3 (some FieldType.int) 2 := ⟨mc_X2_addScene, tb4 (j := 181) (by decide +kernel) rfl⟩
theorem mc_X5_pause : zM0 yX5_pause cX5_pause 4 (some FieldType.int) 2 := ⟨tb4 (j := 192) (by decide +kernel) rfl, tb1 (j := 1) (by decide +kernel) rfl, by decide +kernel⟩
theorem in_X5_pause : Cond.instanceMethod yX5_pause ∈ zTBL := tb4 (j := 190) (by decide +kernel) rfl
theorem se_X5_pause : Cond.selects RX5 yX5_pause yX5_pause ∈ zTBL := tb4 (j := 191) (by decide +kernel) rfl
theorem mc_X5_needIndex : zM0 yX5_needIndex cX5_needIndex 2 (none) 2 := ⟨tb4 (j := 4) (by decide +kernel) rfl, tb1 (j := 1) (by decide +kernel) rfl, by decide +kernel⟩
theorem st_X5_needIndex : Cond.static yX5_needIndex ∈ zTBL := tb4 (j := 3) (by decide +kernel) rfl
theorem ml_X5_79 : zM RX5 79 yX5_needIndex cX5_needIndex 2 (none) 2 := ⟨mc_X5_needIndex, tb4 (j := 2) (by decide +kernel) rfl⟩
theorem fl_X5_82 : zF RX5 82 6 4 RX2 TX2 7 := ⟨rfl, zi_X2, by decide, rfl, Or.inl (tb1 (j := 61) (by decide +kernel) rfl)⟩
theorem mc_X5_sick : zM0 yX5_sick cX5_sick 3 (some FieldType.int) 2 := ⟨tb4 (j := 199) (by decide +kernel) rfl, tb1 (j := 1) (by decide +kernel) rfl, by decide +kernel⟩
theorem in_X5_sick : Cond.instanceMethod yX5_sick ∈ zTBL := tb4 (j := 197) (by decide +kernel) rfl
theorem se_X5_sick : Cond.selects RX5 yX5_sick yX5_sick ∈ zTBL := tb4 (j := 198) (by decide +kernel) rfl
theorem fl_X5_86 : zF RX5 86 5 5 RX1 TX1 6 := ⟨rfl, zi_X1, by decide, rfl, Or.inl (tb1 (j := 101) (by decide +kernel) rfl)⟩
theorem mc_X1_countWell : zM0 yX1_countWell cX1_countWell 1 (some FieldType.int) 0 := ⟨tb3 (j := 236) (by decide +kernel) rfl, tb1 (j := 3) (by decide +kernel) rfl, by decide +kernel⟩
theorem in_X1_countWell : Cond.instanceMethod yX1_countWell ∈ zTBL := tb3 (j := 234) (by decide +kernel) rfl
theorem se_X1_countWell : Cond.selects RX1 yX1_countWell yX1_countWell ∈ zTBL := tb3 (j := 235) (by decide +kernel) rfl
theorem ml_X5_89 : zM RX5 89 yX1_countWell cX1_countWell 1 (some FieldType.int) 0 := ⟨mc_X1_countWell, tb3 (j := 233) (by decide +kernel) rfl⟩
theorem mc_X5_coat : zM0 yX5_coat cX5_coat 4 (some FieldType.int) 3 := ⟨tb4 (j := 206) (by decide +kernel) rfl, tb1 (j := 1) (by decide +kernel) rfl, by decide +kernel⟩
theorem in_X5_coat : Cond.instanceMethod yX5_coat ∈ zTBL := tb4 (j := 204) (by decide +kernel) rfl
theorem se_X5_coat : Cond.selects RX5 yX5_coat yX5_coat ∈ zTBL := tb4 (j := 205) (by decide +kernel) rfl
theorem fl_X5_93 : zF RX5 93 8 3 RX4 TX4 7 := ⟨rfl, zi_X4, by decide, rfl, Or.inl (tb1 (j := 165) (by decide +kernel) rfl)⟩
theorem mc_X4_addCoat : zM0 yX4_addCoat cX4_addCoat 4 (some FieldType.int) 3 := ⟨tb4 (j := 210) (by decide +kernel) rfl, tb1 (j := 5) (by decide +kernel) rfl, by decide +kernel⟩
theorem in_X4_addCoat : Cond.instanceMethod yX4_addCoat ∈ zTBL := tb4 (j := 208) (by decide +kernel) rfl
theorem se_X4_addCoat : Cond.selects RX4 yX4_addCoat yX4_addCoat ∈ zTBL := tb4 (j := 209) (by decide +kernel) rfl
theorem ml_X5_96 : zM RX5 96 yX4_addCoat cX4_addCoat 4 (some FieldType.int) 3 := ⟨mc_X4_addCoat, tb4 (j := 207) (by decide +kernel) rfl⟩
theorem mc_X5_pawn : zM0 yX5_pawn cX5_pawn 3 (some FieldType.int) 2 := ⟨tb4 (j := 217) (by decide +kernel) rfl, tb1 (j := 1) (by decide +kernel) rfl, by decide +kernel⟩
theorem in_X5_pawn : Cond.instanceMethod yX5_pawn ∈ zTBL := tb4 (j := 215) (by decide +kernel) rfl
theorem se_X5_pawn : Cond.selects RX5 yX5_pawn yX5_pawn ∈ zTBL := tb4 (j := 216) (by decide +kernel) rfl
theorem fl_X5_99 : zF RX5 99 8 4 RX4 TX4 7 := ⟨rfl, zi_X4, by decide, rfl, Or.inl (tb1 (j := 167) (by decide +kernel) rfl)⟩
theorem mc_X5_has : zM0 yX5_has cX5_has 2 (some FieldType.boolean) 2 := ⟨tb2 (j := 35) (by decide +kernel) rfl, tb1 (j := 1) (by decide +kernel) rfl, by decide +kernel⟩
theorem st_X5_has : Cond.static yX5_has ∈ zTBL := tb2 (j := 34) (by decide +kernel) rfl
theorem ml_X5_102 : zM RX5 102 yX5_has cX5_has 2 (some FieldType.boolean) 2 := ⟨mc_X5_has, tb3 (j := 186) (by decide +kernel) rfl⟩
theorem fl_X5_113 : zF RX5 113 9 5 RX5 TX5 9 := ⟨rfl, zi_X5, by decide, rfl, Or.inl (tb1 (j := 222) (by decide +kernel) rfl)⟩
theorem fl_X5_116 : zF RX5 116 8 2 RX4 TX4 7 := ⟨rfl, zi_X4, by decide, rfl, Or.inl (tb1 (j := 163) (by decide +kernel) rfl)⟩
theorem fl_X5_119 : zF RX5 119 5 3 RX1 TX1 6 := ⟨rfl, zi_X1, by decide, rfl, Or.inl (tb1 (j := 97) (by decide +kernel) rfl)⟩
theorem mc_X5_redeem : zM0 yX5_redeem cX5_redeem 4 (some FieldType.int) 2 := ⟨tb4 (j := 225) (by decide +kernel) rfl, tb1 (j := 1) (by decide +kernel) rfl, by decide +kernel⟩
theorem in_X5_redeem : Cond.instanceMethod yX5_redeem ∈ zTBL := tb4 (j := 223) (by decide +kernel) rfl
theorem se_X5_redeem : Cond.selects RX5 yX5_redeem yX5_redeem ∈ zTBL := tb4 (j := 224) (by decide +kernel) rfl
theorem fl_X5_124 : zF RX5 124 9 6 RX5 TX5 9 := ⟨rfl, zi_X5, by decide, rfl, Or.inl (tb1 (j := 223) (by decide +kernel) rfl)⟩
theorem mc_X5_town : zM0 yX5_town cX5_town 4 (some FieldType.int) 3 := ⟨tb4 (j := 233) (by decide +kernel) rfl, tb1 (j := 1) (by decide +kernel) rfl, by decide +kernel⟩
theorem in_X5_town : Cond.instanceMethod yX5_town ∈ zTBL := tb4 (j := 231) (by decide +kernel) rfl
theorem se_X5_town : Cond.selects RX5 yX5_town yX5_town ∈ zTBL := tb4 (j := 232) (by decide +kernel) rfl
theorem fl_X5_127 : zF RX5 127 7 4 RX3 TX3 6 := ⟨rfl, zi_X3, by decide, rfl, Or.inl (tb1 (j := 202) (by decide +kernel) rfl)⟩
theorem mc_X3_addTown : zM0 yX3_addTown cX3_addTown 6 (some FieldType.int) 3 := ⟨tb4 (j := 237) (by decide +kernel) rfl, tb1 (j := 6) (by decide +kernel) rfl, by decide +kernel⟩
theorem in_X3_addTown : Cond.instanceMethod yX3_addTown ∈ zTBL := tb4 (j := 235) (by decide +kernel) rfl
theorem se_X3_addTown : Cond.selects RX3 yX3_addTown yX3_addTown ∈ zTBL := tb4 (j := 236) (by decide +kernel) rfl
theorem ml_X5_130 : zM RX5 130 yX3_addTown cX3_addTown 6 (some FieldType.int) 3 := ⟨mc_X3_addTown, tb4 (j := 234) (by decide +kernel) rfl⟩
theorem mc_X5_night : zM0 yX5_night cX5_night 5 (some FieldType.int) 1 := ⟨tb5 (j := 14) (by decide +kernel) rfl, tb1 (j := 1) (by decide +kernel) rfl, by decide +kernel⟩
theorem in_X5_night : Cond.instanceMethod yX5_night ∈ zTBL := tb5 (j := 12) (by decide +kernel) rfl
theorem se_X5_night : Cond.selects RX5 yX5_night yX5_night ∈ zTBL := tb5 (j := 13) (by decide +kernel) rfl
theorem mc_X0_recall : zM0 yX0_recall cX0_recall 4 (none) 2 := ⟨tb2 (j := 16) (by decide +kernel) rfl, tb1 (j := 4) (by decide +kernel) rfl, by decide +kernel⟩
theorem in_X0_recall : Cond.instanceMethod yX0_recall ∈ zTBL := tb2 (j := 14) (by decide +kernel) rfl
theorem se_X0_recall : Cond.selects RX0 yX0_recall yX0_recall ∈ zTBL := tb2 (j := 15) (by decide +kernel) rfl
theorem ml_X5_133 : zM RX5 133 yX0_recall cX0_recall 4 (none) 2 := ⟨mc_X0_recall, tb2 (j := 13) (by decide +kernel) rfl⟩
theorem mc_X0_actors : zM0 yX0_actors cX0_actors 3 (some FieldType.int) 0 := ⟨tb4 (j := 42) (by decide +kernel) rfl, tb1 (j := 4) (by decide +kernel) rfl, by decide +kernel⟩
theorem in_X0_actors : Cond.instanceMethod yX0_actors ∈ zTBL := tb4 (j := 40) (by decide +kernel) rfl
theorem se_X0_actors : Cond.selects RX0 yX0_actors yX0_actors ∈ zTBL := tb4 (j := 41) (by decide +kernel) rfl
theorem ml_X5_137 : zM RX5 137 yX0_actors cX0_actors 3 (some FieldType.int) 0 := ⟨mc_X0_actors, tb4 (j := 39) (by decide +kernel) rfl⟩
theorem fl_X5_142 : zF RX5 142 7 2 RX3 TX3 6 := ⟨rfl, zi_X3, by decide, rfl, Or.inl (tb1 (j := 198) (by decide +kernel) rfl)⟩
theorem mc_X1_portion : zM0 yX1_portion cX1_portion 10 (some FieldType.int) 3 := ⟨tb4 (j := 46) (by decide +kernel) rfl, tb1 (j := 3) (by decide +kernel) rfl, by decide +kernel⟩
theorem in_X1_portion : Cond.instanceMethod yX1_portion ∈ zTBL := tb4 (j := 44) (by decide +kernel) rfl
theorem se_X1_portion : Cond.selects RX1 yX1_portion yX1_portion ∈ zTBL := tb4 (j := 45) (by decide +kernel) rfl
theorem ml_X5_145 : zM RX5 145 yX1_portion cX1_portion 10 (some FieldType.int) 3 := ⟨mc_X1_portion, tb4 (j := 43) (by decide +kernel) rfl⟩
theorem fl_X5_148 : zF RX5 148 9 7 RX5 TX5 9 := ⟨rfl, zi_X5, by decide, rfl, Or.inl (tb1 (j := 224) (by decide +kernel) rfl)⟩
theorem mc_X5_knock : zM0 yX5_knock cX5_knock 1 (some FieldType.int) 0 := ⟨tb2 (j := 8) (by decide +kernel) rfl, tb1 (j := 1) (by decide +kernel) rfl, by decide +kernel⟩
theorem in_X5_knock : Cond.instanceMethod yX5_knock ∈ zTBL := tb2 (j := 6) (by decide +kernel) rfl
theorem se_X5_knock : Cond.selects RX5 yX5_knock yX5_knock ∈ zTBL := tb2 (j := 7) (by decide +kernel) rfl
theorem fl_X5_151 : zF RX5 151 9 8 RX5 TX5 9 := ⟨rfl, zi_X5, by decide, rfl, Or.inl (tb1 (j := 225) (by decide +kernel) rfl)⟩
theorem mc_X5_ofPart : zM0 yX5_ofPart cX5_ofPart 3 (some FieldType.int) 2 := ⟨tb4 (j := 1) (by decide +kernel) rfl, tb1 (j := 1) (by decide +kernel) rfl, by decide +kernel⟩
theorem in_X5_ofPart : Cond.instanceMethod yX5_ofPart ∈ zTBL := tb3 (j := 239) (by decide +kernel) rfl
theorem se_X5_ofPart : Cond.selects RX5 yX5_ofPart yX5_ofPart ∈ zTBL := tb4 (j := 0) (by decide +kernel) rfl
theorem fl_X5_154 : zF RX5 154 6 0 RX2 TX2 7 := ⟨rfl, zi_X2, by decide, rfl, Or.inl (tb1 (j := 53) (by decide +kernel) rfl)⟩
theorem fl_X5_157 : zF RX5 157 6 1 RX2 TX2 7 := ⟨rfl, zi_X2, by decide, rfl, Or.inl (tb1 (j := 55) (by decide +kernel) rfl)⟩
theorem fl_X5_160 : zF RX5 160 6 2 RX2 TX2 7 := ⟨rfl, zi_X2, by decide, rfl, Or.inl (tb1 (j := 57) (by decide +kernel) rfl)⟩
theorem mc_X2_scenesWith : zM0 yX2_scenesWith cX2_scenesWith 4 (some FieldType.int) 1 := ⟨tb4 (j := 24) (by decide +kernel) rfl, tb1 (j := 2) (by decide +kernel) rfl, by decide +kernel⟩
theorem in_X2_scenesWith : Cond.instanceMethod yX2_scenesWith ∈ zTBL := tb4 (j := 22) (by decide +kernel) rfl
theorem se_X2_scenesWith : Cond.selects RX2 yX2_scenesWith yX2_scenesWith ∈ zTBL := tb4 (j := 23) (by decide +kernel) rfl
theorem ml_X5_163 : zM RX5 163 yX2_scenesWith cX2_scenesWith 4 (some FieldType.int) 1 := ⟨mc_X2_scenesWith, tb4 (j := 21) (by decide +kernel) rfl⟩
theorem mc_X0_clashesOf : zM0 yX0_clashesOf cX0_clashesOf 3 (some FieldType.int) 2 := ⟨tb3 (j := 216) (by decide +kernel) rfl, tb1 (j := 4) (by decide +kernel) rfl, by decide +kernel⟩
theorem in_X0_clashesOf : Cond.instanceMethod yX0_clashesOf ∈ zTBL := tb3 (j := 214) (by decide +kernel) rfl
theorem se_X0_clashesOf : Cond.selects RX0 yX0_clashesOf yX0_clashesOf ∈ zTBL := tb3 (j := 215) (by decide +kernel) rfl
theorem ml_X5_167 : zM RX5 167 yX0_clashesOf cX0_clashesOf 3 (some FieldType.int) 2 := ⟨mc_X0_clashesOf, tb3 (j := 213) (by decide +kernel) rfl⟩
theorem mc_X1_ableOfAny : zM0 yX1_ableOfAny cX1_ableOfAny 4 (some FieldType.int) 1 := ⟨tb2 (j := 47) (by decide +kernel) rfl, tb1 (j := 3) (by decide +kernel) rfl, by decide +kernel⟩
theorem in_X1_ableOfAny : Cond.instanceMethod yX1_ableOfAny ∈ zTBL := tb2 (j := 45) (by decide +kernel) rfl
theorem se_X1_ableOfAny : Cond.selects RX1 yX1_ableOfAny yX1_ableOfAny ∈ zTBL := tb2 (j := 46) (by decide +kernel) rfl
theorem ml_X5_171 : zM RX5 171 yX1_ableOfAny cX1_ableOfAny 4 (some FieldType.int) 1 := ⟨mc_X1_ableOfAny, tb3 (j := 187) (by decide +kernel) rfl⟩
theorem mc_X0_playerOf : zM0 yX0_playerOf cX0_playerOf 3 (some FieldType.int) 1 := ⟨tb2 (j := 122) (by decide +kernel) rfl, tb1 (j := 4) (by decide +kernel) rfl, by decide +kernel⟩
theorem in_X0_playerOf : Cond.instanceMethod yX0_playerOf ∈ zTBL := tb2 (j := 120) (by decide +kernel) rfl
theorem se_X0_playerOf : Cond.selects RX0 yX0_playerOf yX0_playerOf ∈ zTBL := tb2 (j := 121) (by decide +kernel) rfl
theorem ml_X5_174 : zM RX5 174 yX0_playerOf cX0_playerOf 3 (some FieldType.int) 1 := ⟨mc_X0_playerOf, tb2 (j := 119) (by decide +kernel) rfl⟩
theorem mc_X5_ofPlayer : zM0 yX5_ofPlayer cX5_ofPlayer 3 (some FieldType.int) 2 := ⟨tb4 (j := 28) (by decide +kernel) rfl, tb1 (j := 1) (by decide +kernel) rfl, by decide +kernel⟩
theorem in_X5_ofPlayer : Cond.instanceMethod yX5_ofPlayer ∈ zTBL := tb4 (j := 26) (by decide +kernel) rfl
theorem se_X5_ofPlayer : Cond.selects RX5 yX5_ofPlayer yX5_ofPlayer ∈ zTBL := tb4 (j := 27) (by decide +kernel) rfl
theorem fl_X5_177 : zF RX5 177 5 0 RX1 TX1 6 := ⟨rfl, zi_X1, by decide, rfl, Or.inl (tb1 (j := 91) (by decide +kernel) rfl)⟩
theorem fl_X5_180 : zF RX5 180 5 1 RX1 TX1 6 := ⟨rfl, zi_X1, by decide, rfl, Or.inl (tb1 (j := 93) (by decide +kernel) rfl)⟩
theorem fl_X5_183 : zF RX5 183 5 2 RX1 TX1 6 := ⟨rfl, zi_X1, by decide, rfl, Or.inl (tb1 (j := 95) (by decide +kernel) rfl)⟩
theorem fl_X5_186 : zF RX5 186 4 0 RX0 TX0 9 := ⟨rfl, zi_X0, by decide, rfl, Or.inl (tb1 (j := 122) (by decide +kernel) rfl)⟩
theorem mc_X5_ofScene : zM0 yX5_ofScene cX5_ofScene 4 (some FieldType.int) 2 := ⟨tb4 (j := 54) (by decide +kernel) rfl, tb1 (j := 1) (by decide +kernel) rfl, by decide +kernel⟩
theorem in_X5_ofScene : Cond.instanceMethod yX5_ofScene ∈ zTBL := tb4 (j := 52) (by decide +kernel) rfl
theorem se_X5_ofScene : Cond.selects RX5 yX5_ofScene yX5_ofScene ∈ zTBL := tb4 (j := 53) (by decide +kernel) rfl
theorem fl_X5_189 : zF RX5 189 6 3 RX2 TX2 7 := ⟨rfl, zi_X2, by decide, rfl, Or.inl (tb1 (j := 59) (by decide +kernel) rfl)⟩
theorem mc_X5_filled : zM0 yX5_filled cX5_filled 5 (some FieldType.int) 1 := ⟨tb3 (j := 185) (by decide +kernel) rfl, tb1 (j := 1) (by decide +kernel) rfl, by decide +kernel⟩
theorem in_X5_filled : Cond.instanceMethod yX5_filled ∈ zTBL := tb3 (j := 184) (by decide +kernel) rfl
theorem se_X5_filled : Cond.selects RX5 yX5_filled yX5_filled ∈ zTBL := tbp (j := 9) (by decide +kernel) rfl
theorem ml_X5_192 : zM RX5 192 yX5_filled cX5_filled 5 (some FieldType.int) 1 := ⟨mc_X5_filled, tb3 (j := 182) (by decide +kernel) rfl⟩
theorem mc_X5_lack : zM0 yX5_lack cX5_lack 6 (some FieldType.int) 1 := ⟨tb3 (j := 196) (by decide +kernel) rfl, tb1 (j := 1) (by decide +kernel) rfl, by decide +kernel⟩
theorem in_X5_lack : Cond.instanceMethod yX5_lack ∈ zTBL := tb3 (j := 195) (by decide +kernel) rfl
theorem se_X5_lack : Cond.selects RX5 yX5_lack yX5_lack ∈ zTBL := tbp (j := 10) (by decide +kernel) rfl
theorem ml_X5_195 : zM RX5 195 yX5_lack cX5_lack 6 (some FieldType.int) 1 := ⟨mc_X5_lack, tb3 (j := 193) (by decide +kernel) rfl⟩
theorem mc_X5_excess : zM0 yX5_excess cX5_excess 4 (some FieldType.int) 1 := ⟨tb3 (j := 200) (by decide +kernel) rfl, tb1 (j := 1) (by decide +kernel) rfl, by decide +kernel⟩
theorem in_X5_excess : Cond.instanceMethod yX5_excess ∈ zTBL := tb3 (j := 199) (by decide +kernel) rfl
theorem se_X5_excess : Cond.selects RX5 yX5_excess yX5_excess ∈ zTBL := tbp (j := 11) (by decide +kernel) rfl
theorem ml_X5_198 : zM RX5 198 yX5_excess cX5_excess 4 (some FieldType.int) 1 := ⟨mc_X5_excess, tb3 (j := 197) (by decide +kernel) rfl⟩
theorem mc_X5_leastWaste : zM0 yX5_leastWaste cX5_leastWaste 4 (some FieldType.int) 1 := ⟨tb4 (j := 58) (by decide +kernel) rfl, tb1 (j := 1) (by decide +kernel) rfl, by decide +kernel⟩
theorem in_X5_leastWaste : Cond.instanceMethod yX5_leastWaste ∈ zTBL := tb4 (j := 57) (by decide +kernel) rfl
theorem se_X5_leastWaste : Cond.selects RX5 yX5_leastWaste yX5_leastWaste ∈ zTBL := tbp (j := 14) (by decide +kernel) rfl
theorem ml_X5_201 : zM RX5 201 yX5_leastWaste cX5_leastWaste 4 (some FieldType.int) 1 := ⟨mc_X5_leastWaste, tb4 (j := 55) (by decide +kernel) rfl⟩
theorem mc_X5_ofCoat : zM0 yX5_ofCoat cX5_ofCoat 3 (some FieldType.int) 2 := ⟨tb4 (j := 87) (by decide +kernel) rfl, tb1 (j := 1) (by decide +kernel) rfl, by decide +kernel⟩
theorem in_X5_ofCoat : Cond.instanceMethod yX5_ofCoat ∈ zTBL := tb4 (j := 85) (by decide +kernel) rfl
theorem se_X5_ofCoat : Cond.selects RX5 yX5_ofCoat yX5_ofCoat ∈ zTBL := tb4 (j := 86) (by decide +kernel) rfl
theorem fl_X5_204 : zF RX5 204 8 0 RX4 TX4 7 := ⟨rfl, zi_X4, by decide, rfl, Or.inl (tb1 (j := 159) (by decide +kernel) rfl)⟩
theorem fl_X5_205 : zF RX5 205 8 1 RX4 TX4 7 := ⟨rfl, zi_X4, by decide, rfl, Or.inl (tb1 (j := 161) (by decide +kernel) rfl)⟩
theorem mc_X5_ofTown : zM0 yX5_ofTown cX5_ofTown 3 (some FieldType.int) 2 := ⟨tb4 (j := 91) (by decide +kernel) rfl, tb1 (j := 1) (by decide +kernel) rfl, by decide +kernel⟩
theorem in_X5_ofTown : Cond.instanceMethod yX5_ofTown ∈ zTBL := tb4 (j := 89) (by decide +kernel) rfl
theorem se_X5_ofTown : Cond.selects RX5 yX5_ofTown yX5_ofTown ∈ zTBL := tb4 (j := 90) (by decide +kernel) rfl
theorem fl_X5_206 : zF RX5 206 7 0 RX3 TX3 6 := ⟨rfl, zi_X3, by decide, rfl, Or.inl (tb1 (j := 194) (by decide +kernel) rfl)⟩
theorem fl_X5_209 : zF RX5 209 7 1 RX3 TX3 6 := ⟨rfl, zi_X3, by decide, rfl, Or.inl (tb1 (j := 196) (by decide +kernel) rfl)⟩
theorem mc_X3_milesHome : zM0 yX3_milesHome cX3_milesHome 2 (some FieldType.int) 1 := ⟨tb4 (j := 95) (by decide +kernel) rfl, tb1 (j := 6) (by decide +kernel) rfl, by decide +kernel⟩
theorem in_X3_milesHome : Cond.instanceMethod yX3_milesHome ∈ zTBL := tb4 (j := 93) (by decide +kernel) rfl
theorem se_X3_milesHome : Cond.selects RX3 yX3_milesHome yX3_milesHome ∈ zTBL := tb4 (j := 94) (by decide +kernel) rfl
theorem ml_X5_212 : zM RX5 212 yX3_milesHome cX3_milesHome 2 (some FieldType.int) 1 := ⟨mc_X3_milesHome, tb4 (j := 92) (by decide +kernel) rfl⟩
theorem mc_X5_house : zM0 yX5_house cX5_house 2 (some FieldType.int) 1 := ⟨tb3 (j := 226) (by decide +kernel) rfl, tb1 (j := 1) (by decide +kernel) rfl, by decide +kernel⟩
theorem in_X5_house : Cond.instanceMethod yX5_house ∈ zTBL := tb3 (j := 224) (by decide +kernel) rfl
theorem se_X5_house : Cond.selects RX5 yX5_house yX5_house ∈ zTBL := tb3 (j := 225) (by decide +kernel) rfl
theorem mc_J6_bitCount_0f7a4 : zM0 yJ6_bitCount_0f7a4 cJ6_bitCount_0f7a4 1 (some FieldType.int) 1 := ⟨tb2 (j := 60) (by decide +kernel) rfl, tb1 (j := 28) (by decide +kernel) rfl, by decide +kernel⟩
theorem st_J6_bitCount_0f7a4 : Cond.static yJ6_bitCount_0f7a4 ∈ zTBL := tb2 (j := 59) (by decide +kernel) rfl
theorem ml_X5_215 : zM RX5 215 yJ6_bitCount_0f7a4 cJ6_bitCount_0f7a4 1 (some FieldType.int) 1 := ⟨mc_J6_bitCount_0f7a4, tb3 (j := 191) (by decide +kernel) rfl⟩
theorem fl_X5_220 : zF RX5 220 4 1 RX0 TX0 9 := ⟨rfl, zi_X0, by decide, rfl, Or.inl (tb1 (j := 124) (by decide +kernel) rfl)⟩
theorem fl_X5_223 : zF RX5 223 4 2 RX0 TX0 9 := ⟨rfl, zi_X0, by decide, rfl, Or.inl (tb1 (j := 126) (by decide +kernel) rfl)⟩
theorem mc_X1_allPurses : zM0 yX1_allPurses cX1_allPurses 3 (some FieldType.int) 0 := ⟨tb3 (j := 204) (by decide +kernel) rfl, tb1 (j := 3) (by decide +kernel) rfl, by decide +kernel⟩
theorem in_X1_allPurses : Cond.instanceMethod yX1_allPurses ∈ zTBL := tb3 (j := 202) (by decide +kernel) rfl
theorem se_X1_allPurses : Cond.selects RX1 yX1_allPurses yX1_allPurses ∈ zTBL := tb3 (j := 203) (by decide +kernel) rfl
theorem ml_X5_226 : zM RX5 226 yX1_allPurses cX1_allPurses 3 (some FieldType.int) 0 := ⟨mc_X1_allPurses, tb3 (j := 201) (by decide +kernel) rfl⟩
theorem mc_X5_cast : zM0 yX5_cast cX5_cast 4 (some (FieldType.object "java/lang/String")) 0 := ⟨tb2 (j := 12) (by decide +kernel) rfl, tb1 (j := 1) (by decide +kernel) rfl, by decide +kernel⟩
theorem in_X5_cast : Cond.instanceMethod yX5_cast ∈ zTBL := tb2 (j := 10) (by decide +kernel) rfl
theorem se_X5_cast : Cond.selects RX5 yX5_cast yX5_cast ∈ zTBL := tb2 (j := 11) (by decide +kernel) rfl
theorem mc_J4_init_da8c8 : zM0 yJ4_init_da8c8 cJ4_init_da8c8 1 (none) 0 := ⟨tb2 (j := 91) (by decide +kernel) rfl, tb1 (j := 33) (by decide +kernel) rfl, by decide +kernel⟩
theorem in_J4_init_da8c8 : Cond.instanceMethod yJ4_init_da8c8 ∈ zTBL := tb2 (j := 90) (by decide +kernel) rfl
theorem ml_X5_233 : zM RX5 233 yJ4_init_da8c8 cJ4_init_da8c8 1 (none) 0 := ⟨mc_J4_init_da8c8, tb2 (j := 89) (by decide +kernel) rfl⟩
theorem mc_J4_append_cf468 : zM0 yJ4_append_cf468 cJ4_append_cf468 2 (some (FieldType.object "java/lang/StringBuilder")) 1 := ⟨tb2 (j := 126) (by decide +kernel) rfl, tb1 (j := 33) (by decide +kernel) rfl, by decide +kernel⟩
theorem in_J4_append_cf468 : Cond.instanceMethod yJ4_append_cf468 ∈ zTBL := tb2 (j := 124) (by decide +kernel) rfl
theorem se_J4_append_cf468 : Cond.selects RJ4 yJ4_append_cf468 yJ4_append_cf468 ∈ zTBL := tb2 (j := 125) (by decide +kernel) rfl
theorem ml_X5_234 : zM RX5 234 yJ4_append_cf468 cJ4_append_cf468 2 (some (FieldType.object "java/lang/StringBuilder")) 1 := ⟨mc_J4_append_cf468, tb2 (j := 123) (by decide +kernel) rfl⟩
theorem mc_J4_toString_0e30d : zM0 yJ4_toString_0e30d cJ4_toString_0e30d 1 (some (FieldType.object "java/lang/String")) 0 := ⟨tb2 (j := 219) (by decide +kernel) rfl, tb1 (j := 33) (by decide +kernel) rfl, by decide +kernel⟩
theorem in_J4_toString_0e30d : Cond.instanceMethod yJ4_toString_0e30d ∈ zTBL := tb2 (j := 217) (by decide +kernel) rfl
theorem se_J4_toString_0e30d : Cond.selects RJ4 yJ4_toString_0e30d yJ4_toString_0e30d ∈ zTBL := tb2 (j := 218) (by decide +kernel) rfl
theorem ml_X5_238 : zM RX5 238 yJ4_toString_0e30d cJ4_toString_0e30d 1 (some (FieldType.object "java/lang/String")) 0 := ⟨mc_J4_toString_0e30d, tb2 (j := 216) (by decide +kernel) rfl⟩
theorem mc_X5_tour : zM0 yX5_tour cX5_tour 4 (some FieldType.int) 2 := ⟨tb4 (j := 99) (by decide +kernel) rfl, tb1 (j := 1) (by decide +kernel) rfl, by decide +kernel⟩
theorem in_X5_tour : Cond.instanceMethod yX5_tour ∈ zTBL := tb4 (j := 97) (by decide +kernel) rfl
theorem se_X5_tour : Cond.selects RX5 yX5_tour yX5_tour ∈ zTBL := tb4 (j := 98) (by decide +kernel) rfl
theorem mc_X3_bestTour : zM0 yX3_bestTour cX3_bestTour 5 (some FieldType.int) 1 := ⟨tb4 (j := 103) (by decide +kernel) rfl, tb1 (j := 6) (by decide +kernel) rfl, by decide +kernel⟩
theorem in_X3_bestTour : Cond.instanceMethod yX3_bestTour ∈ zTBL := tb4 (j := 101) (by decide +kernel) rfl
theorem se_X3_bestTour : Cond.selects RX3 yX3_bestTour yX3_bestTour ∈ zTBL := tb4 (j := 102) (by decide +kernel) rfl
theorem ml_X5_242 : zM RX5 242 yX3_bestTour cX3_bestTour 5 (some FieldType.int) 1 := ⟨mc_X3_bestTour, tb4 (j := 100) (by decide +kernel) rfl⟩
theorem mc_X3_takingsOf : zM0 yX3_takingsOf cX3_takingsOf 4 (some FieldType.int) 1 := ⟨tb4 (j := 107) (by decide +kernel) rfl, tb1 (j := 6) (by decide +kernel) rfl, by decide +kernel⟩
theorem in_X3_takingsOf : Cond.instanceMethod yX3_takingsOf ∈ zTBL := tb4 (j := 105) (by decide +kernel) rfl
theorem se_X3_takingsOf : Cond.selects RX3 yX3_takingsOf yX3_takingsOf ∈ zTBL := tb4 (j := 106) (by decide +kernel) rfl
theorem ml_X5_245 : zM RX5 245 yX3_takingsOf cX3_takingsOf 4 (some FieldType.int) 1 := ⟨mc_X3_takingsOf, tb4 (j := 109) (by decide +kernel) rfl⟩
theorem fl_X5_248 : zF RX5 248 7 3 RX3 TX3 6 := ⟨rfl, zi_X3, by decide, rfl, Or.inl (tb1 (j := 200) (by decide +kernel) rfl)⟩
theorem mc_X5_would : zM0 yX5_would cX5_would 2 (some FieldType.int) 1 := ⟨tb5 (j := 50) (by decide +kernel) rfl, tb1 (j := 1) (by decide +kernel) rfl, by decide +kernel⟩
theorem in_X5_would : Cond.instanceMethod yX5_would ∈ zTBL := tb5 (j := 48) (by decide +kernel) rfl
theorem se_X5_would : Cond.selects RX5 yX5_would yX5_would ∈ zTBL := tb5 (j := 49) (by decide +kernel) rfl
theorem mc_X2_allScenes : zM0 yX2_allScenes cX2_allScenes 1 (some FieldType.int) 0 := ⟨tb2 (j := 20) (by decide +kernel) rfl, tb1 (j := 2) (by decide +kernel) rfl, by decide +kernel⟩
theorem in_X2_allScenes : Cond.instanceMethod yX2_allScenes ∈ zTBL := tb2 (j := 18) (by decide +kernel) rfl
theorem se_X2_allScenes : Cond.selects RX2 yX2_allScenes yX2_allScenes ∈ zTBL := tb2 (j := 19) (by decide +kernel) rfl
theorem ml_X5_251 : zM RX5 251 yX2_allScenes cX2_allScenes 1 (some FieldType.int) 0 := ⟨mc_X2_allScenes, tb4 (j := 33) (by decide +kernel) rfl⟩
theorem mc_X0_fewest : zM0 yX0_fewest cX0_fewest 5 (some FieldType.int) 3 := ⟨tb2 (j := 24) (by decide +kernel) rfl, tb1 (j := 4) (by decide +kernel) rfl, by decide +kernel⟩
theorem in_X0_fewest : Cond.instanceMethod yX0_fewest ∈ zTBL := tb2 (j := 22) (by decide +kernel) rfl
theorem se_X0_fewest : Cond.selects RX0 yX0_fewest yX0_fewest ∈ zTBL := tb2 (j := 23) (by decide +kernel) rfl
theorem ml_X5_254 : zM RX5 254 yX0_fewest cX0_fewest 5 (some FieldType.int) 3 := ⟨mc_X0_fewest, tb4 (j := 34) (by decide +kernel) rfl⟩
theorem mc_X5_without : zM0 yX5_without cX5_without 4 (some FieldType.int) 1 := ⟨tb4 (j := 32) (by decide +kernel) rfl, tb1 (j := 1) (by decide +kernel) rfl, by decide +kernel⟩
theorem in_X5_without : Cond.instanceMethod yX5_without ∈ zTBL := tb4 (j := 30) (by decide +kernel) rfl
theorem se_X5_without : Cond.selects RX5 yX5_without yX5_without ∈ zTBL := tb4 (j := 31) (by decide +kernel) rfl
theorem mc_X5_shareOf : zM0 yX5_shareOf cX5_shareOf 3 (some FieldType.int) 2 := ⟨tb4 (j := 38) (by decide +kernel) rfl, tb1 (j := 1) (by decide +kernel) rfl, by decide +kernel⟩
theorem in_X5_shareOf : Cond.instanceMethod yX5_shareOf ∈ zTBL := tb4 (j := 36) (by decide +kernel) rfl
theorem se_X5_shareOf : Cond.selects RX5 yX5_shareOf yX5_shareOf ∈ zTBL := tb4 (j := 37) (by decide +kernel) rfl
theorem mc_X5_isSound : zM0 yX5_isSound cX5_isSound 3 (some FieldType.boolean) 0 := ⟨tb3 (j := 181) (by decide +kernel) rfl, tb1 (j := 1) (by decide +kernel) rfl, by decide +kernel⟩
theorem in_X5_isSound : Cond.instanceMethod yX5_isSound ∈ zTBL := tb3 (j := 179) (by decide +kernel) rfl
theorem se_X5_isSound : Cond.selects RX5 yX5_isSound yX5_isSound ∈ zTBL := tb3 (j := 180) (by decide +kernel) rfl
theorem mc_X1_hasDebt : zM0 yX1_hasDebt cX1_hasDebt 2 (some FieldType.boolean) 0 := ⟨tb3 (j := 208) (by decide +kernel) rfl, tb1 (j := 3) (by decide +kernel) rfl, by decide +kernel⟩
theorem in_X1_hasDebt : Cond.instanceMethod yX1_hasDebt ∈ zTBL := tb3 (j := 206) (by decide +kernel) rfl
theorem se_X1_hasDebt : Cond.selects RX1 yX1_hasDebt yX1_hasDebt ∈ zTBL := tb3 (j := 207) (by decide +kernel) rfl
theorem ml_X5_258 : zM RX5 258 yX1_hasDebt cX1_hasDebt 2 (some FieldType.boolean) 0 := ⟨mc_X1_hasDebt, tb3 (j := 205) (by decide +kernel) rfl⟩
theorem mc_X5_bestCastClashes : zM0 yX5_bestCastClashes cX5_bestCastClashes 3 (some FieldType.boolean) 0 := ⟨tb3 (j := 212) (by decide +kernel) rfl, tb1 (j := 1) (by decide +kernel) rfl, by decide +kernel⟩
theorem in_X5_bestCastClashes : Cond.instanceMethod yX5_bestCastClashes ∈ zTBL := tb3 (j := 211) (by decide +kernel) rfl
theorem se_X5_bestCastClashes : Cond.selects RX5 yX5_bestCastClashes yX5_bestCastClashes ∈ zTBL := tbp (j := 12) (by decide +kernel) rfl
theorem ml_X5_262 : zM RX5 262 yX5_bestCastClashes cX5_bestCastClashes 3 (some FieldType.boolean) 0 := ⟨mc_X5_bestCastClashes, tb3 (j := 209) (by decide +kernel) rfl⟩
theorem mc_X5_digest : zM0 yX5_digest cX5_digest 5 (some FieldType.long) 0 := ⟨tb3 (j := 220) (by decide +kernel) rfl, tb1 (j := 1) (by decide +kernel) rfl, by decide +kernel⟩
theorem in_X5_digest : Cond.instanceMethod yX5_digest ∈ zTBL := tb3 (j := 218) (by decide +kernel) rfl
theorem se_X5_digest : Cond.selects RX5 yX5_digest yX5_digest ∈ zTBL := tb3 (j := 219) (by decide +kernel) rfl
theorem ml_X5_269 : zM RX5 269 yX5_house cX5_house 2 (some FieldType.int) 1 := ⟨mc_X5_house, tb3 (j := 223) (by decide +kernel) rfl⟩
theorem ml_X5_272 : zM RX5 272 yX5_ofPart cX5_ofPart 3 (some FieldType.int) 2 := ⟨mc_X5_ofPart, tb3 (j := 238) (by decide +kernel) rfl⟩
theorem ml_X5_275 : zM RX5 275 yX5_ofPlayer cX5_ofPlayer 3 (some FieldType.int) 2 := ⟨mc_X5_ofPlayer, tb4 (j := 25) (by decide +kernel) rfl⟩
theorem ml_X5_278 : zM RX5 278 yX5_without cX5_without 4 (some FieldType.int) 1 := ⟨mc_X5_without, tb4 (j := 29) (by decide +kernel) rfl⟩
theorem ml_X5_281 : zM RX5 281 yX5_shareOf cX5_shareOf 3 (some FieldType.int) 2 := ⟨mc_X5_shareOf, tb4 (j := 35) (by decide +kernel) rfl⟩
theorem ml_X5_284 : zM RX5 284 yX5_ofScene cX5_ofScene 4 (some FieldType.int) 2 := ⟨mc_X5_ofScene, tb4 (j := 51) (by decide +kernel) rfl⟩
theorem ml_X5_287 : zM RX5 287 yX5_ofCoat cX5_ofCoat 3 (some FieldType.int) 2 := ⟨mc_X5_ofCoat, tb4 (j := 84) (by decide +kernel) rfl⟩
theorem ml_X5_290 : zM RX5 290 yX5_ofTown cX5_ofTown 3 (some FieldType.int) 2 := ⟨mc_X5_ofTown, tb4 (j := 88) (by decide +kernel) rfl⟩
theorem ml_X5_293 : zM RX5 293 yX5_tour cX5_tour 4 (some FieldType.int) 2 := ⟨mc_X5_tour, tb4 (j := 96) (by decide +kernel) rfl⟩
theorem ml_X5_296 : zM RX5 296 yX5_cast cX5_cast 4 (some (FieldType.object "java/lang/String")) 0 := ⟨mc_X5_cast, tb4 (j := 110) (by decide +kernel) rfl⟩
theorem mc_J0_length_8abf5 : zM0 yJ0_length_8abf5 cJ0_length_8abf5 1 (some FieldType.int) 0 := ⟨tb3 (j := 107) (by decide +kernel) rfl, tb1 (j := 34) (by decide +kernel) rfl, by decide +kernel⟩
theorem in_J0_length_8abf5 : Cond.instanceMethod yJ0_length_8abf5 ∈ zTBL := tb3 (j := 105) (by decide +kernel) rfl
theorem se_J0_length_8abf5 : Cond.selects RJ0 yJ0_length_8abf5 yJ0_length_8abf5 ∈ zTBL := tb3 (j := 106) (by decide +kernel) rfl
theorem ml_X5_299 : zM RX5 299 yJ0_length_8abf5 cJ0_length_8abf5 1 (some FieldType.int) 0 := ⟨mc_J0_length_8abf5, tb4 (j := 111) (by decide +kernel) rfl⟩
theorem ml_X5_304 : zM RX5 304 yX5_isSound cX5_isSound 3 (some FieldType.boolean) 0 := ⟨mc_X5_isSound, tb4 (j := 112) (by decide +kernel) rfl⟩
theorem mc_X5_withOneMore : zM0 yX5_withOneMore cX5_withOneMore 5 (some FieldType.int) 2 := ⟨tb3 (j := 190) (by decide +kernel) rfl, tb1 (j := 1) (by decide +kernel) rfl, by decide +kernel⟩
theorem st_X5_withOneMore : Cond.static yX5_withOneMore ∈ zTBL := tb3 (j := 189) (by decide +kernel) rfl
theorem ml_X5_321 : zM RX5 321 yX5_withOneMore cX5_withOneMore 5 (some FieldType.int) 2 := ⟨mc_X5_withOneMore, tb3 (j := 188) (by decide +kernel) rfl⟩
theorem mc_J9_max_7cf53 : zM0 yJ9_max_7cf53 cJ9_max_7cf53 2 (some FieldType.int) 2 := ⟨tb2 (j := 143) (by decide +kernel) rfl, tb1 (j := 19) (by decide +kernel) rfl, by decide +kernel⟩
theorem st_J9_max_7cf53 : Cond.static yJ9_max_7cf53 ∈ zTBL := tb2 (j := 142) (by decide +kernel) rfl
theorem ml_X5_324 : zM RX5 324 yJ9_max_7cf53 cJ9_max_7cf53 2 (some FieldType.int) 2 := ⟨mc_J9_max_7cf53, tb3 (j := 192) (by decide +kernel) rfl⟩
theorem mc_X4_startDressing : zM0 yX4_startDressing cX4_startDressing 2 (none) 0 := ⟨tb4 (j := 62) (by decide +kernel) rfl, tb1 (j := 5) (by decide +kernel) rfl, by decide +kernel⟩
theorem in_X4_startDressing : Cond.instanceMethod yX4_startDressing ∈ zTBL := tb4 (j := 60) (by decide +kernel) rfl
theorem se_X4_startDressing : Cond.selects RX4 yX4_startDressing yX4_startDressing ∈ zTBL := tb4 (j := 61) (by decide +kernel) rfl
theorem ml_X5_329 : zM RX5 329 yX4_startDressing cX4_startDressing 2 (none) 0 := ⟨mc_X4_startDressing, tb4 (j := 59) (by decide +kernel) rfl⟩
theorem mc_X4_dressOneMore : zM0 yX4_dressOneMore cX4_dressOneMore 6 (none) 2 := ⟨tb4 (j := 66) (by decide +kernel) rfl, tb1 (j := 5) (by decide +kernel) rfl, by decide +kernel⟩
theorem in_X4_dressOneMore : Cond.instanceMethod yX4_dressOneMore ∈ zTBL := tb4 (j := 64) (by decide +kernel) rfl
theorem se_X4_dressOneMore : Cond.selects RX4 yX4_dressOneMore yX4_dressOneMore ∈ zTBL := tb4 (j := 65) (by decide +kernel) rfl
theorem ml_X5_332 : zM RX5 332 yX4_dressOneMore cX4_dressOneMore 6 (none) 2 := ⟨mc_X4_dressOneMore, tb4 (j := 63) (by decide +kernel) rfl⟩
theorem mc_X4_leastWaste : zM0 yX4_leastWaste cX4_leastWaste 3 (some FieldType.int) 0 := ⟨tb4 (j := 83) (by decide +kernel) rfl, tb1 (j := 5) (by decide +kernel) rfl, by decide +kernel⟩
theorem in_X4_leastWaste : Cond.instanceMethod yX4_leastWaste ∈ zTBL := tb4 (j := 81) (by decide +kernel) rfl
theorem se_X4_leastWaste : Cond.selects RX4 yX4_leastWaste yX4_leastWaste ∈ zTBL := tb4 (j := 82) (by decide +kernel) rfl
theorem ml_X5_335 : zM RX5 335 yX4_leastWaste cX4_leastWaste 3 (some FieldType.int) 0 := ⟨mc_X4_leastWaste, tb4 (j := 80) (by decide +kernel) rfl⟩
theorem mc_X12_init : zM0 yX12_init cX12_init 1 (none) 0 := ⟨tb5 (j := 63) (by decide +kernel) rfl, tb1 (j := 7) (by decide +kernel) rfl, by decide +kernel⟩
theorem in_X12_init : Cond.instanceMethod yX12_init ∈ zTBL := tb5 (j := 62) (by decide +kernel) rfl
theorem mc_Jx4a65c_init_da8c8 : zM0 yJx4a65c_init_da8c8 cJx4a65c_init_da8c8 1 (none) 0 := ⟨tb5 (j := 69) (by decide +kernel) rfl, tb1 (j := 10) (by decide +kernel) rfl, by decide +kernel⟩
theorem in_Jx4a65c_init_da8c8 : Cond.instanceMethod yJx4a65c_init_da8c8 ∈ zTBL := tb5 (j := 68) (by decide +kernel) rfl
theorem ml_X12_9 : zM RX12 9 yJx4a65c_init_da8c8 cJx4a65c_init_da8c8 1 (none) 0 := ⟨mc_Jx4a65c_init_da8c8, tb5 (j := 67) (by decide +kernel) rfl⟩
theorem fl_X12_10 : zF RX12 10 16 1 RX12 TX12 20 := ⟨rfl, zi_X12, by decide, rfl, Or.inl (tb5 (j := 95) (by decide +kernel) rfl)⟩
theorem fl_X12_16 : zF RX12 16 16 2 RX12 TX12 20 := ⟨rfl, zi_X12, by decide, rfl, Or.inl (tb5 (j := 96) (by decide +kernel) rfl)⟩
theorem fl_X12_19 : zF RX12 19 16 3 RX12 TX12 20 := ⟨rfl, zi_X12, by decide, rfl, Or.inl (tb5 (j := 97) (by decide +kernel) rfl)⟩
theorem fl_X12_22 : zF RX12 22 16 4 RX12 TX12 20 := ⟨rfl, zi_X12, by decide, rfl, Or.inl (tb5 (j := 98) (by decide +kernel) rfl)⟩
theorem fl_X12_25 : zF RX12 25 16 5 RX12 TX12 20 := ⟨rfl, zi_X12, by decide, rfl, Or.inl (tb5 (j := 99) (by decide +kernel) rfl)⟩
theorem fl_X12_28 : zF RX12 28 16 10 RX12 TX12 20 := ⟨rfl, zi_X12, by decide, rfl, Or.inl (tb5 (j := 104) (by decide +kernel) rfl)⟩
theorem fl_X12_32 : zF RX12 32 16 13 RX12 TX12 20 := ⟨rfl, zi_X12, by decide, rfl, Or.inl (tb5 (j := 107) (by decide +kernel) rfl)⟩
theorem fl_X12_35 : zF RX12 35 16 14 RX12 TX12 20 := ⟨rfl, zi_X12, by decide, rfl, Or.inl (tb5 (j := 108) (by decide +kernel) rfl)⟩
theorem mc_X12_thrown : zM0 yX12_thrown cX12_thrown 1 (some FieldType.int) 0 := ⟨tb5 (j := 158) (by decide +kernel) rfl, tb1 (j := 7) (by decide +kernel) rfl, by decide +kernel⟩
theorem in_X12_thrown : Cond.instanceMethod yX12_thrown ∈ zTBL := tb5 (j := 156) (by decide +kernel) rfl
theorem se_X12_thrown : Cond.selects RX12 yX12_thrown yX12_thrown ∈ zTBL := tb5 (j := 157) (by decide +kernel) rfl
theorem fl_X12_38 : zF RX12 38 16 0 RX12 TX12 20 := ⟨rfl, zi_X12, by decide, rfl, Or.inl (tb5 (j := 94) (by decide +kernel) rfl)⟩
theorem mc_X12_refuse : zM0 yX12_refuse cX12_refuse 2 (some FieldType.int) 1 := ⟨tb5 (j := 169) (by decide +kernel) rfl, tb1 (j := 7) (by decide +kernel) rfl, by decide +kernel⟩
theorem in_X12_refuse : Cond.instanceMethod yX12_refuse ∈ zTBL := tb5 (j := 168) (by decide +kernel) rfl
theorem se_X12_refuse : Cond.selects RX12 yX12_refuse yX12_refuse ∈ zTBL := tbp (j := 19) (by decide +kernel) rfl
theorem mc_X12_is : zM0 yX12_is cX12_is 3 (some FieldType.boolean) 3 := ⟨tb5 (j := 165) (by decide +kernel) rfl, tb1 (j := 7) (by decide +kernel) rfl, by decide +kernel⟩
theorem st_X12_is : Cond.static yX12_is ∈ zTBL := tb5 (j := 164) (by decide +kernel) rfl
theorem mc_X12_isIn : zM0 yX12_isIn cX12_isIn 2 (some FieldType.boolean) 2 := ⟨tb6 (j := 204) (by decide +kernel) rfl, tb1 (j := 7) (by decide +kernel) rfl, by decide +kernel⟩
theorem st_X12_isIn : Cond.static yX12_isIn ∈ zTBL := tb6 (j := 203) (by decide +kernel) rfl
theorem mc_X12_isPart : zM0 yX12_isPart cX12_isPart 2 (some FieldType.boolean) 1 := ⟨tb7 (j := 1) (by decide +kernel) rfl, tb1 (j := 7) (by decide +kernel) rfl, by decide +kernel⟩
theorem in_X12_isPart : Cond.instanceMethod yX12_isPart ∈ zTBL := tb7 (j := 0) (by decide +kernel) rfl
theorem se_X12_isPart : Cond.selects RX12 yX12_isPart yX12_isPart ∈ zTBL := tbp (j := 38) (by decide +kernel) rfl
theorem mc_Jx4a65c_size_8abf5 : zM0 yJx4a65c_size_8abf5 cJx4a65c_size_8abf5 1 (some FieldType.int) 0 := ⟨tb5 (j := 173) (by decide +kernel) rfl, tb1 (j := 10) (by decide +kernel) rfl, by decide +kernel⟩
theorem in_Jx4a65c_size_8abf5 : Cond.instanceMethod yJx4a65c_size_8abf5 ∈ zTBL := tb5 (j := 171) (by decide +kernel) rfl
theorem se_Jx4a65c_size_8abf5 : Cond.selects RJx4a65c yJx4a65c_size_8abf5 yJx4a65c_size_8abf5 ∈ zTBL := tb5 (j := 172) (by decide +kernel) rfl
theorem ml_X12_42 : zM RX12 42 yJx4a65c_size_8abf5 cJx4a65c_size_8abf5 1 (some FieldType.int) 0 := ⟨mc_Jx4a65c_size_8abf5, tb5 (j := 170) (by decide +kernel) rfl⟩
theorem ml_X12_46 : zM RX12 46 yX12_is cX12_is 3 (some FieldType.boolean) 3 := ⟨mc_X12_is, tb5 (j := 163) (by decide +kernel) rfl⟩
theorem mc_X12_isPlayer : zM0 yX12_isPlayer cX12_isPlayer 2 (some FieldType.boolean) 1 := ⟨tb6 (j := 72) (by decide +kernel) rfl, tb1 (j := 7) (by decide +kernel) rfl, by decide +kernel⟩
theorem in_X12_isPlayer : Cond.instanceMethod yX12_isPlayer ∈ zTBL := tb6 (j := 71) (by decide +kernel) rfl
theorem se_X12_isPlayer : Cond.selects RX12 yX12_isPlayer yX12_isPlayer ∈ zTBL := tbp (j := 24) (by decide +kernel) rfl
theorem mc_X12_isScene : zM0 yX12_isScene cX12_isScene 2 (some FieldType.boolean) 1 := ⟨tb6 (j := 52) (by decide +kernel) rfl, tb1 (j := 7) (by decide +kernel) rfl, by decide +kernel⟩
theorem in_X12_isScene : Cond.instanceMethod yX12_isScene ∈ zTBL := tb6 (j := 51) (by decide +kernel) rfl
theorem se_X12_isScene : Cond.selects RX12 yX12_isScene yX12_isScene ∈ zTBL := tbp (j := 23) (by decide +kernel) rfl
theorem mc_X12_isCoat : zM0 yX12_isCoat cX12_isCoat 2 (some FieldType.boolean) 1 := ⟨tb6 (j := 153) (by decide +kernel) rfl, tb1 (j := 7) (by decide +kernel) rfl, by decide +kernel⟩
theorem in_X12_isCoat : Cond.instanceMethod yX12_isCoat ∈ zTBL := tb6 (j := 152) (by decide +kernel) rfl
theorem se_X12_isCoat : Cond.selects RX12 yX12_isCoat yX12_isCoat ∈ zTBL := tbp (j := 26) (by decide +kernel) rfl
theorem mc_X12_isTown : zM0 yX12_isTown cX12_isTown 2 (some FieldType.boolean) 1 := ⟨tb6 (j := 185) (by decide +kernel) rfl, tb1 (j := 7) (by decide +kernel) rfl, by decide +kernel⟩
theorem in_X12_isTown : Cond.instanceMethod yX12_isTown ∈ zTBL := tb6 (j := 184) (by decide +kernel) rfl
theorem se_X12_isTown : Cond.selects RX12 yX12_isTown yX12_isTown ∈ zTBL := tbp (j := 27) (by decide +kernel) rfl
theorem mc_X12_all : zM0 yX12_all cX12_all 1 (some FieldType.int) 0 := ⟨tb6 (j := 193) (by decide +kernel) rfl, tb1 (j := 7) (by decide +kernel) rfl, by decide +kernel⟩
theorem in_X12_all : Cond.instanceMethod yX12_all ∈ zTBL := tb6 (j := 192) (by decide +kernel) rfl
theorem se_X12_all : Cond.selects RX12 yX12_all yX12_all ∈ zTBL := tbp (j := 29) (by decide +kernel) rfl
theorem mc_X12_part : zM0 yX12_part cX12_part 5 (some FieldType.int) 3 := ⟨tb5 (j := 162) (by decide +kernel) rfl, tb1 (j := 7) (by decide +kernel) rfl, by decide +kernel⟩
theorem in_X12_part : Cond.instanceMethod yX12_part ∈ zTBL := tb5 (j := 160) (by decide +kernel) rfl
theorem se_X12_part : Cond.selects RX12 yX12_part yX12_part ∈ zTBL := tb5 (j := 161) (by decide +kernel) rfl
theorem ml_X12_50 : zM RX12 50 yX12_refuse cX12_refuse 2 (some FieldType.int) 1 := ⟨mc_X12_refuse, tb5 (j := 166) (by decide +kernel) rfl⟩
theorem mc_X8_init : zM0 yX8_init cX8_init 1 (none) 0 := ⟨tb5 (j := 178) (by decide +kernel) rfl, tb1 (j := 17) (by decide +kernel) rfl, by decide +kernel⟩
theorem in_X8_init : Cond.instanceMethod yX8_init ∈ zTBL := tb5 (j := 177) (by decide +kernel) rfl
theorem ml_X12_56 : zMN RX12 56 yX8_init cX8_init 1 (none) 0 := ⟨mc_X8_init, "DoublecoatModel", nb5 (j := 176) (by decide +kernel) rfl⟩
theorem fl_X12_57 : zF RX12 57 12 0 RX8 TX8 3 := ⟨rfl, zi_X8, by decide, rfl, Or.inr ⟨"DoublecoatModel", nb5 (j := 180) (by decide +kernel) rfl⟩⟩
theorem fl_X12_60 : zF RX12 60 12 1 RX8 TX8 3 := ⟨rfl, zi_X8, by decide, rfl, Or.inr ⟨"DoublecoatModel", nb5 (j := 181) (by decide +kernel) rfl⟩⟩
theorem fl_X12_63 : zF RX12 63 12 2 RX8 TX8 3 := ⟨rfl, zi_X8, by decide, rfl, Or.inr ⟨"DoublecoatModel", nb5 (j := 182) (by decide +kernel) rfl⟩⟩
theorem mc_Jx4a65c_add_9ea2d : zM0 yJx4a65c_add_9ea2d cJx4a65c_add_9ea2d 2 (some FieldType.boolean) 1 := ⟨tb5 (j := 193) (by decide +kernel) rfl, tb1 (j := 10) (by decide +kernel) rfl, by decide +kernel⟩
theorem in_Jx4a65c_add_9ea2d : Cond.instanceMethod yJx4a65c_add_9ea2d ∈ zTBL := tb5 (j := 191) (by decide +kernel) rfl
theorem se_Jx4a65c_add_9ea2d : Cond.selects RJx4a65c yJx4a65c_add_9ea2d yJx4a65c_add_9ea2d ∈ zTBL := tb5 (j := 192) (by decide +kernel) rfl
theorem ml_X12_66 : zM RX12 66 yJx4a65c_add_9ea2d cJx4a65c_add_9ea2d 2 (some FieldType.boolean) 1 := ⟨mc_Jx4a65c_add_9ea2d, tb5 (j := 190) (by decide +kernel) rfl⟩
theorem fl_X12_70 : zF RX12 70 16 11 RX12 TX12 20 := ⟨rfl, zi_X12, by decide, rfl, Or.inl (tb5 (j := 105) (by decide +kernel) rfl)⟩
theorem mc_X12_player : zM0 yX12_player cX12_player 5 (some FieldType.int) 3 := ⟨tb6 (j := 5) (by decide +kernel) rfl, tb1 (j := 7) (by decide +kernel) rfl, by decide +kernel⟩
theorem in_X12_player : Cond.instanceMethod yX12_player ∈ zTBL := tb6 (j := 3) (by decide +kernel) rfl
theorem se_X12_player : Cond.selects RX12 yX12_player yX12_player ∈ zTBL := tb6 (j := 4) (by decide +kernel) rfl
theorem mc_X9_init : zM0 yX9_init cX9_init 1 (none) 0 := ⟨tb6 (j := 10) (by decide +kernel) rfl, tb1 (j := 22) (by decide +kernel) rfl, by decide +kernel⟩
theorem in_X9_init : Cond.instanceMethod yX9_init ∈ zTBL := tb6 (j := 9) (by decide +kernel) rfl
theorem ml_X12_76 : zMN RX12 76 yX9_init cX9_init 1 (none) 0 := ⟨mc_X9_init, "DoublecoatModel", nb6 (j := 8) (by decide +kernel) rfl⟩
theorem fl_X12_77 : zF RX12 77 13 0 RX9 TX9 5 := ⟨rfl, zi_X9, by decide, rfl, Or.inr ⟨"DoublecoatModel", nb6 (j := 12) (by decide +kernel) rfl⟩⟩
theorem fl_X12_80 : zF RX12 80 13 1 RX9 TX9 5 := ⟨rfl, zi_X9, by decide, rfl, Or.inr ⟨"DoublecoatModel", nb6 (j := 13) (by decide +kernel) rfl⟩⟩
theorem fl_X12_82 : zF RX12 82 13 2 RX9 TX9 5 := ⟨rfl, zi_X9, by decide, rfl, Or.inr ⟨"DoublecoatModel", nb6 (j := 14) (by decide +kernel) rfl⟩⟩
theorem mc_X12_scene : zM0 yX12_scene cX12_scene 4 (some FieldType.int) 2 := ⟨tb6 (j := 31) (by decide +kernel) rfl, tb1 (j := 7) (by decide +kernel) rfl, by decide +kernel⟩
theorem in_X12_scene : Cond.instanceMethod yX12_scene ∈ zTBL := tb6 (j := 29) (by decide +kernel) rfl
theorem se_X12_scene : Cond.selects RX12 yX12_scene yX12_scene ∈ zTBL := tb6 (j := 30) (by decide +kernel) rfl
theorem mc_X10_init : zM0 yX10_init cX10_init 1 (none) 0 := ⟨tb6 (j := 36) (by decide +kernel) rfl, tb1 (j := 23) (by decide +kernel) rfl, by decide +kernel⟩
theorem in_X10_init : Cond.instanceMethod yX10_init ∈ zTBL := tb6 (j := 35) (by decide +kernel) rfl
theorem ml_X12_87 : zMN RX12 87 yX10_init cX10_init 1 (none) 0 := ⟨mc_X10_init, "DoublecoatModel", nb6 (j := 34) (by decide +kernel) rfl⟩
theorem fl_X12_88 : zF RX12 88 14 0 RX10 TX10 2 := ⟨rfl, zi_X10, by decide, rfl, Or.inr ⟨"DoublecoatModel", nb6 (j := 38) (by decide +kernel) rfl⟩⟩
theorem fl_X12_90 : zF RX12 90 14 1 RX10 TX10 2 := ⟨rfl, zi_X10, by decide, rfl, Or.inr ⟨"DoublecoatModel", nb6 (j := 39) (by decide +kernel) rfl⟩⟩
theorem mc_X12_pause : zM0 yX12_pause cX12_pause 4 (some FieldType.int) 2 := ⟨tb6 (j := 48) (by decide +kernel) rfl, tb1 (j := 7) (by decide +kernel) rfl, by decide +kernel⟩
theorem in_X12_pause : Cond.instanceMethod yX12_pause ∈ zTBL := tb6 (j := 46) (by decide +kernel) rfl
theorem se_X12_pause : Cond.selects RX12 yX12_pause yX12_pause ∈ zTBL := tb6 (j := 47) (by decide +kernel) rfl
theorem ml_X12_93 : zM RX12 93 yX12_isScene cX12_isScene 2 (some FieldType.boolean) 1 := ⟨mc_X12_isScene, tb6 (j := 49) (by decide +kernel) rfl⟩
theorem mc_Jx4a65c_get_915e3 : zM0 yJx4a65c_get_915e3 cJx4a65c_get_915e3 2 (some (FieldType.object "java/lang/Object")) 1 := ⟨tb6 (j := 56) (by decide +kernel) rfl, tb1 (j := 10) (by decide +kernel) rfl, by decide +kernel⟩
theorem in_Jx4a65c_get_915e3 : Cond.instanceMethod yJx4a65c_get_915e3 ∈ zTBL := tb6 (j := 54) (by decide +kernel) rfl
theorem se_Jx4a65c_get_915e3 : Cond.selects RJx4a65c yJx4a65c_get_915e3 yJx4a65c_get_915e3 ∈ zTBL := tb6 (j := 55) (by decide +kernel) rfl
theorem ml_X12_97 : zM RX12 97 yJx4a65c_get_915e3 cJx4a65c_get_915e3 2 (some (FieldType.object "java/lang/Object")) 1 := ⟨mc_Jx4a65c_get_915e3, tb6 (j := 53) (by decide +kernel) rfl⟩
theorem mc_X12_well : zM0 yX12_well cX12_well 4 (some FieldType.int) 0 := ⟨tb6 (j := 76) (by decide +kernel) rfl, tb1 (j := 7) (by decide +kernel) rfl, by decide +kernel⟩
theorem in_X12_well : Cond.instanceMethod yX12_well ∈ zTBL := tb6 (j := 75) (by decide +kernel) rfl
theorem se_X12_well : Cond.selects RX12 yX12_well yX12_well ∈ zTBL := tbp (j := 25) (by decide +kernel) rfl
theorem mc_Jx4a65c_iterator_32c93 : zM0 yJx4a65c_iterator_32c93 cJx4a65c_iterator_32c93 1 (some (FieldType.object "java/util/Iterator")) 0 := ⟨tb6 (j := 80) (by decide +kernel) rfl, tb1 (j := 10) (by decide +kernel) rfl, by decide +kernel⟩
theorem in_Jx4a65c_iterator_32c93 : Cond.instanceMethod yJx4a65c_iterator_32c93 ∈ zTBL := tb6 (j := 78) (by decide +kernel) rfl
theorem se_Jx4a65c_iterator_32c93 : Cond.selects RJx4a65c yJx4a65c_iterator_32c93 yJx4a65c_iterator_32c93 ∈ zTBL := tb6 (j := 79) (by decide +kernel) rfl
theorem ml_X12_101 : zM RX12 101 yJx4a65c_iterator_32c93 cJx4a65c_iterator_32c93 1 (some (FieldType.object "java/util/Iterator")) 0 := ⟨mc_Jx4a65c_iterator_32c93, tb6 (j := 77) (by decide +kernel) rfl⟩
theorem fl_X12_115 : zF RX12 115 13 3 RX9 TX9 5 := ⟨rfl, zi_X9, by decide, rfl, Or.inr ⟨"DoublecoatModel", nb6 (j := 15) (by decide +kernel) rfl⟩⟩
theorem mc_X12_sick : zM0 yX12_sick cX12_sick 3 (some FieldType.int) 2 := ⟨tb6 (j := 68) (by decide +kernel) rfl, tb1 (j := 7) (by decide +kernel) rfl, by decide +kernel⟩
theorem in_X12_sick : Cond.instanceMethod yX12_sick ∈ zTBL := tb6 (j := 66) (by decide +kernel) rfl
theorem se_X12_sick : Cond.selects RX12 yX12_sick yX12_sick ∈ zTBL := tb6 (j := 67) (by decide +kernel) rfl
theorem ml_X12_118 : zM RX12 118 yX12_isPlayer cX12_isPlayer 2 (some FieldType.boolean) 1 := ⟨mc_X12_isPlayer, tb6 (j := 69) (by decide +kernel) rfl⟩
theorem ml_X12_121 : zM RX12 121 yX12_well cX12_well 4 (some FieldType.int) 0 := ⟨mc_X12_well, tb6 (j := 73) (by decide +kernel) rfl⟩
theorem mc_X12_coat : zM0 yX12_coat cX12_coat 5 (some FieldType.int) 3 := ⟨tb6 (j := 126) (by decide +kernel) rfl, tb1 (j := 7) (by decide +kernel) rfl, by decide +kernel⟩
theorem in_X12_coat : Cond.instanceMethod yX12_coat ∈ zTBL := tb6 (j := 124) (by decide +kernel) rfl
theorem se_X12_coat : Cond.selects RX12 yX12_coat yX12_coat ∈ zTBL := tb6 (j := 125) (by decide +kernel) rfl
theorem mc_X7_init : zM0 yX7_init cX7_init 1 (none) 0 := ⟨tb6 (j := 131) (by decide +kernel) rfl, tb1 (j := 30) (by decide +kernel) rfl, by decide +kernel⟩
theorem in_X7_init : Cond.instanceMethod yX7_init ∈ zTBL := tb6 (j := 130) (by decide +kernel) rfl
theorem ml_X12_126 : zMN RX12 126 yX7_init cX7_init 1 (none) 0 := ⟨mc_X7_init, "DoublecoatModel", nb6 (j := 129) (by decide +kernel) rfl⟩
theorem fl_X12_127 : zF RX12 127 11 0 RX7 TX7 4 := ⟨rfl, zi_X7, by decide, rfl, Or.inr ⟨"DoublecoatModel", nb6 (j := 133) (by decide +kernel) rfl⟩⟩
theorem fl_X12_128 : zF RX12 128 11 1 RX7 TX7 4 := ⟨rfl, zi_X7, by decide, rfl, Or.inr ⟨"DoublecoatModel", nb6 (j := 134) (by decide +kernel) rfl⟩⟩
theorem fl_X12_129 : zF RX12 129 11 2 RX7 TX7 4 := ⟨rfl, zi_X7, by decide, rfl, Or.inr ⟨"DoublecoatModel", nb6 (j := 135) (by decide +kernel) rfl⟩⟩
theorem mc_X12_pawn : zM0 yX12_pawn cX12_pawn 4 (some FieldType.int) 2 := ⟨tb6 (j := 149) (by decide +kernel) rfl, tb1 (j := 7) (by decide +kernel) rfl, by decide +kernel⟩
theorem in_X12_pawn : Cond.instanceMethod yX12_pawn ∈ zTBL := tb6 (j := 147) (by decide +kernel) rfl
theorem se_X12_pawn : Cond.selects RX12 yX12_pawn yX12_pawn ∈ zTBL := tb6 (j := 148) (by decide +kernel) rfl
theorem ml_X12_132 : zM RX12 132 yX12_isCoat cX12_isCoat 2 (some FieldType.boolean) 1 := ⟨mc_X12_isCoat, tb6 (j := 150) (by decide +kernel) rfl⟩
theorem fl_X12_135 : zF RX12 135 11 3 RX7 TX7 4 := ⟨rfl, zi_X7, by decide, rfl, Or.inr ⟨"DoublecoatModel", nb6 (j := 136) (by decide +kernel) rfl⟩⟩
theorem fl_X12_138 : zF RX12 138 16 6 RX12 TX12 20 := ⟨rfl, zi_X12, by decide, rfl, Or.inl (tb5 (j := 100) (by decide +kernel) rfl)⟩
theorem fl_X12_141 : zF RX12 141 13 4 RX9 TX9 5 := ⟨rfl, zi_X9, by decide, rfl, Or.inr ⟨"DoublecoatModel", nb6 (j := 16) (by decide +kernel) rfl⟩⟩
theorem mc_X12_redeem : zM0 yX12_redeem cX12_redeem 5 (some FieldType.int) 2 := ⟨tb6 (j := 157) (by decide +kernel) rfl, tb1 (j := 7) (by decide +kernel) rfl, by decide +kernel⟩
theorem in_X12_redeem : Cond.instanceMethod yX12_redeem ∈ zTBL := tb6 (j := 155) (by decide +kernel) rfl
theorem se_X12_redeem : Cond.selects RX12 yX12_redeem yX12_redeem ∈ zTBL := tb6 (j := 156) (by decide +kernel) rfl
theorem fl_X12_144 : zF RX12 144 16 7 RX12 TX12 20 := ⟨rfl, zi_X12, by decide, rfl, Or.inl (tb5 (j := 101) (by decide +kernel) rfl)⟩
theorem mc_X12_town : zM0 yX12_town cX12_town 5 (some FieldType.int) 3 := ⟨tb6 (j := 161) (by decide +kernel) rfl, tb1 (j := 7) (by decide +kernel) rfl, by decide +kernel⟩
theorem in_X12_town : Cond.instanceMethod yX12_town ∈ zTBL := tb6 (j := 159) (by decide +kernel) rfl
theorem se_X12_town : Cond.selects RX12 yX12_town yX12_town ∈ zTBL := tb6 (j := 160) (by decide +kernel) rfl
theorem mc_X11_init : zM0 yX11_init cX11_init 1 (none) 0 := ⟨tb6 (j := 166) (by decide +kernel) rfl, tb1 (j := 31) (by decide +kernel) rfl, by decide +kernel⟩
theorem in_X11_init : Cond.instanceMethod yX11_init ∈ zTBL := tb6 (j := 165) (by decide +kernel) rfl
theorem ml_X12_149 : zMN RX12 149 yX11_init cX11_init 1 (none) 0 := ⟨mc_X11_init, "DoublecoatModel", nb6 (j := 164) (by decide +kernel) rfl⟩
theorem fl_X12_150 : zF RX12 150 15 0 RX11 TX11 3 := ⟨rfl, zi_X11, by decide, rfl, Or.inr ⟨"DoublecoatModel", nb6 (j := 168) (by decide +kernel) rfl⟩⟩
theorem fl_X12_153 : zF RX12 153 15 1 RX11 TX11 3 := ⟨rfl, zi_X11, by decide, rfl, Or.inr ⟨"DoublecoatModel", nb6 (j := 169) (by decide +kernel) rfl⟩⟩
theorem fl_X12_156 : zF RX12 156 15 2 RX11 TX11 3 := ⟨rfl, zi_X11, by decide, rfl, Or.inr ⟨"DoublecoatModel", nb6 (j := 170) (by decide +kernel) rfl⟩⟩
theorem mc_X12_plays : zM0 yX12_plays cX12_plays 3 (some FieldType.boolean) 2 := ⟨tb6 (j := 216) (by decide +kernel) rfl, tb1 (j := 7) (by decide +kernel) rfl, by decide +kernel⟩
theorem in_X12_plays : Cond.instanceMethod yX12_plays ∈ zTBL := tb6 (j := 215) (by decide +kernel) rfl
theorem se_X12_plays : Cond.selects RX12 yX12_plays yX12_plays ∈ zTBL := tbp (j := 34) (by decide +kernel) rfl
theorem ml_X12_159 : zM RX12 159 yX12_isIn cX12_isIn 2 (some FieldType.boolean) 2 := ⟨mc_X12_isIn, tb6 (j := 202) (by decide +kernel) rfl⟩
theorem mc_X12_players : zM0 yX12_players cX12_players 4 (some FieldType.int) 1 := ⟨tb7 (j := 13) (by decide +kernel) rfl, tb1 (j := 7) (by decide +kernel) rfl, by decide +kernel⟩
theorem in_X12_players : Cond.instanceMethod yX12_players ∈ zTBL := tb7 (j := 12) (by decide +kernel) rfl
theorem se_X12_players : Cond.selects RX12 yX12_players yX12_players ∈ zTBL := tbp (j := 41) (by decide +kernel) rfl
theorem ml_X12_163 : zM RX12 163 yX12_plays cX12_plays 3 (some FieldType.boolean) 2 := ⟨mc_X12_plays, tb6 (j := 213) (by decide +kernel) rfl⟩
theorem mc_X12_clash : zM0 yX12_clash cX12_clash 8 (none) 1 := ⟨tb6 (j := 201) (by decide +kernel) rfl, tb1 (j := 7) (by decide +kernel) rfl, by decide +kernel⟩
theorem in_X12_clash : Cond.instanceMethod yX12_clash ∈ zTBL := tb6 (j := 200) (by decide +kernel) rfl
theorem se_X12_clash : Cond.selects RX12 yX12_clash yX12_clash ∈ zTBL := tbp (j := 31) (by decide +kernel) rfl
theorem mc_X12_partsOf : zM0 yX12_partsOf cX12_partsOf 4 (some FieldType.int) 1 := ⟨tb6 (j := 208) (by decide +kernel) rfl, tb1 (j := 7) (by decide +kernel) rfl, by decide +kernel⟩
theorem in_X12_partsOf : Cond.instanceMethod yX12_partsOf ∈ zTBL := tb6 (j := 207) (by decide +kernel) rfl
theorem se_X12_partsOf : Cond.selects RX12 yX12_partsOf yX12_partsOf ∈ zTBL := tbp (j := 32) (by decide +kernel) rfl
theorem mc_X12_fills : zM0 yX12_fills cX12_fills 8 (some FieldType.boolean) 4 := ⟨tb6 (j := 212) (by decide +kernel) rfl, tb1 (j := 7) (by decide +kernel) rfl, by decide +kernel⟩
theorem in_X12_fills : Cond.instanceMethod yX12_fills ∈ zTBL := tb6 (j := 211) (by decide +kernel) rfl
theorem se_X12_fills : Cond.selects RX12 yX12_fills yX12_fills ∈ zTBL := tbp (j := 33) (by decide +kernel) rfl
theorem ml_X12_166 : zM RX12 166 yX12_fills cX12_fills 8 (some FieldType.boolean) 4 := ⟨mc_X12_fills, tb6 (j := 209) (by decide +kernel) rfl⟩
theorem ml_X12_170 : zM RX12 170 yJ6_bitCount_0f7a4 cJ6_bitCount_0f7a4 1 (some FieldType.int) 1 := ⟨mc_J6_bitCount_0f7a4, tb6 (j := 217) (by decide +kernel) rfl⟩
theorem mc_X12_needs : zM0 yX12_needs cX12_needs 4 (some FieldType.int) 1 := ⟨tb6 (j := 197) (by decide +kernel) rfl, tb1 (j := 7) (by decide +kernel) rfl, by decide +kernel⟩
theorem in_X12_needs : Cond.instanceMethod yX12_needs ∈ zTBL := tb6 (j := 196) (by decide +kernel) rfl
theorem se_X12_needs : Cond.selects RX12 yX12_needs yX12_needs ∈ zTBL := tbp (j := 30) (by decide +kernel) rfl
theorem ml_X12_175 : zM RX12 175 yX12_clash cX12_clash 8 (none) 1 := ⟨mc_X12_clash, tb6 (j := 198) (by decide +kernel) rfl⟩
theorem ml_X12_179 : zM RX12 179 yX12_partsOf cX12_partsOf 4 (some FieldType.int) 1 := ⟨mc_X12_partsOf, tb6 (j := 205) (by decide +kernel) rfl⟩
theorem mc_X12_isCast : zM0 yX12_isCast cX12_isCast 2 (some FieldType.boolean) 0 := ⟨tb6 (j := 189) (by decide +kernel) rfl, tb1 (j := 7) (by decide +kernel) rfl, by decide +kernel⟩
theorem in_X12_isCast : Cond.instanceMethod yX12_isCast ∈ zTBL := tb6 (j := 188) (by decide +kernel) rfl
theorem se_X12_isCast : Cond.selects RX12 yX12_isCast yX12_isCast ∈ zTBL := tbp (j := 28) (by decide +kernel) rfl
theorem ml_X12_182 : zM RX12 182 yX12_all cX12_all 1 (some FieldType.int) 0 := ⟨mc_X12_all, tb6 (j := 190) (by decide +kernel) rfl⟩
theorem ml_X12_185 : zM RX12 185 yX12_needs cX12_needs 4 (some FieldType.int) 1 := ⟨mc_X12_needs, tb6 (j := 194) (by decide +kernel) rfl⟩
theorem fl_X12_188 : zF RX12 188 16 12 RX12 TX12 20 := ⟨rfl, zi_X12, by decide, rfl, Or.inl (tb5 (j := 106) (by decide +kernel) rfl)⟩
theorem mc_X12_cutScenes : zM0 yX12_cutScenes cX12_cutScenes 3 (some FieldType.int) 0 := ⟨tb7 (j := 98) (by decide +kernel) rfl, tb1 (j := 7) (by decide +kernel) rfl, by decide +kernel⟩
theorem in_X12_cutScenes : Cond.instanceMethod yX12_cutScenes ∈ zTBL := tb7 (j := 97) (by decide +kernel) rfl
theorem se_X12_cutScenes : Cond.selects RX12 yX12_cutScenes yX12_cutScenes ∈ zTBL := tbp (j := 55) (by decide +kernel) rfl
theorem mc_X12_finds : zM0 yX12_finds cX12_finds 6 (some FieldType.boolean) 4 := ⟨tb7 (j := 37) (by decide +kernel) rfl, tb1 (j := 7) (by decide +kernel) rfl, by decide +kernel⟩
theorem in_X12_finds : Cond.instanceMethod yX12_finds ∈ zTBL := tb7 (j := 36) (by decide +kernel) rfl
theorem se_X12_finds : Cond.selects RX12 yX12_finds yX12_finds ∈ zTBL := tbp (j := 45) (by decide +kernel) rfl
theorem ml_X12_191 : zM RX12 191 yX12_finds cX12_finds 6 (some FieldType.boolean) 4 := ⟨mc_X12_finds, tb7 (j := 34) (by decide +kernel) rfl⟩
theorem mc_X12_filled : zM0 yX12_filled cX12_filled 5 (some FieldType.int) 1 := ⟨tb7 (j := 33) (by decide +kernel) rfl, tb1 (j := 7) (by decide +kernel) rfl, by decide +kernel⟩
theorem in_X12_filled : Cond.instanceMethod yX12_filled ∈ zTBL := tb7 (j := 32) (by decide +kernel) rfl
theorem se_X12_filled : Cond.selects RX12 yX12_filled yX12_filled ∈ zTBL := tbp (j := 44) (by decide +kernel) rfl
theorem mc_X12_excess : zM0 yX12_excess cX12_excess 4 (some FieldType.int) 1 := ⟨tb7 (j := 45) (by decide +kernel) rfl, tb1 (j := 7) (by decide +kernel) rfl, by decide +kernel⟩
theorem in_X12_excess : Cond.instanceMethod yX12_excess ∈ zTBL := tb7 (j := 44) (by decide +kernel) rfl
theorem se_X12_excess : Cond.selects RX12 yX12_excess yX12_excess ∈ zTBL := tbp (j := 47) (by decide +kernel) rfl
theorem ml_X12_195 : zM RX12 195 yX12_players cX12_players 4 (some FieldType.int) 1 := ⟨mc_X12_players, tb7 (j := 10) (by decide +kernel) rfl⟩
theorem mc_X12_lack : zM0 yX12_lack cX12_lack 4 (some FieldType.int) 1 := ⟨tb7 (j := 41) (by decide +kernel) rfl, tb1 (j := 7) (by decide +kernel) rfl, by decide +kernel⟩
theorem in_X12_lack : Cond.instanceMethod yX12_lack ∈ zTBL := tb7 (j := 40) (by decide +kernel) rfl
theorem se_X12_lack : Cond.selects RX12 yX12_lack yX12_lack ∈ zTBL := tbp (j := 46) (by decide +kernel) rfl
theorem ml_X12_197 : zM RX12 197 yX12_excess cX12_excess 4 (some FieldType.int) 1 := ⟨mc_X12_excess, tb7 (j := 42) (by decide +kernel) rfl⟩
theorem mc_X12_waste : zM0 yX12_waste cX12_waste 5 (some FieldType.int) 2 := ⟨tb7 (j := 61) (by decide +kernel) rfl, tb1 (j := 7) (by decide +kernel) rfl, by decide +kernel⟩
theorem in_X12_waste : Cond.instanceMethod yX12_waste ∈ zTBL := tb7 (j := 60) (by decide +kernel) rfl
theorem se_X12_waste : Cond.selects RX12 yX12_waste yX12_waste ∈ zTBL := tbp (j := 50) (by decide +kernel) rfl
theorem mc_J9_abs_0f7a4 : zM0 yJ9_abs_0f7a4 cJ9_abs_0f7a4 1 (some FieldType.int) 1 := ⟨tb4 (j := 74) (by decide +kernel) rfl, tb1 (j := 19) (by decide +kernel) rfl, by decide +kernel⟩
theorem st_J9_abs_0f7a4 : Cond.static yJ9_abs_0f7a4 ∈ zTBL := tb4 (j := 73) (by decide +kernel) rfl
theorem ml_X12_200 : zM RX12 200 yJ9_abs_0f7a4 cJ9_abs_0f7a4 1 (some FieldType.int) 1 := ⟨mc_J9_abs_0f7a4, tb7 (j := 62) (by decide +kernel) rfl⟩
theorem mc_X12_dress : zM0 yX12_dress cX12_dress 7 (none) 3 := ⟨tb7 (j := 53) (by decide +kernel) rfl, tb1 (j := 7) (by decide +kernel) rfl, by decide +kernel⟩
theorem in_X12_dress : Cond.instanceMethod yX12_dress ∈ zTBL := tb7 (j := 52) (by decide +kernel) rfl
theorem se_X12_dress : Cond.selects RX12 yX12_dress yX12_dress ∈ zTBL := tbp (j := 49) (by decide +kernel) rfl
theorem fl_X12_205 : zF RX12 205 16 15 RX12 TX12 20 := ⟨rfl, zi_X12, by decide, rfl, Or.inl (tb5 (j := 109) (by decide +kernel) rfl)⟩
theorem mc_J6_numberOfTrailingZeros_0f7a4 : zM0 yJ6_numberOfTrailingZeros_0f7a4 cJ6_numberOfTrailingZeros_0f7a4 2 (some FieldType.int) 1 := ⟨tb7 (j := 56) (by decide +kernel) rfl, tb1 (j := 28) (by decide +kernel) rfl, by decide +kernel⟩
theorem st_J6_numberOfTrailingZeros_0f7a4 : Cond.static yJ6_numberOfTrailingZeros_0f7a4 ∈ zTBL := tb7 (j := 55) (by decide +kernel) rfl
theorem ml_X12_208 : zM RX12 208 yJ6_numberOfTrailingZeros_0f7a4 cJ6_numberOfTrailingZeros_0f7a4 2 (some FieldType.int) 1 := ⟨mc_J6_numberOfTrailingZeros_0f7a4, tb7 (j := 54) (by decide +kernel) rfl⟩
theorem ml_X12_211 : zM RX12 211 yX12_waste cX12_waste 5 (some FieldType.int) 2 := ⟨mc_X12_waste, tb7 (j := 58) (by decide +kernel) rfl⟩
theorem ml_X12_215 : zM RX12 215 yX12_dress cX12_dress 7 (none) 3 := ⟨mc_X12_dress, tb7 (j := 50) (by decide +kernel) rfl⟩
theorem mc_X12_dressed : zM0 yX12_dressed cX12_dressed 2 (some FieldType.int) 1 := ⟨tb7 (j := 49) (by decide +kernel) rfl, tb1 (j := 7) (by decide +kernel) rfl, by decide +kernel⟩
theorem in_X12_dressed : Cond.instanceMethod yX12_dressed ∈ zTBL := tb7 (j := 48) (by decide +kernel) rfl
theorem se_X12_dressed : Cond.selects RX12 yX12_dressed yX12_dressed ∈ zTBL := tbp (j := 48) (by decide +kernel) rfl
theorem ml_X12_219 : zM RX12 219 yX12_isCast cX12_isCast 2 (some FieldType.boolean) 0 := ⟨mc_X12_isCast, tb6 (j := 186) (by decide +kernel) rfl⟩
theorem mc_X12_partsWith : zM0 yX12_partsWith cX12_partsWith 4 (some FieldType.int) 1 := ⟨tb6 (j := 229) (by decide +kernel) rfl, tb1 (j := 7) (by decide +kernel) rfl, by decide +kernel⟩
theorem in_X12_partsWith : Cond.instanceMethod yX12_partsWith ∈ zTBL := tb6 (j := 228) (by decide +kernel) rfl
theorem se_X12_partsWith : Cond.selects RX12 yX12_partsWith yX12_partsWith ∈ zTBL := tbp (j := 37) (by decide +kernel) rfl
theorem mc_X12_shares : zM0 yX12_shares cX12_shares 3 (some FieldType.int) 0 := ⟨tb6 (j := 225) (by decide +kernel) rfl, tb1 (j := 7) (by decide +kernel) rfl, by decide +kernel⟩
theorem in_X12_shares : Cond.instanceMethod yX12_shares ∈ zTBL := tb6 (j := 224) (by decide +kernel) rfl
theorem se_X12_shares : Cond.selects RX12 yX12_shares yX12_shares ∈ zTBL := tbp (j := 36) (by decide +kernel) rfl
theorem ml_X12_222 : zM RX12 222 yX12_partsWith cX12_partsWith 4 (some FieldType.int) 1 := ⟨mc_X12_partsWith, tb6 (j := 226) (by decide +kernel) rfl⟩
theorem mc_X12_shareNow : zM0 yX12_shareNow cX12_shareNow 9 (some FieldType.int) 2 := ⟨tb6 (j := 221) (by decide +kernel) rfl, tb1 (j := 7) (by decide +kernel) rfl, by decide +kernel⟩
theorem in_X12_shareNow : Cond.instanceMethod yX12_shareNow ∈ zTBL := tb6 (j := 220) (by decide +kernel) rfl
theorem se_X12_shareNow : Cond.selects RX12 yX12_shareNow yX12_shareNow ∈ zTBL := tbp (j := 35) (by decide +kernel) rfl
theorem ml_X12_225 : zM RX12 225 yX12_shares cX12_shares 3 (some FieldType.int) 0 := ⟨mc_X12_shares, tb6 (j := 222) (by decide +kernel) rfl⟩
theorem mc_X12_night : zM0 yX12_night cX12_night 5 (some FieldType.int) 1 := ⟨tb6 (j := 181) (by decide +kernel) rfl, tb1 (j := 7) (by decide +kernel) rfl, by decide +kernel⟩
theorem in_X12_night : Cond.instanceMethod yX12_night ∈ zTBL := tb6 (j := 179) (by decide +kernel) rfl
theorem se_X12_night : Cond.selects RX12 yX12_night yX12_night ∈ zTBL := tb6 (j := 180) (by decide +kernel) rfl
theorem ml_X12_228 : zM RX12 228 yX12_isTown cX12_isTown 2 (some FieldType.boolean) 1 := ⟨mc_X12_isTown, tb6 (j := 182) (by decide +kernel) rfl⟩
theorem ml_X12_231 : zM RX12 231 yX12_shareNow cX12_shareNow 9 (some FieldType.int) 2 := ⟨mc_X12_shareNow, tb6 (j := 218) (by decide +kernel) rfl⟩
theorem fl_X12_235 : zF RX12 235 16 8 RX12 TX12 20 := ⟨rfl, zi_X12, by decide, rfl, Or.inl (tb5 (j := 102) (by decide +kernel) rfl)⟩
theorem mc_X12_knock : zM0 yX12_knock cX12_knock 1 (some FieldType.int) 0 := ⟨tb6 (j := 233) (by decide +kernel) rfl, tb1 (j := 7) (by decide +kernel) rfl, by decide +kernel⟩
theorem in_X12_knock : Cond.instanceMethod yX12_knock ∈ zTBL := tb6 (j := 231) (by decide +kernel) rfl
theorem se_X12_knock : Cond.selects RX12 yX12_knock yX12_knock ∈ zTBL := tb6 (j := 232) (by decide +kernel) rfl
theorem fl_X12_238 : zF RX12 238 16 9 RX12 TX12 20 := ⟨rfl, zi_X12, by decide, rfl, Or.inl (tb5 (j := 103) (by decide +kernel) rfl)⟩
theorem mc_X12_miles : zM0 yX12_miles cX12_miles 4 (some FieldType.int) 4 := ⟨tb7 (j := 82) (by decide +kernel) rfl, tb1 (j := 7) (by decide +kernel) rfl, by decide +kernel⟩
theorem st_X12_miles : Cond.static yX12_miles ∈ zTBL := tb7 (j := 81) (by decide +kernel) rfl
theorem mc_X12_go : zM0 yX12_go cX12_go 10 (none) 6 := ⟨tb7 (j := 127) (by decide +kernel) rfl, tb1 (j := 7) (by decide +kernel) rfl, by decide +kernel⟩
theorem in_X12_go : Cond.instanceMethod yX12_go ∈ zTBL := tb7 (j := 126) (by decide +kernel) rfl
theorem se_X12_go : Cond.selects RX12 yX12_go yX12_go ∈ zTBL := tbp (j := 59) (by decide +kernel) rfl
theorem ml_X12_241 : zM RX12 241 yX12_miles cX12_miles 4 (some FieldType.int) 4 := ⟨mc_X12_miles, tb7 (j := 80) (by decide +kernel) rfl⟩
theorem fl_X12_245 : zF RX12 245 16 16 RX12 TX12 20 := ⟨rfl, zi_X12, by decide, rfl, Or.inl (tb5 (j := 110) (by decide +kernel) rfl)⟩
theorem fl_X12_248 : zF RX12 248 16 17 RX12 TX12 20 := ⟨rfl, zi_X12, by decide, rfl, Or.inl (tb5 (j := 111) (by decide +kernel) rfl)⟩
theorem fl_X12_251 : zF RX12 251 16 18 RX12 TX12 20 := ⟨rfl, zi_X12, by decide, rfl, Or.inl (tb5 (j := 112) (by decide +kernel) rfl)⟩
theorem ml_X12_254 : zM RX12 254 yX12_go cX12_go 10 (none) 6 := ⟨mc_X12_go, tb7 (j := 124) (by decide +kernel) rfl⟩
theorem mc_X12_tourNow : zM0 yX12_tourNow cX12_tourNow 3 (some FieldType.int) 2 := ⟨tb7 (j := 123) (by decide +kernel) rfl, tb1 (j := 7) (by decide +kernel) rfl, by decide +kernel⟩
theorem in_X12_tourNow : Cond.instanceMethod yX12_tourNow ∈ zTBL := tb7 (j := 122) (by decide +kernel) rfl
theorem se_X12_tourNow : Cond.selects RX12 yX12_tourNow yX12_tourNow ∈ zTBL := tbp (j := 58) (by decide +kernel) rfl
theorem mc_X12_scenesWith : zM0 yX12_scenesWith cX12_scenesWith 4 (some FieldType.int) 1 := ⟨tb7 (j := 9) (by decide +kernel) rfl, tb1 (j := 7) (by decide +kernel) rfl, by decide +kernel⟩
theorem in_X12_scenesWith : Cond.instanceMethod yX12_scenesWith ∈ zTBL := tb7 (j := 8) (by decide +kernel) rfl
theorem se_X12_scenesWith : Cond.selects RX12 yX12_scenesWith yX12_scenesWith ∈ zTBL := tbp (j := 40) (by decide +kernel) rfl
theorem mc_X12_ofPartNow : zM0 yX12_ofPartNow cX12_ofPartNow 4 (some FieldType.int) 2 := ⟨tb7 (j := 5) (by decide +kernel) rfl, tb1 (j := 7) (by decide +kernel) rfl, by decide +kernel⟩
theorem in_X12_ofPartNow : Cond.instanceMethod yX12_ofPartNow ∈ zTBL := tb7 (j := 4) (by decide +kernel) rfl
theorem se_X12_ofPartNow : Cond.selects RX12 yX12_ofPartNow yX12_ofPartNow ∈ zTBL := tbp (j := 39) (by decide +kernel) rfl
theorem ml_X12_258 : zM RX12 258 yX12_scenesWith cX12_scenesWith 4 (some FieldType.int) 1 := ⟨mc_X12_scenesWith, tb7 (j := 6) (by decide +kernel) rfl⟩
theorem mc_X12_ofPart : zM0 yX12_ofPart cX12_ofPart 3 (some FieldType.int) 2 := ⟨tb6 (j := 237) (by decide +kernel) rfl, tb1 (j := 7) (by decide +kernel) rfl, by decide +kernel⟩
theorem in_X12_ofPart : Cond.instanceMethod yX12_ofPart ∈ zTBL := tb6 (j := 235) (by decide +kernel) rfl
theorem se_X12_ofPart : Cond.selects RX12 yX12_ofPart yX12_ofPart ∈ zTBL := tb6 (j := 236) (by decide +kernel) rfl
theorem ml_X12_261 : zM RX12 261 yX12_isPart cX12_isPart 2 (some FieldType.boolean) 1 := ⟨mc_X12_isPart, tb6 (j := 238) (by decide +kernel) rfl⟩
theorem ml_X12_264 : zM RX12 264 yX12_ofPartNow cX12_ofPartNow 4 (some FieldType.int) 2 := ⟨mc_X12_ofPartNow, tb7 (j := 2) (by decide +kernel) rfl⟩
theorem mc_X12_ofPlayerNow : zM0 yX12_ofPlayerNow cX12_ofPlayerNow 4 (some FieldType.int) 2 := ⟨tb7 (j := 21) (by decide +kernel) rfl, tb1 (j := 7) (by decide +kernel) rfl, by decide +kernel⟩
theorem in_X12_ofPlayerNow : Cond.instanceMethod yX12_ofPlayerNow ∈ zTBL := tb7 (j := 20) (by decide +kernel) rfl
theorem se_X12_ofPlayerNow : Cond.selects RX12 yX12_ofPlayerNow yX12_ofPlayerNow ∈ zTBL := tbp (j := 42) (by decide +kernel) rfl
theorem mc_X12_ofPlayer : zM0 yX12_ofPlayer cX12_ofPlayer 3 (some FieldType.int) 2 := ⟨tb7 (j := 17) (by decide +kernel) rfl, tb1 (j := 7) (by decide +kernel) rfl, by decide +kernel⟩
theorem in_X12_ofPlayer : Cond.instanceMethod yX12_ofPlayer ∈ zTBL := tb7 (j := 15) (by decide +kernel) rfl
theorem se_X12_ofPlayer : Cond.selects RX12 yX12_ofPlayer yX12_ofPlayer ∈ zTBL := tb7 (j := 16) (by decide +kernel) rfl
theorem ml_X12_267 : zM RX12 267 yX12_ofPlayerNow cX12_ofPlayerNow 4 (some FieldType.int) 2 := ⟨mc_X12_ofPlayerNow, tb7 (j := 18) (by decide +kernel) rfl⟩
theorem mc_X12_ofSceneNow : zM0 yX12_ofSceneNow cX12_ofSceneNow 4 (some FieldType.int) 2 := ⟨tb7 (j := 29) (by decide +kernel) rfl, tb1 (j := 7) (by decide +kernel) rfl, by decide +kernel⟩
theorem in_X12_ofSceneNow : Cond.instanceMethod yX12_ofSceneNow ∈ zTBL := tb7 (j := 28) (by decide +kernel) rfl
theorem se_X12_ofSceneNow : Cond.selects RX12 yX12_ofSceneNow yX12_ofSceneNow ∈ zTBL := tbp (j := 43) (by decide +kernel) rfl
theorem ml_X12_270 : zM RX12 270 yX12_filled cX12_filled 5 (some FieldType.int) 1 := ⟨mc_X12_filled, tb7 (j := 30) (by decide +kernel) rfl⟩
theorem ml_X12_273 : zM RX12 273 yX12_lack cX12_lack 4 (some FieldType.int) 1 := ⟨mc_X12_lack, tb7 (j := 38) (by decide +kernel) rfl⟩
theorem ml_X12_276 : zM RX12 276 yX12_dressed cX12_dressed 2 (some FieldType.int) 1 := ⟨mc_X12_dressed, tb7 (j := 46) (by decide +kernel) rfl⟩
theorem mc_X12_ofScene : zM0 yX12_ofScene cX12_ofScene 3 (some FieldType.int) 2 := ⟨tb7 (j := 25) (by decide +kernel) rfl, tb1 (j := 7) (by decide +kernel) rfl, by decide +kernel⟩
theorem in_X12_ofScene : Cond.instanceMethod yX12_ofScene ∈ zTBL := tb7 (j := 23) (by decide +kernel) rfl
theorem se_X12_ofScene : Cond.selects RX12 yX12_ofScene yX12_ofScene ∈ zTBL := tb7 (j := 24) (by decide +kernel) rfl
theorem ml_X12_279 : zM RX12 279 yX12_ofSceneNow cX12_ofSceneNow 4 (some FieldType.int) 2 := ⟨mc_X12_ofSceneNow, tb7 (j := 26) (by decide +kernel) rfl⟩
theorem mc_X12_ofCoatNow : zM0 yX12_ofCoatNow cX12_ofCoatNow 4 (some FieldType.int) 2 := ⟨tb7 (j := 71) (by decide +kernel) rfl, tb1 (j := 7) (by decide +kernel) rfl, by decide +kernel⟩
theorem in_X12_ofCoatNow : Cond.instanceMethod yX12_ofCoatNow ∈ zTBL := tb7 (j := 70) (by decide +kernel) rfl
theorem se_X12_ofCoatNow : Cond.selects RX12 yX12_ofCoatNow yX12_ofCoatNow ∈ zTBL := tbp (j := 51) (by decide +kernel) rfl
theorem mc_X12_ofCoat : zM0 yX12_ofCoat cX12_ofCoat 3 (some FieldType.int) 2 := ⟨tb7 (j := 67) (by decide +kernel) rfl, tb1 (j := 7) (by decide +kernel) rfl, by decide +kernel⟩
theorem in_X12_ofCoat : Cond.instanceMethod yX12_ofCoat ∈ zTBL := tb7 (j := 65) (by decide +kernel) rfl
theorem se_X12_ofCoat : Cond.selects RX12 yX12_ofCoat yX12_ofCoat ∈ zTBL := tb7 (j := 66) (by decide +kernel) rfl
theorem ml_X12_282 : zM RX12 282 yX12_ofCoatNow cX12_ofCoatNow 4 (some FieldType.int) 2 := ⟨mc_X12_ofCoatNow, tb7 (j := 68) (by decide +kernel) rfl⟩
theorem mc_X12_ofTownNow : zM0 yX12_ofTownNow cX12_ofTownNow 4 (some FieldType.int) 2 := ⟨tb7 (j := 79) (by decide +kernel) rfl, tb1 (j := 7) (by decide +kernel) rfl, by decide +kernel⟩
theorem in_X12_ofTownNow : Cond.instanceMethod yX12_ofTownNow ∈ zTBL := tb7 (j := 78) (by decide +kernel) rfl
theorem se_X12_ofTownNow : Cond.selects RX12 yX12_ofTownNow yX12_ofTownNow ∈ zTBL := tbp (j := 52) (by decide +kernel) rfl
theorem mc_X12_ofTown : zM0 yX12_ofTown cX12_ofTown 3 (some FieldType.int) 2 := ⟨tb7 (j := 75) (by decide +kernel) rfl, tb1 (j := 7) (by decide +kernel) rfl, by decide +kernel⟩
theorem in_X12_ofTown : Cond.instanceMethod yX12_ofTown ∈ zTBL := tb7 (j := 73) (by decide +kernel) rfl
theorem se_X12_ofTown : Cond.selects RX12 yX12_ofTown yX12_ofTown ∈ zTBL := tb7 (j := 74) (by decide +kernel) rfl
theorem ml_X12_285 : zM RX12 285 yX12_ofTownNow cX12_ofTownNow 4 (some FieldType.int) 2 := ⟨mc_X12_ofTownNow, tb7 (j := 76) (by decide +kernel) rfl⟩
theorem mc_X12_purses : zM0 yX12_purses cX12_purses 4 (some FieldType.int) 0 := ⟨tb7 (j := 102) (by decide +kernel) rfl, tb1 (j := 7) (by decide +kernel) rfl, by decide +kernel⟩
theorem in_X12_purses : Cond.instanceMethod yX12_purses ∈ zTBL := tb7 (j := 101) (by decide +kernel) rfl
theorem se_X12_purses : Cond.selects RX12 yX12_purses yX12_purses ∈ zTBL := tbp (j := 56) (by decide +kernel) rfl
theorem mc_X12_pawned : zM0 yX12_pawned cX12_pawned 4 (some FieldType.int) 0 := ⟨tb7 (j := 94) (by decide +kernel) rfl, tb1 (j := 7) (by decide +kernel) rfl, by decide +kernel⟩
theorem in_X12_pawned : Cond.instanceMethod yX12_pawned ∈ zTBL := tb7 (j := 93) (by decide +kernel) rfl
theorem se_X12_pawned : Cond.selects RX12 yX12_pawned yX12_pawned ∈ zTBL := tbp (j := 54) (by decide +kernel) rfl
theorem mc_X12_houseNow : zM0 yX12_houseNow cX12_houseNow 2 (some FieldType.int) 1 := ⟨tb7 (j := 90) (by decide +kernel) rfl, tb1 (j := 7) (by decide +kernel) rfl, by decide +kernel⟩
theorem in_X12_houseNow : Cond.instanceMethod yX12_houseNow ∈ zTBL := tb7 (j := 89) (by decide +kernel) rfl
theorem se_X12_houseNow : Cond.selects RX12 yX12_houseNow yX12_houseNow ∈ zTBL := tbp (j := 53) (by decide +kernel) rfl
theorem ml_X12_288 : zM RX12 288 yX12_pawned cX12_pawned 4 (some FieldType.int) 0 := ⟨mc_X12_pawned, tb7 (j := 91) (by decide +kernel) rfl⟩
theorem ml_X12_291 : zM RX12 291 yX12_cutScenes cX12_cutScenes 3 (some FieldType.int) 0 := ⟨mc_X12_cutScenes, tb7 (j := 95) (by decide +kernel) rfl⟩
theorem ml_X12_294 : zM RX12 294 yX12_purses cX12_purses 4 (some FieldType.int) 0 := ⟨mc_X12_purses, tb7 (j := 99) (by decide +kernel) rfl⟩
theorem mc_X12_house : zM0 yX12_house cX12_house 2 (some FieldType.int) 1 := ⟨tb7 (j := 86) (by decide +kernel) rfl, tb1 (j := 7) (by decide +kernel) rfl, by decide +kernel⟩
theorem in_X12_house : Cond.instanceMethod yX12_house ∈ zTBL := tb7 (j := 84) (by decide +kernel) rfl
theorem se_X12_house : Cond.selects RX12 yX12_house yX12_house ∈ zTBL := tb7 (j := 85) (by decide +kernel) rfl
theorem ml_X12_297 : zM RX12 297 yX12_houseNow cX12_houseNow 2 (some FieldType.int) 1 := ⟨mc_X12_houseNow, tb7 (j := 87) (by decide +kernel) rfl⟩
theorem mc_X12_castNow : zM0 yX12_castNow cX12_castNow 3 (some (FieldType.object "java/lang/String")) 0 := ⟨tb7 (j := 110) (by decide +kernel) rfl, tb1 (j := 7) (by decide +kernel) rfl, by decide +kernel⟩
theorem in_X12_castNow : Cond.instanceMethod yX12_castNow ∈ zTBL := tb7 (j := 109) (by decide +kernel) rfl
theorem se_X12_castNow : Cond.selects RX12 yX12_castNow yX12_castNow ∈ zTBL := tbp (j := 57) (by decide +kernel) rfl
theorem ml_X12_304 : zM RX12 304 yJ4_init_da8c8 cJ4_init_da8c8 1 (none) 0 := ⟨mc_J4_init_da8c8, tb7 (j := 113) (by decide +kernel) rfl⟩
theorem ml_X12_305 : zM RX12 305 yJ4_append_cf468 cJ4_append_cf468 2 (some (FieldType.object "java/lang/StringBuilder")) 1 := ⟨mc_J4_append_cf468, tb7 (j := 114) (by decide +kernel) rfl⟩
theorem ml_X12_309 : zM RX12 309 yJ4_toString_0e30d cJ4_toString_0e30d 1 (some (FieldType.object "java/lang/String")) 0 := ⟨mc_J4_toString_0e30d, tb7 (j := 115) (by decide +kernel) rfl⟩
theorem mc_X12_cast : zM0 yX12_cast cX12_cast 1 (some (FieldType.object "java/lang/String")) 0 := ⟨tb7 (j := 106) (by decide +kernel) rfl, tb1 (j := 7) (by decide +kernel) rfl, by decide +kernel⟩
theorem in_X12_cast : Cond.instanceMethod yX12_cast ∈ zTBL := tb7 (j := 104) (by decide +kernel) rfl
theorem se_X12_cast : Cond.selects RX12 yX12_cast yX12_cast ∈ zTBL := tb7 (j := 105) (by decide +kernel) rfl
theorem ml_X12_313 : zM RX12 313 yX12_castNow cX12_castNow 3 (some (FieldType.object "java/lang/String")) 0 := ⟨mc_X12_castNow, tb7 (j := 107) (by decide +kernel) rfl⟩
theorem mc_X12_tour : zM0 yX12_tour cX12_tour 3 (some FieldType.int) 2 := ⟨tb7 (j := 119) (by decide +kernel) rfl, tb1 (j := 7) (by decide +kernel) rfl, by decide +kernel⟩
theorem in_X12_tour : Cond.instanceMethod yX12_tour ∈ zTBL := tb7 (j := 117) (by decide +kernel) rfl
theorem se_X12_tour : Cond.selects RX12 yX12_tour yX12_tour ∈ zTBL := tb7 (j := 118) (by decide +kernel) rfl
theorem ml_X12_316 : zM RX12 316 yX12_tourNow cX12_tourNow 3 (some FieldType.int) 2 := ⟨mc_X12_tourNow, tb7 (j := 120) (by decide +kernel) rfl⟩
theorem mc_X12_would : zM0 yX12_would cX12_would 2 (some FieldType.int) 1 := ⟨tb7 (j := 131) (by decide +kernel) rfl, tb1 (j := 7) (by decide +kernel) rfl, by decide +kernel⟩
theorem in_X12_would : Cond.instanceMethod yX12_would ∈ zTBL := tb7 (j := 129) (by decide +kernel) rfl
theorem se_X12_would : Cond.selects RX12 yX12_would yX12_would ∈ zTBL := tb7 (j := 130) (by decide +kernel) rfl
theorem mc_X12_withoutNow : zM0 yX12_withoutNow cX12_withoutNow 4 (some FieldType.int) 1 := ⟨tb7 (j := 139) (by decide +kernel) rfl, tb1 (j := 7) (by decide +kernel) rfl, by decide +kernel⟩
theorem in_X12_withoutNow : Cond.instanceMethod yX12_withoutNow ∈ zTBL := tb7 (j := 138) (by decide +kernel) rfl
theorem se_X12_withoutNow : Cond.selects RX12 yX12_withoutNow yX12_withoutNow ∈ zTBL := tbp (j := 60) (by decide +kernel) rfl
theorem mc_X12_without : zM0 yX12_without cX12_without 2 (some FieldType.int) 1 := ⟨tb7 (j := 135) (by decide +kernel) rfl, tb1 (j := 7) (by decide +kernel) rfl, by decide +kernel⟩
theorem in_X12_without : Cond.instanceMethod yX12_without ∈ zTBL := tb7 (j := 133) (by decide +kernel) rfl
theorem se_X12_without : Cond.selects RX12 yX12_without yX12_without ∈ zTBL := tb7 (j := 134) (by decide +kernel) rfl
theorem ml_X12_319 : zM RX12 319 yX12_withoutNow cX12_withoutNow 4 (some FieldType.int) 1 := ⟨mc_X12_withoutNow, tb7 (j := 136) (by decide +kernel) rfl⟩
theorem mc_X12_shareOf : zM0 yX12_shareOf cX12_shareOf 3 (some FieldType.int) 2 := ⟨tb7 (j := 143) (by decide +kernel) rfl, tb1 (j := 7) (by decide +kernel) rfl, by decide +kernel⟩
theorem in_X12_shareOf : Cond.instanceMethod yX12_shareOf ∈ zTBL := tb7 (j := 141) (by decide +kernel) rfl
theorem se_X12_shareOf : Cond.selects RX12 yX12_shareOf yX12_shareOf ∈ zTBL := tb7 (j := 142) (by decide +kernel) rfl
theorem mc_X12_isSoundNow : zM0 yX12_isSoundNow cX12_isSoundNow 4 (some FieldType.boolean) 0 := ⟨tb7 (j := 151) (by decide +kernel) rfl, tb1 (j := 7) (by decide +kernel) rfl, by decide +kernel⟩
theorem in_X12_isSoundNow : Cond.instanceMethod yX12_isSoundNow ∈ zTBL := tb7 (j := 150) (by decide +kernel) rfl
theorem se_X12_isSoundNow : Cond.selects RX12 yX12_isSoundNow yX12_isSoundNow ∈ zTBL := tbp (j := 61) (by decide +kernel) rfl
theorem mc_X12_isSound : zM0 yX12_isSound cX12_isSound 1 (some FieldType.boolean) 0 := ⟨tb7 (j := 147) (by decide +kernel) rfl, tb1 (j := 7) (by decide +kernel) rfl, by decide +kernel⟩
theorem in_X12_isSound : Cond.instanceMethod yX12_isSound ∈ zTBL := tb7 (j := 145) (by decide +kernel) rfl
theorem se_X12_isSound : Cond.selects RX12 yX12_isSound yX12_isSound ∈ zTBL := tb7 (j := 146) (by decide +kernel) rfl
theorem ml_X12_322 : zM RX12 322 yX12_isSoundNow cX12_isSoundNow 4 (some FieldType.boolean) 0 := ⟨mc_X12_isSoundNow, tb7 (j := 148) (by decide +kernel) rfl⟩
theorem mc_X12_add : zM0 yX12_add cX12_add 3 (none) 1 := ⟨tb7 (j := 160) (by decide +kernel) rfl, tb1 (j := 7) (by decide +kernel) rfl, by decide +kernel⟩
theorem in_X12_add : Cond.instanceMethod yX12_add ∈ zTBL := tb7 (j := 159) (by decide +kernel) rfl
theorem se_X12_add : Cond.selects RX12 yX12_add yX12_add ∈ zTBL := tbp (j := 62) (by decide +kernel) rfl
theorem fl_X12_325 : zF RX12 325 16 19 RX12 TX12 20 := ⟨rfl, zi_X12, by decide, rfl, Or.inl (tb5 (j := 113) (by decide +kernel) rfl)⟩
theorem mc_X12_digest : zM0 yX12_digest cX12_digest 3 (some FieldType.long) 0 := ⟨tb7 (j := 155) (by decide +kernel) rfl, tb1 (j := 7) (by decide +kernel) rfl, by decide +kernel⟩
theorem in_X12_digest : Cond.instanceMethod yX12_digest ∈ zTBL := tb7 (j := 153) (by decide +kernel) rfl
theorem se_X12_digest : Cond.selects RX12 yX12_digest yX12_digest ∈ zTBL := tb7 (j := 154) (by decide +kernel) rfl
theorem ml_X12_333 : zM RX12 333 yX12_add cX12_add 3 (none) 1 := ⟨mc_X12_add, tb7 (j := 157) (by decide +kernel) rfl⟩
theorem ml_X12_336 : zM RX12 336 yJ0_length_8abf5 cJ0_length_8abf5 1 (some FieldType.int) 0 := ⟨mc_J0_length_8abf5, tb7 (j := 162) (by decide +kernel) rfl⟩
theorem fl_X0_9 : zF RX0 9 4 0 RX0 TX0 9 := ⟨rfl, zi_X0, by decide, rfl, Or.inl (tb1 (j := 121) (by decide +kernel) rfl)⟩
theorem fl_X0_15 : zF RX0 15 4 4 RX0 TX0 9 := ⟨rfl, zi_X0, by decide, rfl, Or.inl (tb1 (j := 128) (by decide +kernel) rfl)⟩
theorem fl_X0_18 : zF RX0 18 4 5 RX0 TX0 9 := ⟨rfl, zi_X0, by decide, rfl, Or.inl (tb1 (j := 129) (by decide +kernel) rfl)⟩
theorem fl_X0_21 : zF RX0 21 4 6 RX0 TX0 9 := ⟨rfl, zi_X0, by decide, rfl, Or.inl (tb1 (j := 130) (by decide +kernel) rfl)⟩
theorem fl_X0_24 : zF RX0 24 4 7 RX0 TX0 9 := ⟨rfl, zi_X0, by decide, rfl, Or.inl (tb1 (j := 131) (by decide +kernel) rfl)⟩
theorem fl_X0_27 : zF RX0 27 4 3 RX0 TX0 9 := ⟨rfl, zi_X0, by decide, rfl, Or.inl (tb1 (j := 127) (by decide +kernel) rfl)⟩
theorem ml_X0_31 : zM RX0 31 yX2_allScenes cX2_allScenes 1 (some FieldType.int) 0 := ⟨mc_X2_allScenes, tb2 (j := 17) (by decide +kernel) rfl⟩
theorem ml_X0_37 : zM RX0 37 yX0_fewest cX0_fewest 5 (some FieldType.int) 3 := ⟨mc_X0_fewest, tb2 (j := 21) (by decide +kernel) rfl⟩
theorem fl_X0_41 : zF RX0 41 4 1 RX0 TX0 9 := ⟨rfl, zi_X0, by decide, rfl, Or.inl (tb1 (j := 123) (by decide +kernel) rfl)⟩
theorem mc_X0_keepFirst : zM0 yX0_keepFirst cX0_keepFirst 2 (none) 1 := ⟨tb2 (j := 74) (by decide +kernel) rfl, tb1 (j := 4) (by decide +kernel) rfl, by decide +kernel⟩
theorem in_X0_keepFirst : Cond.instanceMethod yX0_keepFirst ∈ zTBL := tb2 (j := 73) (by decide +kernel) rfl
theorem se_X0_keepFirst : Cond.selects RX0 yX0_keepFirst yX0_keepFirst ∈ zTBL := tbp (j := 5) (by decide +kernel) rfl
theorem ml_X0_45 : zM RX0 45 yX0_keepFirst cX0_keepFirst 2 (none) 1 := ⟨mc_X0_keepFirst, tb2 (j := 71) (by decide +kernel) rfl⟩
theorem mc_X0_fewestCut : zM0 yX0_fewestCut cX0_fewestCut 5 (some FieldType.int) 2 := ⟨tb2 (j := 85) (by decide +kernel) rfl, tb1 (j := 4) (by decide +kernel) rfl, by decide +kernel⟩
theorem in_X0_fewestCut : Cond.instanceMethod yX0_fewestCut ∈ zTBL := tb2 (j := 84) (by decide +kernel) rfl
theorem se_X0_fewestCut : Cond.selects RX0 yX0_fewestCut yX0_fewestCut ∈ zTBL := tbp (j := 7) (by decide +kernel) rfl
theorem ml_X0_49 : zM RX0 49 yX0_fewestCut cX0_fewestCut 5 (some FieldType.int) 2 := ⟨mc_X0_fewestCut, tb2 (j := 82) (by decide +kernel) rfl⟩
theorem fl_X0_53 : zF RX0 53 4 2 RX0 TX0 9 := ⟨rfl, zi_X0, by decide, rfl, Or.inl (tb1 (j := 125) (by decide +kernel) rfl)⟩
theorem mc_X2_partsOf : zM0 yX2_partsOf cX2_partsOf 4 (some FieldType.int) 1 := ⟨tb2 (j := 52) (by decide +kernel) rfl, tb1 (j := 2) (by decide +kernel) rfl, by decide +kernel⟩
theorem in_X2_partsOf : Cond.instanceMethod yX2_partsOf ∈ zTBL := tb2 (j := 50) (by decide +kernel) rfl
theorem se_X2_partsOf : Cond.selects RX2 yX2_partsOf yX2_partsOf ∈ zTBL := tb2 (j := 51) (by decide +kernel) rfl
theorem ml_X0_56 : zM RX0 56 yX2_partsOf cX2_partsOf 4 (some FieldType.int) 1 := ⟨mc_X2_partsOf, tb2 (j := 49) (by decide +kernel) rfl⟩
theorem mc_X0_orderByNumber : zM0 yX0_orderByNumber cX0_orderByNumber 3 (none) 1 := ⟨tb2 (j := 78) (by decide +kernel) rfl, tb1 (j := 4) (by decide +kernel) rfl, by decide +kernel⟩
theorem in_X0_orderByNumber : Cond.instanceMethod yX0_orderByNumber ∈ zTBL := tb2 (j := 77) (by decide +kernel) rfl
theorem se_X0_orderByNumber : Cond.selects RX0 yX0_orderByNumber yX0_orderByNumber ∈ zTBL := tbp (j := 6) (by decide +kernel) rfl
theorem ml_X0_60 : zM RX0 60 yX0_orderByNumber cX0_orderByNumber 3 (none) 1 := ⟨mc_X0_orderByNumber, tb2 (j := 75) (by decide +kernel) rfl⟩
theorem mc_X0_canPlace : zM0 yX0_canPlace cX0_canPlace 3 (some FieldType.boolean) 1 := ⟨tb2 (j := 67) (by decide +kernel) rfl, tb1 (j := 4) (by decide +kernel) rfl, by decide +kernel⟩
theorem in_X0_canPlace : Cond.instanceMethod yX0_canPlace ∈ zTBL := tb2 (j := 66) (by decide +kernel) rfl
theorem se_X0_canPlace : Cond.selects RX0 yX0_canPlace yX0_canPlace ∈ zTBL := tbp (j := 4) (by decide +kernel) rfl
theorem ml_X0_64 : zM RX0 64 yX0_canPlace cX0_canPlace 3 (some FieldType.boolean) 1 := ⟨mc_X0_canPlace, tb2 (j := 64) (by decide +kernel) rfl⟩
theorem fl_X0_74 : zF RX0 74 6 6 RX2 TX2 7 := ⟨rfl, zi_X2, by decide, rfl, Or.inl (tb1 (j := 67) (by decide +kernel) rfl)⟩
theorem ml_X0_77 : zM RX0 77 yJ6_bitCount_0f7a4 cJ6_bitCount_0f7a4 1 (some FieldType.int) 1 := ⟨mc_J6_bitCount_0f7a4, tb2 (j := 58) (by decide +kernel) rfl⟩
theorem mc_X0_prepare : zM0 yX0_prepare cX0_prepare 5 (none) 3 := ⟨tb2 (j := 28) (by decide +kernel) rfl, tb1 (j := 4) (by decide +kernel) rfl, by decide +kernel⟩
theorem in_X0_prepare : Cond.instanceMethod yX0_prepare ∈ zTBL := tb2 (j := 27) (by decide +kernel) rfl
theorem se_X0_prepare : Cond.selects RX0 yX0_prepare yX0_prepare ∈ zTBL := tbp (j := 0) (by decide +kernel) rfl
theorem ml_X0_82 : zM RX0 82 yX0_prepare cX0_prepare 5 (none) 3 := ⟨mc_X0_prepare, tb2 (j := 25) (by decide +kernel) rfl⟩
theorem ml_X0_86 : zMN RX0 86 yX5_has cX5_has 2 (some FieldType.boolean) 2 := ⟨mc_X5_has, "Doublecoat", nb2 (j := 57) (by decide +kernel) rfl⟩
theorem mc_X2_fillClashes : zM0 yX2_fillClashes cX2_fillClashes 5 (none) 2 := ⟨tb2 (j := 32) (by decide +kernel) rfl, tb1 (j := 2) (by decide +kernel) rfl, by decide +kernel⟩
theorem in_X2_fillClashes : Cond.instanceMethod yX2_fillClashes ∈ zTBL := tb2 (j := 30) (by decide +kernel) rfl
theorem se_X2_fillClashes : Cond.selects RX2 yX2_fillClashes yX2_fillClashes ∈ zTBL := tb2 (j := 31) (by decide +kernel) rfl
theorem ml_X0_90 : zM RX0 90 yX2_fillClashes cX2_fillClashes 5 (none) 2 := ⟨mc_X2_fillClashes, tb2 (j := 29) (by decide +kernel) rfl⟩
theorem fl_X0_94 : zF RX0 94 6 5 RX2 TX2 7 := ⟨rfl, zi_X2, by decide, rfl, Or.inl (tb1 (j := 64) (by decide +kernel) rfl)⟩
theorem fl_X0_97 : zF RX0 97 6 0 RX2 TX2 7 := ⟨rfl, zi_X2, by decide, rfl, Or.inl (tb1 (j := 52) (by decide +kernel) rfl)⟩
theorem ml_X0_100 : zM RX0 100 yX1_ableOfAny cX1_ableOfAny 4 (some FieldType.int) 1 := ⟨mc_X1_ableOfAny, tb2 (j := 44) (by decide +kernel) rfl⟩
theorem mc_X0_orderByChoice : zM0 yX0_orderByChoice cX0_orderByChoice 4 (none) 1 := ⟨tb2 (j := 56) (by decide +kernel) rfl, tb1 (j := 4) (by decide +kernel) rfl, by decide +kernel⟩
theorem in_X0_orderByChoice : Cond.instanceMethod yX0_orderByChoice ∈ zTBL := tb2 (j := 55) (by decide +kernel) rfl
theorem se_X0_orderByChoice : Cond.selects RX0 yX0_orderByChoice yX0_orderByChoice ∈ zTBL := tbp (j := 3) (by decide +kernel) rfl
theorem ml_X0_105 : zM RX0 105 yX0_orderByChoice cX0_orderByChoice 4 (none) 1 := ⟨mc_X0_orderByChoice, tb2 (j := 53) (by decide +kernel) rfl⟩
theorem fl_X0_108 : zF RX0 108 4 8 RX0 TX0 9 := ⟨rfl, zi_X0, by decide, rfl, Or.inl (tb1 (j := 132) (by decide +kernel) rfl)⟩
theorem mc_X0_canPlaceFrom : zM0 yX0_canPlaceFrom cX0_canPlaceFrom 6 (some FieldType.boolean) 3 := ⟨tb2 (j := 70) (by decide +kernel) rfl, tb1 (j := 4) (by decide +kernel) rfl, by decide +kernel⟩
theorem st_X0_canPlaceFrom : Cond.static yX0_canPlaceFrom ∈ zTBL := tb2 (j := 69) (by decide +kernel) rfl
theorem ml_X0_111 : zM RX0 111 yX0_canPlaceFrom cX0_canPlaceFrom 6 (some FieldType.boolean) 3 := ⟨mc_X0_canPlaceFrom, tb2 (j := 68) (by decide +kernel) rfl⟩
theorem fl_X1_9 : zF RX1 9 5 0 RX1 TX1 6 := ⟨rfl, zi_X1, by decide, rfl, Or.inl (tb1 (j := 90) (by decide +kernel) rfl)⟩
theorem fl_X1_15 : zF RX1 15 5 1 RX1 TX1 6 := ⟨rfl, zi_X1, by decide, rfl, Or.inl (tb1 (j := 92) (by decide +kernel) rfl)⟩
theorem fl_X1_18 : zF RX1 18 5 2 RX1 TX1 6 := ⟨rfl, zi_X1, by decide, rfl, Or.inl (tb1 (j := 94) (by decide +kernel) rfl)⟩
theorem fl_X1_21 : zF RX1 21 5 3 RX1 TX1 6 := ⟨rfl, zi_X1, by decide, rfl, Or.inl (tb1 (j := 96) (by decide +kernel) rfl)⟩
theorem fl_X1_24 : zF RX1 24 5 4 RX1 TX1 6 := ⟨rfl, zi_X1, by decide, rfl, Or.inl (tb1 (j := 98) (by decide +kernel) rfl)⟩
theorem fl_X1_28 : zF RX1 28 5 5 RX1 TX1 6 := ⟨rfl, zi_X1, by decide, rfl, Or.inl (tb1 (j := 100) (by decide +kernel) rfl)⟩
theorem ml_X1_31 : zM RX1 31 yJ6_bitCount_0f7a4 cJ6_bitCount_0f7a4 1 (some FieldType.int) 1 := ⟨mc_J6_bitCount_0f7a4, tb3 (j := 237) (by decide +kernel) rfl⟩
theorem ml_X1_37 : zMN RX1 37 yX5_has cX5_has 2 (some FieldType.boolean) 2 := ⟨mc_X5_has, "Doublecoat", nb2 (j := 48) (by decide +kernel) rfl⟩
theorem mc_X1_sharesOf : zM0 yX1_sharesOf cX1_sharesOf 4 (some FieldType.int) 1 := ⟨tb4 (j := 50) (by decide +kernel) rfl, tb1 (j := 3) (by decide +kernel) rfl, by decide +kernel⟩
theorem in_X1_sharesOf : Cond.instanceMethod yX1_sharesOf ∈ zTBL := tb4 (j := 49) (by decide +kernel) rfl
theorem se_X1_sharesOf : Cond.selects RX1 yX1_sharesOf yX1_sharesOf ∈ zTBL := tbp (j := 13) (by decide +kernel) rfl
theorem ml_X1_41 : zM RX1 41 yX1_sharesOf cX1_sharesOf 4 (some FieldType.int) 1 := ⟨mc_X1_sharesOf, tb4 (j := 47) (by decide +kernel) rfl⟩
theorem fl_X2_9 : zF RX2 9 6 0 RX2 TX2 7 := ⟨rfl, zi_X2, by decide, rfl, Or.inl (tb1 (j := 51) (by decide +kernel) rfl)⟩
theorem fl_X2_15 : zF RX2 15 6 1 RX2 TX2 7 := ⟨rfl, zi_X2, by decide, rfl, Or.inl (tb1 (j := 54) (by decide +kernel) rfl)⟩
theorem fl_X2_18 : zF RX2 18 6 2 RX2 TX2 7 := ⟨rfl, zi_X2, by decide, rfl, Or.inl (tb1 (j := 56) (by decide +kernel) rfl)⟩
theorem fl_X2_21 : zF RX2 21 6 3 RX2 TX2 7 := ⟨rfl, zi_X2, by decide, rfl, Or.inl (tb1 (j := 58) (by decide +kernel) rfl)⟩
theorem fl_X2_24 : zF RX2 24 6 4 RX2 TX2 7 := ⟨rfl, zi_X2, by decide, rfl, Or.inl (tb1 (j := 60) (by decide +kernel) rfl)⟩
theorem fl_X2_27 : zF RX2 27 6 5 RX2 TX2 7 := ⟨rfl, zi_X2, by decide, rfl, Or.inl (tb1 (j := 62) (by decide +kernel) rfl)⟩
theorem fl_X2_31 : zF RX2 31 6 6 RX2 TX2 7 := ⟨rfl, zi_X2, by decide, rfl, Or.inl (tb1 (j := 65) (by decide +kernel) rfl)⟩
theorem ml_X2_34 : zMN RX2 34 yX5_has cX5_has 2 (some FieldType.boolean) 2 := ⟨mc_X5_has, "Doublecoat", nb2 (j := 33) (by decide +kernel) rfl⟩
theorem mc_X2_clashTogether : zM0 yX2_clashTogether cX2_clashTogether 4 (none) 2 := ⟨tb2 (j := 39) (by decide +kernel) rfl, tb1 (j := 2) (by decide +kernel) rfl, by decide +kernel⟩
theorem in_X2_clashTogether : Cond.instanceMethod yX2_clashTogether ∈ zTBL := tb2 (j := 38) (by decide +kernel) rfl
theorem se_X2_clashTogether : Cond.selects RX2 yX2_clashTogether yX2_clashTogether ∈ zTBL := tbp (j := 1) (by decide +kernel) rfl
theorem ml_X2_38 : zM RX2 38 yX2_clashTogether cX2_clashTogether 4 (none) 2 := ⟨mc_X2_clashTogether, tb2 (j := 36) (by decide +kernel) rfl⟩
theorem mc_X2_clashInTurn : zM0 yX2_clashInTurn cX2_clashInTurn 6 (none) 3 := ⟨tb2 (j := 43) (by decide +kernel) rfl, tb1 (j := 2) (by decide +kernel) rfl, by decide +kernel⟩
theorem in_X2_clashInTurn : Cond.instanceMethod yX2_clashInTurn ∈ zTBL := tb2 (j := 42) (by decide +kernel) rfl
theorem se_X2_clashInTurn : Cond.selects RX2 yX2_clashInTurn yX2_clashInTurn ∈ zTBL := tbp (j := 2) (by decide +kernel) rfl
theorem ml_X2_42 : zM RX2 42 yX2_clashInTurn cX2_clashInTurn 6 (none) 3 := ⟨mc_X2_clashInTurn, tb2 (j := 40) (by decide +kernel) rfl⟩
theorem fl_X3_9 : zF RX3 9 7 0 RX3 TX3 6 := ⟨rfl, zi_X3, by decide, rfl, Or.inl (tb1 (j := 193) (by decide +kernel) rfl)⟩
theorem fl_X3_15 : zF RX3 15 7 1 RX3 TX3 6 := ⟨rfl, zi_X3, by decide, rfl, Or.inl (tb1 (j := 195) (by decide +kernel) rfl)⟩
theorem fl_X3_18 : zF RX3 18 7 2 RX3 TX3 6 := ⟨rfl, zi_X3, by decide, rfl, Or.inl (tb1 (j := 197) (by decide +kernel) rfl)⟩
theorem fl_X3_21 : zF RX3 21 7 3 RX3 TX3 6 := ⟨rfl, zi_X3, by decide, rfl, Or.inl (tb1 (j := 199) (by decide +kernel) rfl)⟩
theorem fl_X3_26 : zF RX3 26 7 5 RX3 TX3 6 := ⟨rfl, zi_X3, by decide, rfl, Or.inl (tb1 (j := 203) (by decide +kernel) rfl)⟩
theorem fl_X3_29 : zF RX3 29 7 4 RX3 TX3 6 := ⟨rfl, zi_X3, by decide, rfl, Or.inl (tb1 (j := 201) (by decide +kernel) rfl)⟩
theorem mc_X3_measure : zM0 yX3_measure cX3_measure 4 (none) 1 := ⟨tb5 (j := 1) (by decide +kernel) rfl, tb1 (j := 6) (by decide +kernel) rfl, by decide +kernel⟩
theorem in_X3_measure : Cond.instanceMethod yX3_measure ∈ zTBL := tb5 (j := 0) (by decide +kernel) rfl
theorem se_X3_measure : Cond.selects RX3 yX3_measure yX3_measure ∈ zTBL := tbp (j := 17) (by decide +kernel) rfl
theorem ml_X3_33 : zM RX3 33 yX3_measure cX3_measure 4 (none) 1 := ⟨mc_X3_measure, tb4 (j := 238) (by decide +kernel) rfl⟩
theorem ml_X3_37 : zMN RX3 37 yX5_has cX5_has 2 (some FieldType.boolean) 2 := ⟨mc_X5_has, "Doublecoat", nb4 (j := 108) (by decide +kernel) rfl⟩
theorem mc_X3_milesOut : zM0 yX3_milesOut cX3_milesOut 6 (some FieldType.int) 2 := ⟨tb5 (j := 5) (by decide +kernel) rfl, tb1 (j := 6) (by decide +kernel) rfl, by decide +kernel⟩
theorem in_X3_milesOut : Cond.instanceMethod yX3_milesOut ∈ zTBL := tb5 (j := 4) (by decide +kernel) rfl
theorem se_X3_milesOut : Cond.selects RX3 yX3_milesOut yX3_milesOut ∈ zTBL := tbp (j := 18) (by decide +kernel) rfl
theorem ml_X3_41 : zM RX3 41 yX3_milesOut cX3_milesOut 6 (some FieldType.int) 2 := ⟨mc_X3_milesOut, tb5 (j := 2) (by decide +kernel) rfl⟩
theorem ml_X3_45 : zM RX3 45 yX3_milesHome cX3_milesHome 2 (some FieldType.int) 1 := ⟨mc_X3_milesHome, tb5 (j := 6) (by decide +kernel) rfl⟩
theorem ml_X3_49 : zM RX3 49 yJ9_abs_0f7a4 cJ9_abs_0f7a4 1 (some FieldType.int) 1 := ⟨mc_J9_abs_0f7a4, tb5 (j := 7) (by decide +kernel) rfl⟩
theorem ml_X3_54 : zM RX3 54 yX3_takingsOf cX3_takingsOf 4 (some FieldType.int) 1 := ⟨mc_X3_takingsOf, tb4 (j := 104) (by decide +kernel) rfl⟩
theorem fl_X4_9 : zF RX4 9 8 0 RX4 TX4 7 := ⟨rfl, zi_X4, by decide, rfl, Or.inl (tb1 (j := 158) (by decide +kernel) rfl)⟩
theorem fl_X4_15 : zF RX4 15 8 1 RX4 TX4 7 := ⟨rfl, zi_X4, by decide, rfl, Or.inl (tb1 (j := 160) (by decide +kernel) rfl)⟩
theorem fl_X4_18 : zF RX4 18 8 2 RX4 TX4 7 := ⟨rfl, zi_X4, by decide, rfl, Or.inl (tb1 (j := 162) (by decide +kernel) rfl)⟩
theorem fl_X4_21 : zF RX4 21 8 5 RX4 TX4 7 := ⟨rfl, zi_X4, by decide, rfl, Or.inl (tb1 (j := 168) (by decide +kernel) rfl)⟩
theorem fl_X4_24 : zF RX4 24 8 3 RX4 TX4 7 := ⟨rfl, zi_X4, by decide, rfl, Or.inl (tb1 (j := 164) (by decide +kernel) rfl)⟩
theorem fl_X4_28 : zF RX4 28 8 6 RX4 TX4 7 := ⟨rfl, zi_X4, by decide, rfl, Or.inl (tb1 (j := 169) (by decide +kernel) rfl)⟩
theorem ml_X4_31 : zM RX4 31 yJ6_bitCount_0f7a4 cJ6_bitCount_0f7a4 1 (some FieldType.int) 1 := ⟨mc_J6_bitCount_0f7a4, tb4 (j := 67) (by decide +kernel) rfl⟩
theorem mc_X4_wasteOf : zM0 yX4_wasteOf cX4_wasteOf 5 (some FieldType.int) 3 := ⟨tb4 (j := 71) (by decide +kernel) rfl, tb1 (j := 5) (by decide +kernel) rfl, by decide +kernel⟩
theorem in_X4_wasteOf : Cond.instanceMethod yX4_wasteOf ∈ zTBL := tb4 (j := 70) (by decide +kernel) rfl
theorem se_X4_wasteOf : Cond.selects RX4 yX4_wasteOf yX4_wasteOf ∈ zTBL := tbp (j := 15) (by decide +kernel) rfl
theorem ml_X4_37 : zM RX4 37 yX4_wasteOf cX4_wasteOf 5 (some FieldType.int) 3 := ⟨mc_X4_wasteOf, tb4 (j := 68) (by decide +kernel) rfl⟩
theorem ml_X4_41 : zMN RX4 41 yX5_has cX5_has 2 (some FieldType.boolean) 2 := ⟨mc_X5_has, "Doublecoat", nb4 (j := 75) (by decide +kernel) rfl⟩
theorem mc_X4_keepLess : zM0 yX4_keepLess cX4_keepLess 3 (none) 2 := ⟨tb4 (j := 79) (by decide +kernel) rfl, tb1 (j := 5) (by decide +kernel) rfl, by decide +kernel⟩
theorem in_X4_keepLess : Cond.instanceMethod yX4_keepLess ∈ zTBL := tb4 (j := 78) (by decide +kernel) rfl
theorem se_X4_keepLess : Cond.selects RX4 yX4_keepLess yX4_keepLess ∈ zTBL := tbp (j := 16) (by decide +kernel) rfl
theorem ml_X4_45 : zM RX4 45 yX4_keepLess cX4_keepLess 3 (none) 2 := ⟨mc_X4_keepLess, tb4 (j := 76) (by decide +kernel) rfl⟩
theorem ml_X4_49 : zM RX4 49 yJ9_abs_0f7a4 cJ9_abs_0f7a4 1 (some FieldType.int) 1 := ⟨mc_J9_abs_0f7a4, tb4 (j := 72) (by decide +kernel) rfl⟩
theorem fl_X4_54 : zF RX4 54 8 4 RX4 TX4 7 := ⟨rfl, zi_X4, by decide, rfl, Or.inl (tb1 (j := 166) (by decide +kernel) rfl)⟩
theorem ml_L_7 : zM RL 7 yX5_part cX5_part 4 (some FieldType.int) 3 := ⟨mc_X5_part, tb4 (j := 128) (by decide +kernel) rfl⟩
theorem fl_L_13 : zF RL 13 10 0 RX6 TX6 1 := ⟨rfl, zi_X6, by decide, rfl, Or.inr ⟨"DoublecoatLaw", nb4 (j := 119) (by decide +kernel) rfl⟩⟩
theorem ml_L_23 : zM RL 23 yX5_player cX5_player 4 (some FieldType.int) 3 := ⟨mc_X5_player, tb4 (j := 162) (by decide +kernel) rfl⟩
theorem ml_L_26 : zM RL 26 yX5_scene cX5_scene 3 (some FieldType.int) 2 := ⟨mc_X5_scene, tb4 (j := 177) (by decide +kernel) rfl⟩
theorem ml_L_30 : zM RL 30 yX5_pause cX5_pause 4 (some FieldType.int) 2 := ⟨mc_X5_pause, tb4 (j := 189) (by decide +kernel) rfl⟩
theorem ml_L_35 : zM RL 35 yX5_sick cX5_sick 3 (some FieldType.int) 2 := ⟨mc_X5_sick, tb4 (j := 196) (by decide +kernel) rfl⟩
theorem ml_L_39 : zM RL 39 yX5_coat cX5_coat 4 (some FieldType.int) 3 := ⟨mc_X5_coat, tb4 (j := 203) (by decide +kernel) rfl⟩
theorem ml_L_42 : zM RL 42 yX5_pawn cX5_pawn 3 (some FieldType.int) 2 := ⟨mc_X5_pawn, tb4 (j := 214) (by decide +kernel) rfl⟩
theorem ml_L_45 : zM RL 45 yX5_redeem cX5_redeem 4 (some FieldType.int) 2 := ⟨mc_X5_redeem, tb4 (j := 222) (by decide +kernel) rfl⟩
theorem ml_L_48 : zM RL 48 yX5_town cX5_town 4 (some FieldType.int) 3 := ⟨mc_X5_town, tb4 (j := 230) (by decide +kernel) rfl⟩
theorem ml_L_51 : zM RL 51 yX5_night cX5_night 5 (some FieldType.int) 1 := ⟨mc_X5_night, tb5 (j := 11) (by decide +kernel) rfl⟩
theorem ml_L_55 : zM RL 55 yX5_ofPart cX5_ofPart 3 (some FieldType.int) 2 := ⟨mc_X5_ofPart, tb5 (j := 19) (by decide +kernel) rfl⟩
theorem ml_L_58 : zM RL 58 yX5_ofPlayer cX5_ofPlayer 3 (some FieldType.int) 2 := ⟨mc_X5_ofPlayer, tb5 (j := 23) (by decide +kernel) rfl⟩
theorem ml_L_61 : zM RL 61 yX5_ofScene cX5_ofScene 4 (some FieldType.int) 2 := ⟨mc_X5_ofScene, tb5 (j := 27) (by decide +kernel) rfl⟩
theorem ml_L_64 : zM RL 64 yX5_ofCoat cX5_ofCoat 3 (some FieldType.int) 2 := ⟨mc_X5_ofCoat, tb5 (j := 31) (by decide +kernel) rfl⟩
theorem ml_L_67 : zM RL 67 yX5_ofTown cX5_ofTown 3 (some FieldType.int) 2 := ⟨mc_X5_ofTown, tb5 (j := 35) (by decide +kernel) rfl⟩
theorem ml_L_70 : zM RL 70 yX5_house cX5_house 2 (some FieldType.int) 1 := ⟨mc_X5_house, tb5 (j := 39) (by decide +kernel) rfl⟩
theorem ml_L_73 : zM RL 73 yX5_tour cX5_tour 4 (some FieldType.int) 2 := ⟨mc_X5_tour, tb5 (j := 43) (by decide +kernel) rfl⟩
theorem ml_L_76 : zM RL 76 yX5_would cX5_would 2 (some FieldType.int) 1 := ⟨mc_X5_would, tb5 (j := 47) (by decide +kernel) rfl⟩
theorem ml_L_79 : zM RL 79 yX5_without cX5_without 4 (some FieldType.int) 1 := ⟨mc_X5_without, tb5 (j := 54) (by decide +kernel) rfl⟩
theorem ml_L_82 : zM RL 82 yX5_shareOf cX5_shareOf 3 (some FieldType.int) 2 := ⟨mc_X5_shareOf, tb5 (j := 58) (by decide +kernel) rfl⟩
theorem ml_L_85 : zM RL 85 yX5_init cX5_init 1 (none) 0 := ⟨mc_X5_init, tb1 (j := 39) (by decide +kernel) rfl⟩
theorem ml_L_88 : zM RL 88 yX12_init cX12_init 1 (none) 0 := ⟨mc_X12_init, tb5 (j := 61) (by decide +kernel) rfl⟩
theorem mc_X6_init : zM0 yX6_init cX6_init 1 (none) 0 := ⟨tb4 (j := 117) (by decide +kernel) rfl, tb1 (j := 11) (by decide +kernel) rfl, by decide +kernel⟩
theorem in_X6_init : Cond.instanceMethod yX6_init ∈ zTBL := tb4 (j := 116) (by decide +kernel) rfl
theorem ml_L_89 : zMN RL 89 yX6_init cX6_init 1 (none) 0 := ⟨mc_X6_init, "DoublecoatLaw", nb4 (j := 115) (by decide +kernel) rfl⟩
theorem ml_L_95 : zM RL 95 yX12_part cX12_part 5 (some FieldType.int) 3 := ⟨mc_X12_part, tb5 (j := 159) (by decide +kernel) rfl⟩
theorem ml_L_98 : zM RL 98 yX12_player cX12_player 5 (some FieldType.int) 3 := ⟨mc_X12_player, tb6 (j := 2) (by decide +kernel) rfl⟩
theorem ml_L_102 : zM RL 102 yX12_scene cX12_scene 4 (some FieldType.int) 2 := ⟨mc_X12_scene, tb6 (j := 28) (by decide +kernel) rfl⟩
theorem ml_L_105 : zM RL 105 yX12_pause cX12_pause 4 (some FieldType.int) 2 := ⟨mc_X12_pause, tb6 (j := 45) (by decide +kernel) rfl⟩
theorem ml_L_109 : zM RL 109 yX12_sick cX12_sick 3 (some FieldType.int) 2 := ⟨mc_X12_sick, tb6 (j := 65) (by decide +kernel) rfl⟩
theorem ml_L_110 : zM RL 110 yX12_thrown cX12_thrown 1 (some FieldType.int) 0 := ⟨mc_X12_thrown, tb5 (j := 155) (by decide +kernel) rfl⟩
theorem ml_L_116 : zM RL 116 yX12_coat cX12_coat 5 (some FieldType.int) 3 := ⟨mc_X12_coat, tb6 (j := 123) (by decide +kernel) rfl⟩
theorem ml_L_119 : zM RL 119 yX12_pawn cX12_pawn 4 (some FieldType.int) 2 := ⟨mc_X12_pawn, tb6 (j := 146) (by decide +kernel) rfl⟩
theorem ml_L_122 : zM RL 122 yX12_redeem cX12_redeem 5 (some FieldType.int) 2 := ⟨mc_X12_redeem, tb6 (j := 154) (by decide +kernel) rfl⟩
theorem ml_L_125 : zM RL 125 yX12_town cX12_town 5 (some FieldType.int) 3 := ⟨mc_X12_town, tb6 (j := 158) (by decide +kernel) rfl⟩
theorem ml_L_129 : zM RL 129 yX12_night cX12_night 5 (some FieldType.int) 1 := ⟨mc_X12_night, tb6 (j := 178) (by decide +kernel) rfl⟩
theorem ml_L_130 : zM RL 130 yX5_knock cX5_knock 1 (some FieldType.int) 0 := ⟨mc_X5_knock, tb2 (j := 5) (by decide +kernel) rfl⟩
theorem ml_L_133 : zM RL 133 yX12_knock cX12_knock 1 (some FieldType.int) 0 := ⟨mc_X12_knock, tb6 (j := 230) (by decide +kernel) rfl⟩
theorem ml_L_136 : zM RL 136 yX12_ofPart cX12_ofPart 3 (some FieldType.int) 2 := ⟨mc_X12_ofPart, tb6 (j := 234) (by decide +kernel) rfl⟩
theorem ml_L_139 : zM RL 139 yX12_ofPlayer cX12_ofPlayer 3 (some FieldType.int) 2 := ⟨mc_X12_ofPlayer, tb7 (j := 14) (by decide +kernel) rfl⟩
theorem ml_L_142 : zM RL 142 yX12_ofScene cX12_ofScene 3 (some FieldType.int) 2 := ⟨mc_X12_ofScene, tb7 (j := 22) (by decide +kernel) rfl⟩
theorem ml_L_145 : zM RL 145 yX12_ofCoat cX12_ofCoat 3 (some FieldType.int) 2 := ⟨mc_X12_ofCoat, tb7 (j := 64) (by decide +kernel) rfl⟩
theorem ml_L_148 : zM RL 148 yX12_ofTown cX12_ofTown 3 (some FieldType.int) 2 := ⟨mc_X12_ofTown, tb7 (j := 72) (by decide +kernel) rfl⟩
theorem ml_L_151 : zM RL 151 yX12_house cX12_house 2 (some FieldType.int) 1 := ⟨mc_X12_house, tb7 (j := 83) (by decide +kernel) rfl⟩
theorem ml_L_152 : zM RL 152 yX5_cast cX5_cast 4 (some (FieldType.object "java/lang/String")) 0 := ⟨mc_X5_cast, tb2 (j := 9) (by decide +kernel) rfl⟩
theorem ml_L_156 : zM RL 156 yX12_cast cX12_cast 1 (some (FieldType.object "java/lang/String")) 0 := ⟨mc_X12_cast, tb7 (j := 103) (by decide +kernel) rfl⟩
theorem ml_L_159 : zM RL 159 yX12_tour cX12_tour 3 (some FieldType.int) 2 := ⟨mc_X12_tour, tb7 (j := 116) (by decide +kernel) rfl⟩
theorem ml_L_162 : zM RL 162 yX12_would cX12_would 2 (some FieldType.int) 1 := ⟨mc_X12_would, tb7 (j := 128) (by decide +kernel) rfl⟩
theorem ml_L_165 : zM RL 165 yX12_without cX12_without 2 (some FieldType.int) 1 := ⟨mc_X12_without, tb7 (j := 132) (by decide +kernel) rfl⟩
theorem ml_L_168 : zM RL 168 yX12_shareOf cX12_shareOf 3 (some FieldType.int) 2 := ⟨mc_X12_shareOf, tb7 (j := 140) (by decide +kernel) rfl⟩
theorem ml_L_169 : zM RL 169 yX5_isSound cX5_isSound 3 (some FieldType.boolean) 0 := ⟨mc_X5_isSound, tb3 (j := 178) (by decide +kernel) rfl⟩
theorem ml_L_173 : zM RL 173 yX12_isSound cX12_isSound 1 (some FieldType.boolean) 0 := ⟨mc_X12_isSound, tb7 (j := 144) (by decide +kernel) rfl⟩
theorem ml_L_174 : zM RL 174 yX5_digest cX5_digest 5 (some FieldType.long) 0 := ⟨mc_X5_digest, tb3 (j := 217) (by decide +kernel) rfl⟩
theorem ml_L_178 : zM RL 178 yX12_digest cX12_digest 3 (some FieldType.long) 0 := ⟨mc_X12_digest, tb7 (j := 152) (by decide +kernel) rfl⟩
