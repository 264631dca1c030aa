set_option maxRecDepth 100000 in
set_option maxHeartbeats 4000000 in
theorem k_X5_needWithin {g : zG} {σ : zS} (hG : g.1.stackTraces = false) (a1 : Int32) (lo hi : Nat) (hl : lo < 2 ^ 31) (hh : hi < 2 ^ 31) : Ct g 10 yX5_needWithin cX5_needWithin 3 none 1 6 [.int (a1), .int (nI (lo)), .int (nI (hi))] σ (fun v σ' => (v = none ∧ zin lo hi a1) ∧ σ' = σ) (zX1 (zin lo hi a1) RIAE σ) := by
  refine Ct.of (lv := [(0, .int (a1)), (1, .int (nI (lo))), (2, .int (nI (hi)))]) (by decide) (Nat.le_of_ble_eq_true rfl) rfl ?_
  intro κ X E B _
  have X : zX g κ RX5 cX5_needWithin 3 := X
  refine V_iload_n X dX5_needWithin_0 0 rfl ?_
  refine V_iload_n X dX5_needWithin_1 1 rfl ?_
  refine V_icmplt X (tgt := 10) dX5_needWithin_2 (by decide) (fun h1 => ?_) (fun h1 => ?_)
  · -- 2 true
    exact V_throwSW X E hG (text := "out of its range") (names := zSup) (by decide +kernel) zSup_fit tw_IAE to_IAE (zStrOf X ("Doublecoat", 309, "out of its range") (by decide)) dX5_needWithin_10 dX5_needWithin_13 dX5_needWithin_14 dX5_needWithin_17 dX5_needWithin_20 (Nat.le_of_ble_eq_true rfl) (Nat.le_of_ble_eq_true rfl) (Nat.le_of_ble_eq_true rfl) (Nat.le_refl _) (Nat.le_refl _) (fun z => ⟨rfl, by first | exact zin_lo (by assumption) hl hh | exact zin_hi (by assumption) hh, rfl⟩)
  · -- 2 false
    refine V_iload_n X dX5_needWithin_5 0 rfl ?_
    refine V_iload_n X dX5_needWithin_6 2 rfl ?_
    refine V_icmple X (tgt := 21) dX5_needWithin_7 (by decide) (fun h2 => ?_) (fun h2 => ?_)
    · -- 7 true
      exact V_vret X E (Nat.zero_le _) (Nat.zero_le _) ⟨⟨rfl, zin_of (by assumption) (by assumption) hl hh⟩, rfl⟩ dX5_needWithin_21
    · -- 7 false
      exact V_throwSW X E hG (text := "out of its range") (names := zSup) (by decide +kernel) zSup_fit tw_IAE to_IAE (zStrOf X ("Doublecoat", 309, "out of its range") (by decide)) dX5_needWithin_10 dX5_needWithin_13 dX5_needWithin_14 dX5_needWithin_17 dX5_needWithin_20 (Nat.le_of_ble_eq_true rfl) (Nat.le_of_ble_eq_true rfl) (Nat.le_of_ble_eq_true rfl) (Nat.le_refl _) (Nat.le_refl _) (fun z => ⟨rfl, by first | exact zin_lo (by assumption) hl hh | exact zin_hi (by assumption) hh, rfl⟩)
set_option maxRecDepth 100000 in
set_option maxHeartbeats 4000000 in
theorem k_X5_needSet {g : zG} {σ : zS} (hG : g.1.stackTraces = false) (a1 : Int32) (k9 : Nat) (hk : k9 ≤ 7) : Ct g 10 yX5_needSet cX5_needSet 2 none 1 6 [.int (a1), .int (nI (k9))] σ (fun v σ' => (v = none ∧ zlt (2 ^ k9) a1) ∧ σ' = σ) (zX1 (zlt (2 ^ k9) a1) RIAE σ) := by
  refine Ct.of (lv := [(0, .int (a1)), (1, .int (nI (k9)))]) (by decide) (Nat.le_of_ble_eq_true rfl) rfl ?_
  intro κ X E B _
  have X : zX g κ RX5 cX5_needSet 2 := X
  refine V_iload_n X dX5_needSet_0 0 rfl ?_
  refine V_iflt X (tgt := 11) dX5_needSet_1 (by decide) (fun h1 => ?_) (fun h1 => ?_)
  · -- 1 true
    exact V_throwSW X E hG (text := "not a set of what there is") (names := zSup) (by decide +kernel) zSup_fit tw_IAE to_IAE (zStrOf X ("Doublecoat", 312, "not a set of what there is") (by decide)) dX5_needSet_11 dX5_needSet_14 dX5_needSet_15 dX5_needSet_18 dX5_needSet_21 (Nat.le_of_ble_eq_true rfl) (Nat.le_of_ble_eq_true rfl) (Nat.le_of_ble_eq_true rfl) (Nat.le_refl _) (Nat.le_refl _) (fun z => ⟨rfl, by first | exact zlt_lo (by assumption) (Nat.lt_of_le_of_lt (zp2 (n := 7) hk) (by decide)) | exact zlt_hi (by assumption) (Nat.lt_of_le_of_lt (zp2 (n := 7) hk) (by decide)), rfl⟩)
  · -- 1 false
    refine V_iload_n X dX5_needSet_4 0 rfl ?_
    refine V_iconst (v := nI 1) X dX5_needSet_5 (by decide) ?_
    refine V_iload_n X dX5_needSet_6 1 rfl ?_
    refine V_ishl1 X (by omega) dX5_needSet_7 ?_
    refine V_icmplt X (tgt := 22) dX5_needSet_8 (by decide) (fun h2 => ?_) (fun h2 => ?_)
    · -- 8 true
      exact V_vret X E (Nat.zero_le _) (Nat.zero_le _) ⟨⟨rfl, zlt_of (by assumption) (by assumption) (Nat.lt_of_le_of_lt (zp2 (n := 7) hk) (by decide))⟩, rfl⟩ dX5_needSet_22
    · -- 8 false
      exact V_throwSW X E hG (text := "not a set of what there is") (names := zSup) (by decide +kernel) zSup_fit tw_IAE to_IAE (zStrOf X ("Doublecoat", 312, "not a set of what there is") (by decide)) dX5_needSet_11 dX5_needSet_14 dX5_needSet_15 dX5_needSet_18 dX5_needSet_21 (Nat.le_of_ble_eq_true rfl) (Nat.le_of_ble_eq_true rfl) (Nat.le_of_ble_eq_true rfl) (Nat.le_refl _) (Nat.le_refl _) (fun z => ⟨rfl, by first | exact zlt_lo (by assumption) (Nat.lt_of_le_of_lt (zp2 (n := 7) hk) (by decide)) | exact zlt_hi (by assumption) (Nat.lt_of_le_of_lt (zp2 (n := 7) hk) (by decide)), rfl⟩)
set_option maxRecDepth 100000 in
set_option maxHeartbeats 4000000 in
theorem k_X5_needIndex {g : zG} {σ : zS} (hG : g.1.stackTraces = false) (a1 : Int32) (n9 : Nat) (hk : n9 < 2 ^ 31) : Ct g 10 yX5_needIndex cX5_needIndex 2 none 1 6 [.int (a1), .int (nI (n9))] σ (fun v σ' => (v = none ∧ zlt n9 a1) ∧ σ' = σ) (zX1 (zlt n9 a1) RIOB σ) := by
  refine Ct.of (lv := [(0, .int (a1)), (1, .int (nI (n9)))]) (by decide) (Nat.le_of_ble_eq_true rfl) rfl ?_
  intro κ X E B _
  have X : zX g κ RX5 cX5_needIndex 2 := X
  refine V_iload_n X dX5_needIndex_0 0 rfl ?_
  refine V_iflt X (tgt := 9) dX5_needIndex_1 (by decide) (fun h1 => ?_) (fun h1 => ?_)
  · -- 1 true
    exact V_throwSW X E hG (text := "there is no such number") (names := zSup) (by decide +kernel) zSup_fit tw_IOB to_IOB (zStrOf X ("Doublecoat", 316, "there is no such number") (by decide)) dX5_needIndex_9 dX5_needIndex_12 dX5_needIndex_13 dX5_needIndex_16 dX5_needIndex_19 (Nat.le_of_ble_eq_true rfl) (Nat.le_of_ble_eq_true rfl) (Nat.le_of_ble_eq_true rfl) (Nat.le_refl _) (Nat.le_refl _) (fun z => ⟨rfl, by first | exact zlt_lo (by assumption) hk | exact zlt_hi (by assumption) hk, rfl⟩)
  · -- 1 false
    refine V_iload_n X dX5_needIndex_4 0 rfl ?_
    refine V_iload_n X dX5_needIndex_5 1 rfl ?_
    refine V_icmplt X (tgt := 20) dX5_needIndex_6 (by decide) (fun h2 => ?_) (fun h2 => ?_)
    · -- 6 true
      exact V_vret X E (Nat.zero_le _) (Nat.zero_le _) ⟨⟨rfl, zlt_of (by assumption) (by assumption) hk⟩, rfl⟩ dX5_needIndex_20
    · -- 6 false
      exact V_throwSW X E hG (text := "there is no such number") (names := zSup) (by decide +kernel) zSup_fit tw_IOB to_IOB (zStrOf X ("Doublecoat", 316, "there is no such number") (by decide)) dX5_needIndex_9 dX5_needIndex_12 dX5_needIndex_13 dX5_needIndex_16 dX5_needIndex_19 (Nat.le_of_ble_eq_true rfl) (Nat.le_of_ble_eq_true rfl) (Nat.le_of_ble_eq_true rfl) (Nat.le_refl _) (Nat.le_refl _) (fun z => ⟨rfl, by first | exact zlt_lo (by assumption) hk | exact zlt_hi (by assumption) hk, rfl⟩)
set_option maxRecDepth 100000 in
set_option maxHeartbeats 4000000 in
theorem k_X5_needRoom {g : zG} {σ : zS} (hG : g.1.stackTraces = false) (n9 m9 : Nat) (hn : n9 < 2 ^ 31) (hm : m9 < 2 ^ 31) : Ct g 10 yX5_needRoom cX5_needRoom 2 none 1 6 [.int (nI (n9)), .int (nI (m9))] σ (fun v σ' => (v = none ∧ n9 < m9) ∧ σ' = σ) (zX1 (n9 < m9) RISE σ) := by
  refine Ct.of (lv := [(0, .int (nI (n9))), (1, .int (nI (m9)))]) (by decide) (Nat.le_of_ble_eq_true rfl) rfl ?_
  intro κ X E B _
  have X : zX g κ RX5 cX5_needRoom 2 := X
  refine V_iload_n X dX5_needRoom_0 0 rfl ?_
  refine V_iload_n X dX5_needRoom_1 1 rfl ?_
  refine V_icmpltN X (by omega) (by omega) (tgt := 16) dX5_needRoom_2 (by decide) (fun h1 => ?_) (fun h1 => ?_)
  · -- 2 true
    exact V_vret X E (Nat.zero_le _) (Nat.zero_le _) ⟨⟨rfl, by assumption⟩, rfl⟩ dX5_needRoom_16
  · -- 2 false
    exact V_throwSW X E hG (text := "there are no more") (names := zSup) (by decide +kernel) zSup_fit tw_ISE to_ISE (zStrOf X ("Doublecoat", 319, "there are no more") (by decide)) dX5_needRoom_5 dX5_needRoom_8 dX5_needRoom_9 dX5_needRoom_12 dX5_needRoom_15 (Nat.le_of_ble_eq_true rfl) (Nat.le_of_ble_eq_true rfl) (Nat.le_of_ble_eq_true rfl) (Nat.le_refl _) (Nat.le_refl _) (fun z => ⟨rfl, by omega, rfl⟩)
set_option maxRecDepth 100000 in
set_option maxHeartbeats 4000000 in
theorem k_X5_part {g : zG} {t : Nat × Nat} {X0 : Nat} {σ0 : Nat → Option va_E} {F : Nat → Nat → Int32} (hX : g.2.1.size ≤ X0) {nP nS nA nC nT : Nat} (hI : cI nP nS nA nC nT F) (hG : g.1.stackTraces = false)  (a1 : Int32) (a2 : Int32) (a3 : Int32) (hB : cBd nP nS nA F) (hC : cK F) : Ct g 11 yX5_part cX5_part 4 (some FieldType.int) 1 6 [.ref (X0 + 0), .int (a1), .int (a2), .int (a3)] (t, cW g X0 F σ0) (fun v σ' => v = some (.int (nI nP)) ∧ (zin 0 3 a1 ∧ zin 0 3 a2 ∧ zin 0 9 a3) ∧ nP < 7 ∧ ∃ F' : Nat → Nat → Int32, σ' = (t, cW g X0 F' σ0) ∧ cI (nP + 1) nS nA nC nT F' ∧ cM (fset (fset (fset (fset ((fset F 12 3 (nI 0))) 2 nP a1) 3 nP a2) 4 nP a3) 1 5 (nI (nP + 1))) F') (zXP [(zin 0 3 a1, RIAE), (zin 0 3 a2, RIAE), (zin 0 9 a3, RIAE), (nP < 7, RISE)] zF0 g X0 F σ0) := by
  refine Ct.of (lv := [(0, .ref (X0 + 0)), (1, .int (a1)), (2, .int (a2)), (3, .int (a3))]) (by decide) (Nat.le_of_ble_eq_true rfl) rfl ?_
  intro κ X E B _
  have X : zX g κ RX5 cX5_part 4 := X
  obtain ⟨b1, b2, b3, b4, b5⟩ := hI.bnd
  refine V_iload_n X dX5_part_0 1 rfl ?_
  refine V_iconst (v := nI 0) X dX5_part_1 (by decide) ?_
  refine V_iconst (v := nI 3) X dX5_part_2 (by decide) ?_
  refine V_callS (rest := []) X E.room ml_X5_44 st_X5_needWithin (by decide) (by decide) (k_X5_needWithin hG (a1) (0) (3) (by omega) (by omega)) rfl rfl (Nat.le_of_ble_eq_true rfl) ⟨Nat.le_of_ble_eq_true rfl, Nat.le_of_ble_eq_true rfl⟩ dX5_part_3 (fun Ex σ' h => VX_out X E (Nat.le_of_ble_eq_true rfl) (Nat.le_of_ble_eq_true rfl) ⟨Or.inl (Or.inl ⟨h.2.1, h.1⟩), σ'.1, F, Prod.ext rfl h.2.2, cM.rfl'⟩) (fun v9 σ' hp9 => ?_)
  obtain ⟨⟨rfl, g0_0⟩, rfl⟩ := hp9
  refine V.shrink B 0 0 (Nat.le_refl _) (Nat.le_refl _) ?_
  obtain ⟨j2, ej2, lj2, uj2⟩ := id g0_0
  subst ej2
  show V g κ 4 0 0 (t, cW g X0 F σ0) 6 [(0, .ref (X0 + 0)), (1, .int (nI (j2))), (2, .int (a2)), (3, .int (a3))] []
  refine V_iload_n X dX5_part_6 2 rfl ?_
  refine V_iconst (v := nI 0) X dX5_part_7 (by decide) ?_
  refine V_iconst (v := nI 3) X dX5_part_8 (by decide) ?_
  refine V_callS (rest := []) X E.room ml_X5_44 st_X5_needWithin (by decide) (by decide) (k_X5_needWithin hG (a2) (0) (3) (by omega) (by omega)) rfl rfl (Nat.le_of_ble_eq_true rfl) ⟨Nat.le_of_ble_eq_true rfl, Nat.le_of_ble_eq_true rfl⟩ dX5_part_9 (fun Ex σ' h => VX_out X E (Nat.le_of_ble_eq_true rfl) (Nat.le_of_ble_eq_true rfl) ⟨Or.inl (Or.inr ⟨g0_0, Or.inl ⟨h.2.1, h.1⟩⟩), σ'.1, F, Prod.ext rfl h.2.2, cM.rfl'⟩) (fun v9 σ' hp9 => ?_)
  obtain ⟨⟨rfl, g1_2⟩, rfl⟩ := hp9
  refine V.shrink B 0 0 (Nat.le_refl _) (Nat.le_refl _) ?_
  obtain ⟨j4, ej4, lj4, uj4⟩ := id g1_2
  subst ej4
  show V g κ 4 0 0 (t, cW g X0 F σ0) 12 [(0, .ref (X0 + 0)), (1, .int (nI (j2))), (2, .int (nI (j4))), (3, .int (a3))] []
  refine V_iload_n X dX5_part_12 3 rfl ?_
  refine V_iconst (v := nI 0) X dX5_part_13 (by decide) ?_
  refine V_bipush (v := nI 9) X dX5_part_14 (by decide) ?_
  refine V_callS (rest := []) X E.room ml_X5_44 st_X5_needWithin (by decide) (by decide) (k_X5_needWithin hG (a3) (0) (9) (by omega) (by omega)) rfl rfl (Nat.le_of_ble_eq_true rfl) ⟨Nat.le_of_ble_eq_true rfl, Nat.le_of_ble_eq_true rfl⟩ dX5_part_16 (fun Ex σ' h => VX_out X E (Nat.le_of_ble_eq_true rfl) (Nat.le_of_ble_eq_true rfl) ⟨Or.inl (Or.inr ⟨g0_0, Or.inr ⟨g1_2, Or.inl ⟨h.2.1, h.1⟩⟩⟩), σ'.1, F, Prod.ext rfl h.2.2, cM.rfl'⟩) (fun v9 σ' hp9 => ?_)
  obtain ⟨⟨rfl, g2_4⟩, rfl⟩ := hp9
  refine V.shrink B 0 0 (Nat.le_refl _) (Nat.le_refl _) ?_
  obtain ⟨j6, ej6, lj6, uj6⟩ := id g2_4
  subst ej6
  show V g κ 4 0 0 (t, cW g X0 F σ0) 19 [(0, .ref (X0 + 0)), (1, .int (nI (j2))), (2, .int (nI (j4))), (3, .int (nI (j6)))] []
  refine V_aload_n X dX5_part_19 0 rfl ?_
  refine C_getf X fl_X5_10 0 (by decide) rfl rfl dX5_part_20 ?_
  refine C_getfN (z := nI (nP)) X fl_X5_48 1 (by decide) rfl rfl hI.f1_5 dX5_part_23 ?_
  refine V_bipush (v := nI 7) X dX5_part_26 (by decide) ?_
  refine V_callS (rest := []) X E.room ml_X5_52 st_X5_needRoom (by decide) (by decide) (k_X5_needRoom hG (nP) (7) (by omega) (by omega)) rfl rfl (Nat.le_of_ble_eq_true rfl) ⟨Nat.le_of_ble_eq_true rfl, Nat.le_of_ble_eq_true rfl⟩ dX5_part_28 (fun Ex σ' h => VX_out X E (Nat.le_of_ble_eq_true rfl) (Nat.le_of_ble_eq_true rfl) ⟨Or.inl (Or.inr ⟨g0_0, Or.inr ⟨g1_2, Or.inr ⟨g2_4, Or.inl ⟨h.2.1, h.1⟩⟩⟩⟩), σ'.1, F, Prod.ext rfl h.2.2, cM.rfl'⟩) (fun v9 σ' hp9 => ?_)
  obtain ⟨⟨rfl, g3_6⟩, rfl⟩ := hp9
  refine V.shrink B 0 0 (Nat.le_refl _) (Nat.le_refl _) ?_
  show V g κ 4 0 0 (t, cW g X0 F σ0) 31 [(0, .ref (X0 + 0)), (1, .int (nI (j2))), (2, .int (nI (j4))), (3, .int (nI (j6)))] []
  refine V_aload_n X dX5_part_31 0 rfl ?_
  refine C_getf X fl_X5_26 0 (by decide) rfl rfl dX5_part_32 ?_
  refine V_callV (rest := []) X E.room ml_X5_56 in_X0_forget (ci := 4) rfl se_X0_forget (C_recv (q := 12) (by decide) rfl) (by decide) (by decide) (k_X0_forget hX hI) rfl rfl (Nat.le_of_ble_eq_true rfl) ⟨Nat.le_of_ble_eq_true rfl, Nat.le_of_ble_eq_true rfl⟩ dX5_part_35 (fun _ _ h => False.elim h) (fun v35 σ' hp35 => ?_)
  obtain ⟨hp35, rfl⟩ := hp35
  have hI0 : cI nP nS nA nC nT (fset F 12 3 (nI 0)) := hI.st rfl rfl
  cases (hp35 : _ = none)
  show V g κ 4 0 0 (t, cW g X0 (fset F 12 3 (nI 0)) σ0) 38 [(0, .ref (X0 + 0)), (1, .int (nI (j2))), (2, .int (nI (j4))), (3, .int (nI (j6)))] []
  refine V_aload_n X dX5_part_38 0 rfl ?_
  refine C_getf X fl_X5_10 0 (by decide) rfl rfl dX5_part_39 ?_
  refine V_iload_n X dX5_part_42 1 rfl ?_
  refine V_iload_n X dX5_part_43 2 rfl ?_
  refine V_iload_n X dX5_part_44 3 rfl ?_
  refine V_callV (rest := []) X E.room ml_X5_59 in_X2_addPart (ci := 6) rfl se_X2_addPart (C_recv (q := 1) (by decide) rfl) (by decide) (by decide) (k_X2_addPart hX hI0 (by omega) (nI (j2)) (nI (j4)) (nI (j6))) rfl rfl (Nat.le_of_ble_eq_true rfl) ⟨Nat.le_of_ble_eq_true rfl, Nat.le_of_ble_eq_true rfl⟩ dX5_part_45 (fun _ _ h => False.elim h) (fun v45 σ' hp45 => ?_)
  obtain ⟨hp45, F1F8, F8, rfl, e1F8, hJF8, hIF8⟩ := hp45
  rw [e1F8] at hJF8
  cases (hp45 : _ = some (Value.int (nI (nP))))
  show V g κ 4 0 0 (t, cW g X0 F8 σ0) 48 [(0, .ref (X0 + 0)), (1, .int (nI (j2))), (2, .int (nI (j4))), (3, .int (nI (j6)))] [.int (nI (nP))]
  exact V_iret X E (Nat.zero_le _) (Nat.zero_le _) ⟨rfl, ⟨⟨g0_0, g1_2, g2_4⟩, g3_6, _, rfl, hIF8, hJF8.m⟩⟩ dX5_part_48
set_option maxRecDepth 100000 in
set_option maxHeartbeats 4000000 in
theorem k_X5_player {g : zG} {t : Nat × Nat} {X0 : Nat} {σ0 : Nat → Option va_E} {F : Nat → Nat → Int32} (hX : g.2.1.size ≤ X0) {nP nS nA nC nT : Nat} (hI : cI nP nS nA nC nT F) (hG : g.1.stackTraces = false)  (a1 : Int32) (a2 : Int32) (a3 : Int32) (hB : cBd nP nS nA F) (hC : cK F) : Ct g 11 yX5_player cX5_player 4 (some FieldType.int) 1 6 [.ref (X0 + 0), .int (a1), .int (a2), .int (a3)] (t, cW g X0 F σ0) (fun v σ' => v = some (.int (nI nA)) ∧ (zlt (2 ^ 4) a1 ∧ zin 1 9 a2 ∧ zin 1 5 a3) ∧ nA < 5 ∧ ∃ F' : Nat → Nat → Int32, σ' = (t, cW g X0 F' σ0) ∧ cI nP nS (nA + 1) nC nT F' ∧ cM (fset (fset (fset (fset ((fset F 12 3 (nI 0))) 8 nA a1) 9 nA a2) 10 nA a3) 7 4 (nI (nA + 1))) F') (zXP [(zlt (2 ^ 4) a1, RIAE), (zin 1 9 a2, RIAE), (zin 1 5 a3, RIAE), (nA < 5, RISE)] zF0 g X0 F σ0) := by
  refine Ct.of (lv := [(0, .ref (X0 + 0)), (1, .int (a1)), (2, .int (a2)), (3, .int (a3))]) (by decide) (Nat.le_of_ble_eq_true rfl) rfl ?_
  intro κ X E B _
  have X : zX g κ RX5 cX5_player 4 := X
  obtain ⟨b1, b2, b3, b4, b5⟩ := hI.bnd
  refine V_iload_n X dX5_player_0 1 rfl ?_
  refine V_iconst (v := nI 4) X dX5_player_1 (by decide) ?_
  refine V_callS (rest := []) X E.room ml_X5_63 st_X5_needSet (by decide) (by decide) (k_X5_needSet hG (a1) (4) (by omega)) rfl rfl (Nat.le_of_ble_eq_true rfl) ⟨Nat.le_of_ble_eq_true rfl, Nat.le_of_ble_eq_true rfl⟩ dX5_player_2 (fun Ex σ' h => VX_out X E (Nat.le_of_ble_eq_true rfl) (Nat.le_of_ble_eq_true rfl) ⟨Or.inl (Or.inl ⟨h.2.1, h.1⟩), σ'.1, F, Prod.ext rfl h.2.2, cM.rfl'⟩) (fun v9 σ' hp9 => ?_)
  obtain ⟨⟨rfl, g0_0⟩, rfl⟩ := hp9
  refine V.shrink B 0 0 (Nat.le_refl _) (Nat.le_refl _) ?_
  obtain ⟨j2, ej2, uj2⟩ := id g0_0
  subst ej2
  show V g κ 4 0 0 (t, cW g X0 F σ0) 5 [(0, .ref (X0 + 0)), (1, .int (nI (j2))), (2, .int (a2)), (3, .int (a3))] []
  refine V_iload_n X dX5_player_5 2 rfl ?_
  refine V_iconst (v := nI 1) X dX5_player_6 (by decide) ?_
  refine V_bipush (v := nI 9) X dX5_player_7 (by decide) ?_
  refine V_callS (rest := []) X E.room ml_X5_44 st_X5_needWithin (by decide) (by decide) (k_X5_needWithin hG (a2) (1) (9) (by omega) (by omega)) rfl rfl (Nat.le_of_ble_eq_true rfl) ⟨Nat.le_of_ble_eq_true rfl, Nat.le_of_ble_eq_true rfl⟩ dX5_player_9 (fun Ex σ' h => VX_out X E (Nat.le_of_ble_eq_true rfl) (Nat.le_of_ble_eq_true rfl) ⟨Or.inl (Or.inr ⟨g0_0, Or.inl ⟨h.2.1, h.1⟩⟩), σ'.1, F, Prod.ext rfl h.2.2, cM.rfl'⟩) (fun v9 σ' hp9 => ?_)
  obtain ⟨⟨rfl, g1_2⟩, rfl⟩ := hp9
  refine V.shrink B 0 0 (Nat.le_refl _) (Nat.le_refl _) ?_
  obtain ⟨j4, ej4, lj4, uj4⟩ := id g1_2
  subst ej4
  show V g κ 4 0 0 (t, cW g X0 F σ0) 12 [(0, .ref (X0 + 0)), (1, .int (nI (j2))), (2, .int (nI (j4))), (3, .int (a3))] []
  refine V_iload_n X dX5_player_12 3 rfl ?_
  refine V_iconst (v := nI 1) X dX5_player_13 (by decide) ?_
  refine V_iconst (v := nI 5) X dX5_player_14 (by decide) ?_
  refine V_callS (rest := []) X E.room ml_X5_44 st_X5_needWithin (by decide) (by decide) (k_X5_needWithin hG (a3) (1) (5) (by omega) (by omega)) rfl rfl (Nat.le_of_ble_eq_true rfl) ⟨Nat.le_of_ble_eq_true rfl, Nat.le_of_ble_eq_true rfl⟩ dX5_player_15 (fun Ex σ' h => VX_out X E (Nat.le_of_ble_eq_true rfl) (Nat.le_of_ble_eq_true rfl) ⟨Or.inl (Or.inr ⟨g0_0, Or.inr ⟨g1_2, Or.inl ⟨h.2.1, h.1⟩⟩⟩), σ'.1, F, Prod.ext rfl h.2.2, cM.rfl'⟩) (fun v9 σ' hp9 => ?_)
  obtain ⟨⟨rfl, g2_4⟩, rfl⟩ := hp9
  refine V.shrink B 0 0 (Nat.le_refl _) (Nat.le_refl _) ?_
  obtain ⟨j6, ej6, lj6, uj6⟩ := id g2_4
  subst ej6
  show V g κ 4 0 0 (t, cW g X0 F σ0) 18 [(0, .ref (X0 + 0)), (1, .int (nI (j2))), (2, .int (nI (j4))), (3, .int (nI (j6)))] []
  refine V_aload_n X dX5_player_18 0 rfl ?_
  refine C_getf X fl_X5_19 0 (by decide) rfl rfl dX5_player_19 ?_
  refine C_getfN (z := nI (nA)) X fl_X5_66 7 (by decide) rfl rfl hI.f7_4 dX5_player_22 ?_
  refine V_iconst (v := nI 5) X dX5_player_25 (by decide) ?_
  refine V_callS (rest := []) X E.room ml_X5_52 st_X5_needRoom (by decide) (by decide) (k_X5_needRoom hG (nA) (5) (by omega) (by omega)) rfl rfl (Nat.le_of_ble_eq_true rfl) ⟨Nat.le_of_ble_eq_true rfl, Nat.le_of_ble_eq_true rfl⟩ dX5_player_26 (fun Ex σ' h => VX_out X E (Nat.le_of_ble_eq_true rfl) (Nat.le_of_ble_eq_true rfl) ⟨Or.inl (Or.inr ⟨g0_0, Or.inr ⟨g1_2, Or.inr ⟨g2_4, Or.inl ⟨h.2.1, h.1⟩⟩⟩⟩), σ'.1, F, Prod.ext rfl h.2.2, cM.rfl'⟩) (fun v9 σ' hp9 => ?_)
  obtain ⟨⟨rfl, g3_6⟩, rfl⟩ := hp9
  refine V.shrink B 0 0 (Nat.le_refl _) (Nat.le_refl _) ?_
  show V g κ 4 0 0 (t, cW g X0 F σ0) 29 [(0, .ref (X0 + 0)), (1, .int (nI (j2))), (2, .int (nI (j4))), (3, .int (nI (j6)))] []
  refine V_aload_n X dX5_player_29 0 rfl ?_
  refine C_getf X fl_X5_26 0 (by decide) rfl rfl dX5_player_30 ?_
  refine V_callV (rest := []) X E.room ml_X5_56 in_X0_forget (ci := 4) rfl se_X0_forget (C_recv (q := 12) (by decide) rfl) (by decide) (by decide) (k_X0_forget hX hI) rfl rfl (Nat.le_of_ble_eq_true rfl) ⟨Nat.le_of_ble_eq_true rfl, Nat.le_of_ble_eq_true rfl⟩ dX5_player_33 (fun _ _ h => False.elim h) (fun v33 σ' hp33 => ?_)
  obtain ⟨hp33, rfl⟩ := hp33
  have hI0 : cI nP nS nA nC nT (fset F 12 3 (nI 0)) := hI.st rfl rfl
  cases (hp33 : _ = none)
  show V g κ 4 0 0 (t, cW g X0 (fset F 12 3 (nI 0)) σ0) 36 [(0, .ref (X0 + 0)), (1, .int (nI (j2))), (2, .int (nI (j4))), (3, .int (nI (j6)))] []
  refine V_aload_n X dX5_player_36 0 rfl ?_
  refine C_getf X fl_X5_19 0 (by decide) rfl rfl dX5_player_37 ?_
  refine V_iload_n X dX5_player_40 1 rfl ?_
  refine V_iload_n X dX5_player_41 2 rfl ?_
  refine V_iload_n X dX5_player_42 3 rfl ?_
  refine V_callV (rest := []) X E.room ml_X5_69 in_X1_addPlayer (ci := 5) rfl se_X1_addPlayer (C_recv (q := 7) (by decide) rfl) (by decide) (by decide) (k_X1_addPlayer hX hI0 (by omega) (nI (j2)) (nI (j4)) (nI (j6))) rfl rfl (Nat.le_of_ble_eq_true rfl) ⟨Nat.le_of_ble_eq_true rfl, Nat.le_of_ble_eq_true rfl⟩ dX5_player_43 (fun _ _ h => False.elim h) (fun v43 σ' hp43 => ?_)
  obtain ⟨hp43, F1F8, F8, rfl, e1F8, hJF8, hIF8⟩ := hp43
  rw [e1F8] at hJF8
  cases (hp43 : _ = some (Value.int (nI (nA))))
  show V g κ 4 0 0 (t, cW g X0 F8 σ0) 46 [(0, .ref (X0 + 0)), (1, .int (nI (j2))), (2, .int (nI (j4))), (3, .int (nI (j6)))] [.int (nI (nA))]
  exact V_iret X E (Nat.zero_le _) (Nat.zero_le _) ⟨rfl, ⟨⟨g0_0, g1_2, g2_4⟩, g3_6, _, rfl, hIF8, hJF8.m⟩⟩ dX5_player_46
set_option maxRecDepth 100000 in
set_option maxHeartbeats 4000000 in
theorem k_X5_scene {g : zG} {t : Nat × Nat} {X0 : Nat} {σ0 : Nat → Option va_E} {F : Nat → Nat → Int32} (hX : g.2.1.size ≤ X0) {nP nS nA nC nT : Nat} (hI : cI nP nS nA nC nT F) (hG : g.1.stackTraces = false)  (a1 : Int32) (a2 : Int32) (hB : cBd nP nS nA F) (hC : cK F) : Ct g 11 yX5_scene cX5_scene 3 (some FieldType.int) 1 6 [.ref (X0 + 0), .int (a1), .int (a2)] (t, cW g X0 F σ0) (fun v σ' => v = some (.int (nI nS)) ∧ (zlt (2 ^ nP) a1 ∧ zin 1 127 a1 ∧ zin 0 9 a2) ∧ nS < 6 ∧ ∃ F' : Nat → Nat → Int32, σ' = (t, cW g X0 F' σ0) ∧ cI nP (nS + 1) nA nC nT F' ∧ cM (fset (fset (fset ((fset F 12 3 (nI 0))) 5 nS a1) 6 nS a2) 1 6 (nI (nS + 1))) F') (zXP [(zlt (2 ^ nP) a1, RIAE), (zin 1 127 a1, RIAE), (zin 0 9 a2, RIAE), (nS < 6, RISE)] zF0 g X0 F σ0) := by
  refine Ct.of (lv := [(0, .ref (X0 + 0)), (1, .int (a1)), (2, .int (a2))]) (by decide) (Nat.le_of_ble_eq_true rfl) rfl ?_
  intro κ X E B _
  have X : zX g κ RX5 cX5_scene 3 := X
  obtain ⟨b1, b2, b3, b4, b5⟩ := hI.bnd
  have h128 : 2 ^ nP ≤ 128 := zp2 (n := 7) (by omega)
  refine V_iload_n X dX5_scene_0 1 rfl ?_
  refine V_aload_n X dX5_scene_1 0 rfl ?_
  refine C_getf X fl_X5_10 0 (by decide) rfl rfl dX5_scene_2 ?_
  refine C_getfN (z := nI (nP)) X fl_X5_48 1 (by decide) rfl rfl hI.f1_5 dX5_scene_5 ?_
  refine V_callS (rest := []) X E.room ml_X5_63 st_X5_needSet (by decide) (by decide) (k_X5_needSet hG (a1) (nP) (by omega)) rfl rfl (Nat.le_of_ble_eq_true rfl) ⟨Nat.le_of_ble_eq_true rfl, Nat.le_of_ble_eq_true rfl⟩ dX5_scene_8 (fun Ex σ' h => VX_out X E (Nat.le_of_ble_eq_true rfl) (Nat.le_of_ble_eq_true rfl) ⟨Or.inl (Or.inl ⟨h.2.1, h.1⟩), σ'.1, F, Prod.ext rfl h.2.2, cM.rfl'⟩) (fun v9 σ' hp9 => ?_)
  obtain ⟨⟨rfl, g0_0⟩, rfl⟩ := hp9
  refine V.shrink B 0 0 (Nat.le_refl _) (Nat.le_refl _) ?_
  obtain ⟨j2, ej2, uj2⟩ := id g0_0
  subst ej2
  show V g κ 3 0 0 (t, cW g X0 F σ0) 11 [(0, .ref (X0 + 0)), (1, .int (nI (j2))), (2, .int (a2))] []
  refine V_iload_n X dX5_scene_11 1 rfl ?_
  refine V_iconst (v := nI 1) X dX5_scene_12 (by decide) ?_
  refine V_bipush (v := nI 127) X dX5_scene_13 (by decide) ?_
  refine V_callS (rest := []) X E.room ml_X5_44 st_X5_needWithin (by decide) (by decide) (k_X5_needWithin hG (nI (j2)) (1) (127) (by omega) (by omega)) rfl rfl (Nat.le_of_ble_eq_true rfl) ⟨Nat.le_of_ble_eq_true rfl, Nat.le_of_ble_eq_true rfl⟩ dX5_scene_15 (fun Ex σ' h => VX_out X E (Nat.le_of_ble_eq_true rfl) (Nat.le_of_ble_eq_true rfl) ⟨Or.inl (Or.inr ⟨g0_0, Or.inl ⟨h.2.1, h.1⟩⟩), σ'.1, F, Prod.ext rfl h.2.2, cM.rfl'⟩) (fun v9 σ' hp9 => ?_)
  obtain ⟨⟨rfl, g1_2⟩, rfl⟩ := hp9
  refine V.shrink B 0 0 (Nat.le_refl _) (Nat.le_refl _) ?_
  obtain ⟨lg1_2, ug1_2⟩ := zin_nI g1_2 (by omega) (by omega)
  show V g κ 3 0 0 (t, cW g X0 F σ0) 18 [(0, .ref (X0 + 0)), (1, .int (nI (j2))), (2, .int (a2))] []
  refine V_iload_n X dX5_scene_18 2 rfl ?_
  refine V_iconst (v := nI 0) X dX5_scene_19 (by decide) ?_
  refine V_bipush (v := nI 9) X dX5_scene_20 (by decide) ?_
  refine V_callS (rest := []) X E.room ml_X5_44 st_X5_needWithin (by decide) (by decide) (k_X5_needWithin hG (a2) (0) (9) (by omega) (by omega)) rfl rfl (Nat.le_of_ble_eq_true rfl) ⟨Nat.le_of_ble_eq_true rfl, Nat.le_of_ble_eq_true rfl⟩ dX5_scene_22 (fun Ex σ' h => VX_out X E (Nat.le_of_ble_eq_true rfl) (Nat.le_of_ble_eq_true rfl) ⟨Or.inl (Or.inr ⟨g0_0, Or.inr ⟨g1_2, Or.inl ⟨h.2.1, h.1⟩⟩⟩), σ'.1, F, Prod.ext rfl h.2.2, cM.rfl'⟩) (fun v9 σ' hp9 => ?_)
  obtain ⟨⟨rfl, g2_3⟩, rfl⟩ := hp9
  refine V.shrink B 0 0 (Nat.le_refl _) (Nat.le_refl _) ?_
  obtain ⟨j5, ej5, lj5, uj5⟩ := id g2_3
  subst ej5
  show V g κ 3 0 0 (t, cW g X0 F σ0) 25 [(0, .ref (X0 + 0)), (1, .int (nI (j2))), (2, .int (nI (j5)))] []
  refine V_aload_n X dX5_scene_25 0 rfl ?_
  refine C_getf X fl_X5_10 0 (by decide) rfl rfl dX5_scene_26 ?_
  refine C_getfN (z := nI (nS)) X fl_X5_72 1 (by decide) rfl rfl hI.f1_6 dX5_scene_29 ?_
  refine V_bipush (v := nI 6) X dX5_scene_32 (by decide) ?_
  refine V_callS (rest := []) X E.room ml_X5_52 st_X5_needRoom (by decide) (by decide) (k_X5_needRoom hG (nS) (6) (by omega) (by omega)) rfl rfl (Nat.le_of_ble_eq_true rfl) ⟨Nat.le_of_ble_eq_true rfl, Nat.le_of_ble_eq_true rfl⟩ dX5_scene_34 (fun Ex σ' h => VX_out X E (Nat.le_of_ble_eq_true rfl) (Nat.le_of_ble_eq_true rfl) ⟨Or.inl (Or.inr ⟨g0_0, Or.inr ⟨g1_2, Or.inr ⟨g2_3, Or.inl ⟨h.2.1, h.1⟩⟩⟩⟩), σ'.1, F, Prod.ext rfl h.2.2, cM.rfl'⟩) (fun v9 σ' hp9 => ?_)
  obtain ⟨⟨rfl, g3_5⟩, rfl⟩ := hp9
  refine V.shrink B 0 0 (Nat.le_refl _) (Nat.le_refl _) ?_
  show V g κ 3 0 0 (t, cW g X0 F σ0) 37 [(0, .ref (X0 + 0)), (1, .int (nI (j2))), (2, .int (nI (j5)))] []
  refine V_aload_n X dX5_scene_37 0 rfl ?_
  refine C_getf X fl_X5_26 0 (by decide) rfl rfl dX5_scene_38 ?_
  refine V_callV (rest := []) X E.room ml_X5_56 in_X0_forget (ci := 4) rfl se_X0_forget (C_recv (q := 12) (by decide) rfl) (by decide) (by decide) (k_X0_forget hX hI) rfl rfl (Nat.le_of_ble_eq_true rfl) ⟨Nat.le_of_ble_eq_true rfl, Nat.le_of_ble_eq_true rfl⟩ dX5_scene_41 (fun _ _ h => False.elim h) (fun v41 σ' hp41 => ?_)
  obtain ⟨hp41, rfl⟩ := hp41
  have hI0 : cI nP nS nA nC nT (fset F 12 3 (nI 0)) := hI.st rfl rfl
  cases (hp41 : _ = none)
  show V g κ 3 0 0 (t, cW g X0 (fset F 12 3 (nI 0)) σ0) 44 [(0, .ref (X0 + 0)), (1, .int (nI (j2))), (2, .int (nI (j5)))] []
  refine V_aload_n X dX5_scene_44 0 rfl ?_
  refine C_getf X fl_X5_10 0 (by decide) rfl rfl dX5_scene_45 ?_
  refine V_iload_n X dX5_scene_48 1 rfl ?_
  refine V_iload_n X dX5_scene_49 2 rfl ?_
  refine V_callV (rest := []) X E.room ml_X5_75 in_X2_addScene (ci := 6) rfl se_X2_addScene (C_recv (q := 1) (by decide) rfl) (by decide) (by decide) (k_X2_addScene hX hI0 (by omega) (j2) (by omega) (nI (j5))) rfl rfl (Nat.le_of_ble_eq_true rfl) ⟨Nat.le_of_ble_eq_true rfl, Nat.le_of_ble_eq_true rfl⟩ dX5_scene_50 (fun _ _ h => False.elim h) (fun v50 σ' hp50 => ?_)
  obtain ⟨hp50, F1F7, F7, rfl, e1F7, hJF7, hIF7⟩ := hp50
  rw [e1F7] at hJF7
  cases (hp50 : _ = some (Value.int (nI (nS))))
  show V g κ 3 0 0 (t, cW g X0 F7 σ0) 53 [(0, .ref (X0 + 0)), (1, .int (nI (j2))), (2, .int (nI (j5)))] [.int (nI (nS))]
  exact V_iret X E (Nat.zero_le _) (Nat.zero_le _) ⟨rfl, ⟨⟨g0_0, g1_2, g2_3⟩, g3_5, _, rfl, hIF7, hJF7.m⟩⟩ dX5_scene_53
set_option maxRecDepth 100000 in
set_option maxHeartbeats 4000000 in
theorem k_X5_coat {g : zG} {t : Nat × Nat} {X0 : Nat} {σ0 : Nat → Option va_E} {F : Nat → Nat → Int32} (hX : g.2.1.size ≤ X0) {nP nS nA nC nT : Nat} (hI : cI nP nS nA nC nT F) (hG : g.1.stackTraces = false)  (a1 : Int32) (a2 : Int32) (a3 : Int32) (hB : cBd nP nS nA F) (hC : cK F) : Ct g 11 yX5_coat cX5_coat 4 (some FieldType.int) 1 6 [.ref (X0 + 0), .int (a1), .int (a2), .int (a3)] (t, cW g X0 F σ0) (fun v σ' => v = some (.int (nI nC)) ∧ (zin 0 3 a1 ∧ zin 1 9 a2 ∧ zin 1 99 a3) ∧ nC < 6 ∧ ∃ F' : Nat → Nat → Int32, σ' = (t, cW g X0 F' σ0) ∧ cI nP nS nA (nC + 1) nT F' ∧ cM (fset (fset (fset (fset F 19 nC a1) 20 nC a2) 21 nC a3) 18 3 (nI (nC + 1))) F') (zXP [(zin 0 3 a1, RIAE), (zin 1 9 a2, RIAE), (zin 1 99 a3, RIAE), (nC < 6, RISE)] zF0 g X0 F σ0) := by
  refine Ct.of (lv := [(0, .ref (X0 + 0)), (1, .int (a1)), (2, .int (a2)), (3, .int (a3))]) (by decide) (Nat.le_of_ble_eq_true rfl) rfl ?_
  intro κ X E B _
  have X : zX g κ RX5 cX5_coat 4 := X
  obtain ⟨b1, b2, b3, b4, b5⟩ := hI.bnd
  refine V_iload_n X dX5_coat_0 1 rfl ?_
  refine V_iconst (v := nI 0) X dX5_coat_1 (by decide) ?_
  refine V_iconst (v := nI 3) X dX5_coat_2 (by decide) ?_
  refine V_callS (rest := []) X E.room ml_X5_44 st_X5_needWithin (by decide) (by decide) (k_X5_needWithin hG (a1) (0) (3) (by omega) (by omega)) rfl rfl (Nat.le_of_ble_eq_true rfl) ⟨Nat.le_of_ble_eq_true rfl, Nat.le_of_ble_eq_true rfl⟩ dX5_coat_3 (fun Ex σ' h => VX_out X E (Nat.le_of_ble_eq_true rfl) (Nat.le_of_ble_eq_true rfl) ⟨Or.inl (Or.inl ⟨h.2.1, h.1⟩), σ'.1, F, Prod.ext rfl h.2.2, cM.rfl'⟩) (fun v9 σ' hp9 => ?_)
  obtain ⟨⟨rfl, g0_0⟩, rfl⟩ := hp9
  refine V.shrink B 0 0 (Nat.le_refl _) (Nat.le_refl _) ?_
  obtain ⟨j2, ej2, lj2, uj2⟩ := id g0_0
  subst ej2
  show V g κ 4 0 0 (t, cW g X0 F σ0) 6 [(0, .ref (X0 + 0)), (1, .int (nI (j2))), (2, .int (a2)), (3, .int (a3))] []
  refine V_iload_n X dX5_coat_6 2 rfl ?_
  refine V_iconst (v := nI 1) X dX5_coat_7 (by decide) ?_
  refine V_bipush (v := nI 9) X dX5_coat_8 (by decide) ?_
  refine V_callS (rest := []) X E.room ml_X5_44 st_X5_needWithin (by decide) (by decide) (k_X5_needWithin hG (a2) (1) (9) (by omega) (by omega)) rfl rfl (Nat.le_of_ble_eq_true rfl) ⟨Nat.le_of_ble_eq_true rfl, Nat.le_of_ble_eq_true rfl⟩ dX5_coat_10 (fun Ex σ' h => VX_out X E (Nat.le_of_ble_eq_true rfl) (Nat.le_of_ble_eq_true rfl) ⟨Or.inl (Or.inr ⟨g0_0, Or.inl ⟨h.2.1, h.1⟩⟩), σ'.1, F, Prod.ext rfl h.2.2, cM.rfl'⟩) (fun v9 σ' hp9 => ?_)
  obtain ⟨⟨rfl, g1_2⟩, rfl⟩ := hp9
  refine V.shrink B 0 0 (Nat.le_refl _) (Nat.le_refl _) ?_
  obtain ⟨j4, ej4, lj4, uj4⟩ := id g1_2
  subst ej4
  show V g κ 4 0 0 (t, cW g X0 F σ0) 13 [(0, .ref (X0 + 0)), (1, .int (nI (j2))), (2, .int (nI (j4))), (3, .int (a3))] []
  refine V_iload_n X dX5_coat_13 3 rfl ?_
  refine V_iconst (v := nI 1) X dX5_coat_14 (by decide) ?_
  refine V_bipush (v := nI 99) X dX5_coat_15 (by decide) ?_
  refine V_callS (rest := []) X E.room ml_X5_44 st_X5_needWithin (by decide) (by decide) (k_X5_needWithin hG (a3) (1) (99) (by omega) (by omega)) rfl rfl (Nat.le_of_ble_eq_true rfl) ⟨Nat.le_of_ble_eq_true rfl, Nat.le_of_ble_eq_true rfl⟩ dX5_coat_17 (fun Ex σ' h => VX_out X E (Nat.le_of_ble_eq_true rfl) (Nat.le_of_ble_eq_true rfl) ⟨Or.inl (Or.inr ⟨g0_0, Or.inr ⟨g1_2, Or.inl ⟨h.2.1, h.1⟩⟩⟩), σ'.1, F, Prod.ext rfl h.2.2, cM.rfl'⟩) (fun v9 σ' hp9 => ?_)
  obtain ⟨⟨rfl, g2_4⟩, rfl⟩ := hp9
  refine V.shrink B 0 0 (Nat.le_refl _) (Nat.le_refl _) ?_
  obtain ⟨j6, ej6, lj6, uj6⟩ := id g2_4
  subst ej6
  show V g κ 4 0 0 (t, cW g X0 F σ0) 20 [(0, .ref (X0 + 0)), (1, .int (nI (j2))), (2, .int (nI (j4))), (3, .int (nI (j6)))] []
  refine V_aload_n X dX5_coat_20 0 rfl ?_
  refine C_getf X fl_X5_33 0 (by decide) rfl rfl dX5_coat_21 ?_
  refine C_getfN (z := nI (nC)) X fl_X5_93 18 (by decide) rfl rfl hI.f18_3 dX5_coat_24 ?_
  refine V_bipush (v := nI 6) X dX5_coat_27 (by decide) ?_
  refine V_callS (rest := []) X E.room ml_X5_52 st_X5_needRoom (by decide) (by decide) (k_X5_needRoom hG (nC) (6) (by omega) (by omega)) rfl rfl (Nat.le_of_ble_eq_true rfl) ⟨Nat.le_of_ble_eq_true rfl, Nat.le_of_ble_eq_true rfl⟩ dX5_coat_29 (fun Ex σ' h => VX_out X E (Nat.le_of_ble_eq_true rfl) (Nat.le_of_ble_eq_true rfl) ⟨Or.inl (Or.inr ⟨g0_0, Or.inr ⟨g1_2, Or.inr ⟨g2_4, Or.inl ⟨h.2.1, h.1⟩⟩⟩⟩), σ'.1, F, Prod.ext rfl h.2.2, cM.rfl'⟩) (fun v9 σ' hp9 => ?_)
  obtain ⟨⟨rfl, g3_6⟩, rfl⟩ := hp9
  refine V.shrink B 0 0 (Nat.le_refl _) (Nat.le_refl _) ?_
  show V g κ 4 0 0 (t, cW g X0 F σ0) 32 [(0, .ref (X0 + 0)), (1, .int (nI (j2))), (2, .int (nI (j4))), (3, .int (nI (j6)))] []
  refine V_aload_n X dX5_coat_32 0 rfl ?_
  refine C_getf X fl_X5_33 0 (by decide) rfl rfl dX5_coat_33 ?_
  refine V_iload_n X dX5_coat_36 1 rfl ?_
  refine V_iload_n X dX5_coat_37 2 rfl ?_
  refine V_iload_n X dX5_coat_38 3 rfl ?_
  refine V_callV (rest := []) X E.room ml_X5_96 in_X4_addCoat (ci := 8) rfl se_X4_addCoat (C_recv (q := 18) (by decide) rfl) (by decide) (by decide) (k_X4_addCoat hX hI (by omega) (nI (j2)) (nI (j4)) (nI (j6))) rfl rfl (Nat.le_of_ble_eq_true rfl) ⟨Nat.le_of_ble_eq_true rfl, Nat.le_of_ble_eq_true rfl⟩ dX5_coat_39 (fun _ _ h => False.elim h) (fun v39 σ' hp39 => ?_)
  obtain ⟨hp39, F1F8, F8, rfl, e1F8, hJF8, hIF8⟩ := hp39
  rw [e1F8] at hJF8
  cases (hp39 : _ = some (Value.int (nI (nC))))
  show V g κ 4 0 0 (t, cW g X0 F8 σ0) 42 [(0, .ref (X0 + 0)), (1, .int (nI (j2))), (2, .int (nI (j4))), (3, .int (nI (j6)))] [.int (nI (nC))]
  exact V_iret X E (Nat.zero_le _) (Nat.zero_le _) ⟨rfl, ⟨⟨g0_0, g1_2, g2_4⟩, g3_6, _, rfl, hIF8, hJF8.m⟩⟩ dX5_coat_42
set_option maxRecDepth 100000 in
set_option maxHeartbeats 4000000 in
theorem k_X5_town {g : zG} {t : Nat × Nat} {X0 : Nat} {σ0 : Nat → Option va_E} {F : Nat → Nat → Int32} (hX : g.2.1.size ≤ X0) {nP nS nA nC nT : Nat} (hI : cI nP nS nA nC nT F) (hG : g.1.stackTraces = false)  (a1 : Int32) (a2 : Int32) (a3 : Int32) (hB : cBd nP nS nA F) (hC : cK F) : Ct g 14 yX5_town cX5_town 4 (some FieldType.int) 1 6 [.ref (X0 + 0), .int (a1), .int (a2), .int (a3)] (t, cW g X0 F σ0) (fun v σ' => v = some (.int (nI nT)) ∧ (zin 0 99 a1 ∧ zin 0 99 a2 ∧ zin 0 999 a3) ∧ nT < 5 ∧ ∃ F' : Nat → Nat → Int32, σ' = (t, cW g X0 F' σ0) ∧ cI nP nS nA nC (nT + 1) F' ∧ cRw sRo (fset (fset (fset (fset F 24 nT a1) 25 nT a2) 26 nT a3) 23 4 (nI (nT + 1))) F') (zXP [(zin 0 99 a1, RIAE), (zin 0 99 a2, RIAE), (zin 0 999 a3, RIAE), (nT < 5, RISE)] zF0 g X0 F σ0) := by
  refine Ct.of (lv := [(0, .ref (X0 + 0)), (1, .int (a1)), (2, .int (a2)), (3, .int (a3))]) (by decide) (Nat.le_of_ble_eq_true rfl) rfl ?_
  intro κ X E B _
  have X : zX g κ RX5 cX5_town 4 := X
  obtain ⟨b1, b2, b3, b4, b5⟩ := hI.bnd
  refine V_iload_n X dX5_town_0 1 rfl ?_
  refine V_iconst (v := nI 0) X dX5_town_1 (by decide) ?_
  refine V_bipush (v := nI 99) X dX5_town_2 (by decide) ?_
  refine V_callS (rest := []) X E.room ml_X5_44 st_X5_needWithin (by decide) (by decide) (k_X5_needWithin hG (a1) (0) (99) (by omega) (by omega)) rfl rfl (Nat.le_of_ble_eq_true rfl) ⟨Nat.le_of_ble_eq_true rfl, Nat.le_of_ble_eq_true rfl⟩ dX5_town_4 (fun Ex σ' h => VX_out X E (Nat.le_of_ble_eq_true rfl) (Nat.le_of_ble_eq_true rfl) ⟨Or.inl (Or.inl ⟨h.2.1, h.1⟩), σ'.1, F, Prod.ext rfl h.2.2, cM.rfl'⟩) (fun v9 σ' hp9 => ?_)
  obtain ⟨⟨rfl, g0_0⟩, rfl⟩ := hp9
  refine V.shrink B 0 0 (Nat.le_refl _) (Nat.le_refl _) ?_
  obtain ⟨j2, ej2, lj2, uj2⟩ := id g0_0
  subst ej2
  show V g κ 4 0 0 (t, cW g X0 F σ0) 7 [(0, .ref (X0 + 0)), (1, .int (nI (j2))), (2, .int (a2)), (3, .int (a3))] []
  refine V_iload_n X dX5_town_7 2 rfl ?_
  refine V_iconst (v := nI 0) X dX5_town_8 (by decide) ?_
  refine V_bipush (v := nI 99) X dX5_town_9 (by decide) ?_
  refine V_callS (rest := []) X E.room ml_X5_44 st_X5_needWithin (by decide) (by decide) (k_X5_needWithin hG (a2) (0) (99) (by omega) (by omega)) rfl rfl (Nat.le_of_ble_eq_true rfl) ⟨Nat.le_of_ble_eq_true rfl, Nat.le_of_ble_eq_true rfl⟩ dX5_town_11 (fun Ex σ' h => VX_out X E (Nat.le_of_ble_eq_true rfl) (Nat.le_of_ble_eq_true rfl) ⟨Or.inl (Or.inr ⟨g0_0, Or.inl ⟨h.2.1, h.1⟩⟩), σ'.1, F, Prod.ext rfl h.2.2, cM.rfl'⟩) (fun v9 σ' hp9 => ?_)
  obtain ⟨⟨rfl, g1_2⟩, rfl⟩ := hp9
  refine V.shrink B 0 0 (Nat.le_refl _) (Nat.le_refl _) ?_
  obtain ⟨j4, ej4, lj4, uj4⟩ := id g1_2
  subst ej4
  show V g κ 4 0 0 (t, cW g X0 F σ0) 14 [(0, .ref (X0 + 0)), (1, .int (nI (j2))), (2, .int (nI (j4))), (3, .int (a3))] []
  refine V_iload_n X dX5_town_14 3 rfl ?_
  refine V_iconst (v := nI 0) X dX5_town_15 (by decide) ?_
  refine V_sipush (v := nI 999) X dX5_town_16 (by decide) ?_
  refine V_callS (rest := []) X E.room ml_X5_44 st_X5_needWithin (by decide) (by decide) (k_X5_needWithin hG (a3) (0) (999) (by omega) (by omega)) rfl rfl (Nat.le_of_ble_eq_true rfl) ⟨Nat.le_of_ble_eq_true rfl, Nat.le_of_ble_eq_true rfl⟩ dX5_town_19 (fun Ex σ' h => VX_out X E (Nat.le_of_ble_eq_true rfl) (Nat.le_of_ble_eq_true rfl) ⟨Or.inl (Or.inr ⟨g0_0, Or.inr ⟨g1_2, Or.inl ⟨h.2.1, h.1⟩⟩⟩), σ'.1, F, Prod.ext rfl h.2.2, cM.rfl'⟩) (fun v9 σ' hp9 => ?_)
  obtain ⟨⟨rfl, g2_4⟩, rfl⟩ := hp9
  refine V.shrink B 0 0 (Nat.le_refl _) (Nat.le_refl _) ?_
  obtain ⟨j6, ej6, lj6, uj6⟩ := id g2_4
  subst ej6
  show V g κ 4 0 0 (t, cW g X0 F σ0) 22 [(0, .ref (X0 + 0)), (1, .int (nI (j2))), (2, .int (nI (j4))), (3, .int (nI (j6)))] []
  refine V_aload_n X dX5_town_22 0 rfl ?_
  refine C_getf X fl_X5_40 0 (by decide) rfl rfl dX5_town_23 ?_
  refine C_getfN (z := nI (nT)) X fl_X5_127 23 (by decide) rfl rfl hI.f23_4 dX5_town_26 ?_
  refine V_iconst (v := nI 5) X dX5_town_29 (by decide) ?_
  refine V_callS (rest := []) X E.room ml_X5_52 st_X5_needRoom (by decide) (by decide) (k_X5_needRoom hG (nT) (5) (by omega) (by omega)) rfl rfl (Nat.le_of_ble_eq_true rfl) ⟨Nat.le_of_ble_eq_true rfl, Nat.le_of_ble_eq_true rfl⟩ dX5_town_30 (fun Ex σ' h => VX_out X E (Nat.le_of_ble_eq_true rfl) (Nat.le_of_ble_eq_true rfl) ⟨Or.inl (Or.inr ⟨g0_0, Or.inr ⟨g1_2, Or.inr ⟨g2_4, Or.inl ⟨h.2.1, h.1⟩⟩⟩⟩), σ'.1, F, Prod.ext rfl h.2.2, cM.rfl'⟩) (fun v9 σ' hp9 => ?_)
  obtain ⟨⟨rfl, g3_6⟩, rfl⟩ := hp9
  refine V.shrink B 0 0 (Nat.le_refl _) (Nat.le_refl _) ?_
  show V g κ 4 0 0 (t, cW g X0 F σ0) 33 [(0, .ref (X0 + 0)), (1, .int (nI (j2))), (2, .int (nI (j4))), (3, .int (nI (j6)))] []
  refine V_aload_n X dX5_town_33 0 rfl ?_
  refine C_getf X fl_X5_40 0 (by decide) rfl rfl dX5_town_34 ?_
  refine V_iload_n X dX5_town_37 1 rfl ?_
  refine V_iload_n X dX5_town_38 2 rfl ?_
  refine V_iload_n X dX5_town_39 3 rfl ?_
  refine V_callV (rest := []) X E.room ml_X5_130 in_X3_addTown (ci := 7) rfl se_X3_addTown (C_recv (q := 23) (by decide) rfl) (by decide) (by decide) (k_X3_addTown hX hI (by omega) (nI (j2)) (nI (j4)) (nI (j6))) rfl rfl (Nat.le_of_ble_eq_true rfl) ⟨Nat.le_of_ble_eq_true rfl, Nat.le_of_ble_eq_true rfl⟩ dX5_town_40 (fun _ _ h => False.elim h) (fun v40 σ' hp40 => ?_)
  obtain ⟨hp40, F1F8, F8, rfl, e1F8, hJF8, hIF8⟩ := hp40
  rw [e1F8] at hJF8
  cases (hp40 : _ = some (Value.int (nI (nT))))
  show V g κ 4 0 0 (t, cW g X0 F8 σ0) 43 [(0, .ref (X0 + 0)), (1, .int (nI (j2))), (2, .int (nI (j4))), (3, .int (nI (j6)))] [.int (nI (nT))]
  exact V_iret X E (Nat.zero_le _) (Nat.zero_le _) ⟨rfl, ⟨⟨g0_0, g1_2, g2_4⟩, g3_6, _, rfl, hIF8, hJF8⟩⟩ dX5_town_43
set_option maxRecDepth 100000 in
set_option maxHeartbeats 4000000 in
theorem k_X5_pause {g : zG} {t : Nat × Nat} {X0 : Nat} {σ0 : Nat → Option va_E} {F : Nat → Nat → Int32} (hX : g.2.1.size ≤ X0) {nP nS nA nC nT : Nat} (hI : cI nP nS nA nC nT F) (hG : g.1.stackTraces = false)  (a1 : Int32) (a2 : Int32) (hB : cBd nP nS nA F) (hC : cK F) : Ct g 11 yX5_pause cX5_pause 4 (some FieldType.int) 1 6 [.ref (X0 + 0), .int (a1), .int (a2)] (t, cW g X0 F σ0) (fun v σ' => ∃ s : Nat, a1 = nI s ∧ s < nS ∧ zin 0 9 a2 ∧ v = some (.int (F 6 s)) ∧ ∃ F' : Nat → Nat → Int32, σ' = (t, cW g X0 F' σ0) ∧ cM (fset (fset F 12 3 (nI 0)) 6 s a2) F') (zXP [(zlt nS a1, RIOB), (zin 0 9 a2, RIAE)] zF0 g X0 F σ0) := by
  refine Ct.of (lv := [(0, .ref (X0 + 0)), (1, .int (a1)), (2, .int (a2))]) (by decide) (Nat.le_of_ble_eq_true rfl) rfl ?_
  intro κ X E B _
  have X : zX g κ RX5 cX5_pause 4 := X
  obtain ⟨b1, b2, b3, b4, b5⟩ := hI.bnd
  refine V_iload_n X dX5_pause_0 1 rfl ?_
  refine V_aload_n X dX5_pause_1 0 rfl ?_
  refine C_getf X fl_X5_10 0 (by decide) rfl rfl dX5_pause_2 ?_
  refine C_getfN (z := nI (nS)) X fl_X5_72 1 (by decide) rfl rfl hI.f1_6 dX5_pause_5 ?_
  refine V_callS (rest := []) X E.room ml_X5_79 st_X5_needIndex (by decide) (by decide) (k_X5_needIndex hG (a1) (nS) (by omega)) rfl rfl (Nat.le_of_ble_eq_true rfl) ⟨Nat.le_of_ble_eq_true rfl, Nat.le_of_ble_eq_true rfl⟩ dX5_pause_8 (fun Ex σ' h => VX_out X E (Nat.le_of_ble_eq_true rfl) (Nat.le_of_ble_eq_true rfl) ⟨Or.inl (Or.inl ⟨h.2.1, h.1⟩), σ'.1, F, Prod.ext rfl h.2.2, cM.rfl'⟩) (fun v9 σ' hp9 => ?_)
  obtain ⟨⟨rfl, g0_0⟩, rfl⟩ := hp9
  refine V.shrink B 0 0 (Nat.le_refl _) (Nat.le_refl _) ?_
  obtain ⟨j2, ej2, uj2⟩ := id g0_0
  subst ej2
  show V g κ 4 0 0 (t, cW g X0 F σ0) 11 [(0, .ref (X0 + 0)), (1, .int (nI (j2))), (2, .int (a2))] []
  refine V_iload_n X dX5_pause_11 2 rfl ?_
  refine V_iconst (v := nI 0) X dX5_pause_12 (by decide) ?_
  refine V_bipush (v := nI 9) X dX5_pause_13 (by decide) ?_
  refine V_callS (rest := []) X E.room ml_X5_44 st_X5_needWithin (by decide) (by decide) (k_X5_needWithin hG (a2) (0) (9) (by omega) (by omega)) rfl rfl (Nat.le_of_ble_eq_true rfl) ⟨Nat.le_of_ble_eq_true rfl, Nat.le_of_ble_eq_true rfl⟩ dX5_pause_15 (fun Ex σ' h => VX_out X E (Nat.le_of_ble_eq_true rfl) (Nat.le_of_ble_eq_true rfl) ⟨Or.inl (Or.inr ⟨g0_0, Or.inl ⟨h.2.1, h.1⟩⟩), σ'.1, F, Prod.ext rfl h.2.2, cM.rfl'⟩) (fun v9 σ' hp9 => ?_)
  obtain ⟨⟨rfl, g1_2⟩, rfl⟩ := hp9
  refine V.shrink B 0 0 (Nat.le_refl _) (Nat.le_refl _) ?_
  obtain ⟨j4, ej4, lj4, uj4⟩ := id g1_2
  subst ej4
  show V g κ 4 0 0 (t, cW g X0 F σ0) 18 [(0, .ref (X0 + 0)), (1, .int (nI (j2))), (2, .int (nI (j4)))] []
  refine V_aload_n X dX5_pause_18 0 rfl ?_
  refine C_getf X fl_X5_26 0 (by decide) rfl rfl dX5_pause_19 ?_
  refine V_callV (rest := []) X E.room ml_X5_56 in_X0_forget (ci := 4) rfl se_X0_forget (C_recv (q := 12) (by decide) rfl) (by decide) (by decide) (k_X0_forget hX hI) rfl rfl (Nat.le_of_ble_eq_true rfl) ⟨Nat.le_of_ble_eq_true rfl, Nat.le_of_ble_eq_true rfl⟩ dX5_pause_22 (fun _ _ h => False.elim h) (fun v22 σ' hp22 => ?_)
  obtain ⟨hp22, rfl⟩ := hp22
  have hI0 : cI nP nS nA nC nT (fset F 12 3 (nI 0)) := hI.st rfl rfl
  cases (hp22 : _ = none)
  show V g κ 4 0 0 (t, cW g X0 (fset F 12 3 (nI 0)) σ0) 25 [(0, .ref (X0 + 0)), (1, .int (nI (j2))), (2, .int (nI (j4)))] []
  refine V_aload_n X dX5_pause_25 0 rfl ?_
  refine C_getf X fl_X5_10 0 (by decide) rfl rfl dX5_pause_26 ?_
  refine C_getf X fl_X5_82 1 (by decide) rfl rfl dX5_pause_29 ?_
  refine V_iload_n X dX5_pause_32 1 rfl ?_
  refine C_iald X (N := 6) 6 (by decide) (j2) rfl (by omega) (by decide) rfl dX5_pause_33 ?_
  refine V.topi (fun x5 ex5 => ?_)
  refine V_istore_n X [(3, .int (x5)), (0, .ref (X0 + 0)), (1, .int (nI (j2))), (2, .int (nI (j4)))] dX5_pause_34 (by decide) rfl ?_
  refine V_aload_n X dX5_pause_35 1 rfl ?_
  refine C_getf X fl_X5_10 0 (by decide) rfl rfl dX5_pause_36 ?_
  refine C_getf X fl_X5_82 1 (by decide) rfl rfl dX5_pause_39 ?_
  refine V_iload_n X dX5_pause_42 2 rfl ?_
  refine V_iload_n X dX5_pause_43 3 rfl ?_
  refine C_iast X (N := 6) 6 (by decide) hX (j2) rfl (by omega) (by decide) (fun _ => rfl) dX5_pause_44 (fun F6 hF6 => ?_)
  have hJF6 : cM (fset (fset F 12 3 (nI 0)) 6 (j2) (nI (j4))) F6 := by rw [hF6]; exact cM.rfl'
  refine V_iload_n X dX5_pause_45 0 rfl ?_
  exact V_iret X E (Nat.zero_le _) (Nat.zero_le _) ⟨_, rfl, by omega, g1_2, congrArg (fun z => some (Value.int z)) (ex5.trans (fset_ne (Or.inl (by decide)))), _, rfl, hJF6⟩ dX5_pause_46
set_option maxRecDepth 100000 in
set_option maxHeartbeats 4000000 in
theorem k_X5_sick {g : zG} {t : Nat × Nat} {X0 : Nat} {σ0 : Nat → Option va_E} {F : Nat → Nat → Int32} (hX : g.2.1.size ≤ X0) {nP nS nA nC nT : Nat} (hI : cI nP nS nA nC nT F) (hG : g.1.stackTraces = false)  (a1 : Int32) (a2 : Int32) (hB : cBd nP nS nA F) (hC : cK F) : Ct g 12 yX5_sick cX5_sick 3 (some FieldType.int) 1 6 [.ref (X0 + 0), .int (a1), .int (a2)] (t, cW g X0 F σ0) (fun v σ' => ∃ p : Nat, a1 = nI p ∧ p < nA ∧ ∃ F' : Nat → Nat → Int32, σ' = (t, cW g X0 F' σ0) ∧ v = some (.int (nI nA - zbc (F' 7 5))) ∧ cM (fset (fset F 12 3 (nI 0)) 7 5 (zsk (F 7 5) p a2)) F') (zXP [(zlt nA a1, RIOB)] zF0 g X0 F σ0) := by
  refine Ct.of (lv := [(0, .ref (X0 + 0)), (1, .int (a1)), (2, .int (a2))]) (by decide) (Nat.le_of_ble_eq_true rfl) rfl ?_
  intro κ X E B _
  have X : zX g κ RX5 cX5_sick 3 := X
  obtain ⟨b1, b2, b3, b4, b5⟩ := hI.bnd
  refine V_iload_n X dX5_sick_0 1 rfl ?_
  refine V_aload_n X dX5_sick_1 0 rfl ?_
  refine C_getf X fl_X5_19 0 (by decide) rfl rfl dX5_sick_2 ?_
  refine C_getfN (z := nI (nA)) X fl_X5_66 7 (by decide) rfl rfl hI.f7_4 dX5_sick_5 ?_
  refine V_callS (rest := []) X E.room ml_X5_79 st_X5_needIndex (by decide) (by decide) (k_X5_needIndex hG (a1) (nA) (by omega)) rfl rfl (Nat.le_of_ble_eq_true rfl) ⟨Nat.le_of_ble_eq_true rfl, Nat.le_of_ble_eq_true rfl⟩ dX5_sick_8 (fun Ex σ' h => VX_out X E (Nat.le_of_ble_eq_true rfl) (Nat.le_of_ble_eq_true rfl) ⟨Or.inl (Or.inl ⟨h.2.1, h.1⟩), σ'.1, F, Prod.ext rfl h.2.2, cM.rfl'⟩) (fun v9 σ' hp9 => ?_)
  obtain ⟨⟨rfl, g0_0⟩, rfl⟩ := hp9
  refine V.shrink B 0 0 (Nat.le_refl _) (Nat.le_refl _) ?_
  obtain ⟨j2, ej2, uj2⟩ := id g0_0
  subst ej2
  show V g κ 3 0 0 (t, cW g X0 F σ0) 11 [(0, .ref (X0 + 0)), (1, .int (nI (j2))), (2, .int (a2))] []
  refine V_aload_n X dX5_sick_11 0 rfl ?_
  refine C_getf X fl_X5_26 0 (by decide) rfl rfl dX5_sick_12 ?_
  refine V_callV (rest := []) X E.room ml_X5_56 in_X0_forget (ci := 4) rfl se_X0_forget (C_recv (q := 12) (by decide) rfl) (by decide) (by decide) (k_X0_forget hX hI) rfl rfl (Nat.le_of_ble_eq_true rfl) ⟨Nat.le_of_ble_eq_true rfl, Nat.le_of_ble_eq_true rfl⟩ dX5_sick_15 (fun _ _ h => False.elim h) (fun v15 σ' hp15 => ?_)
  obtain ⟨hp15, rfl⟩ := hp15
  have hI0 : cI nP nS nA nC nT (fset F 12 3 (nI 0)) := hI.st rfl rfl
  cases (hp15 : _ = none)
  show V g κ 3 0 0 (t, cW g X0 (fset F 12 3 (nI 0)) σ0) 18 [(0, .ref (X0 + 0)), (1, .int (nI (j2))), (2, .int (a2))] []
  refine V_aload_n X dX5_sick_18 0 rfl ?_
  refine C_getf X fl_X5_19 0 (by decide) rfl rfl dX5_sick_19 ?_
  refine V_iload_n X dX5_sick_22 2 rfl ?_
  refine V_ifeq X (tgt := 40) dX5_sick_23 (by decide) (fun h3 => ?_) (fun h3 => ?_)
  · -- 23 true
    refine V_aload_n X dX5_sick_40 0 rfl ?_
    refine C_getf X fl_X5_19 0 (by decide) rfl rfl dX5_sick_41 ?_
    refine C_getf X fl_X5_86 7 (by decide) rfl rfl dX5_sick_44 (V.topi (fun x4 ex4 => ?_))
    refine V_iconst (v := nI 1) X dX5_sick_47 (by decide) ?_
    refine V_iload_n X dX5_sick_48 1 rfl ?_
    refine V_ishl1 X (by omega) dX5_sick_49 ?_
    refine V_iconst (v := (-1)) X dX5_sick_50 (by decide) ?_
    refine V_ixor X dX5_sick_51 (V.topi (fun w5 ew5 => ?_))
    refine V_iand X dX5_sick_52 (V.topi (fun w6 ew6 => ?_))
    refine C_putf X fl_X5_86 zt_X1 7 (by decide) hX rfl (Nat.le_of_ble_eq_true rfl) rfl rfl rfl rfl rfl dX5_sick_53 (fun F7 hF7 => ?_)
    have hZF7 : cM (fset (fset F 12 3 (nI 0)) 7 5 (zsk (F 7 5) j2 a2)) F7 := by
      rw [hF7, show zsk (F 7 5) j2 a2 = w6 by rw [← (fset_ne (F := F) (k := 12) (j := 3) (x := nI 0) (k' := 7) (j' := 5) (Or.inl (by decide)))]; unfold zsk; rw [if_pos (by assumption)]; subst_vars; rfl]; exact cM.rfl'
    have hIF7 := hI0.st hF7 rfl
    refine V_aload_n X dX5_sick_56 0 rfl ?_
    refine C_getf X fl_X5_19 0 (by decide) rfl rfl dX5_sick_57 ?_
    refine V_callV (rest := []) X E.room ml_X5_89 in_X1_countWell (ci := 5) rfl se_X1_countWell (C_recv (q := 7) (by decide) rfl) (by decide) (by decide) (k_X1_countWell hX hIF7) rfl rfl (Nat.le_of_ble_eq_true rfl) ⟨Nat.le_of_ble_eq_true rfl, Nat.le_of_ble_eq_true rfl⟩ dX5_sick_60 (fun _ _ h => False.elim h) (fun v60 σ' hp60 => ?_)
    obtain ⟨hp60, rfl⟩ := hp60
    cases (hp60 : _ = some (Value.int (nI nA - zbc (F7 7 5))))
    show V g κ 3 0 0 (t, cW g X0 F7 σ0) 63 [(0, .ref (X0 + 0)), (1, .int (nI (j2))), (2, .int (a2))] [.int (nI nA - zbc (F7 7 5))]
    exact V_iret X E (Nat.zero_le _) (Nat.zero_le _) ⟨_, rfl, by omega, _, rfl, rfl, hZF7⟩ dX5_sick_63
  · -- 23 false
    refine V_aload_n X dX5_sick_26 0 rfl ?_
    refine C_getf X fl_X5_19 0 (by decide) rfl rfl dX5_sick_27 ?_
    refine C_getf X fl_X5_86 7 (by decide) rfl rfl dX5_sick_30 (V.topi (fun x8 ex8 => ?_))
    refine V_iconst (v := nI 1) X dX5_sick_33 (by decide) ?_
    refine V_iload_n X dX5_sick_34 1 rfl ?_
    refine V_ishl1 X (by omega) dX5_sick_35 ?_
    refine V_ior X dX5_sick_36 (V.topi (fun w9 ew9 => ?_))
    refine V_goto (tgt := 53) X dX5_sick_37 (by decide) ?_
    refine C_putf X fl_X5_86 zt_X1 7 (by decide) hX rfl (Nat.le_of_ble_eq_true rfl) rfl rfl rfl rfl rfl dX5_sick_53 (fun F10 hF10 => ?_)
    have hZF10 : cM (fset (fset F 12 3 (nI 0)) 7 5 (zsk (F 7 5) j2 a2)) F10 := by
      rw [hF10, show zsk (F 7 5) j2 a2 = w9 by rw [← (fset_ne (F := F) (k := 12) (j := 3) (x := nI 0) (k' := 7) (j' := 5) (Or.inl (by decide)))]; unfold zsk; rw [if_neg (by assumption)]; subst_vars; rfl]; exact cM.rfl'
    have hIF10 := hI0.st hF10 rfl
    refine V_aload_n X dX5_sick_56 0 rfl ?_
    refine C_getf X fl_X5_19 0 (by decide) rfl rfl dX5_sick_57 ?_
    refine V_callV (rest := []) X E.room ml_X5_89 in_X1_countWell (ci := 5) rfl se_X1_countWell (C_recv (q := 7) (by decide) rfl) (by decide) (by decide) (k_X1_countWell hX hIF10) rfl rfl (Nat.le_of_ble_eq_true rfl) ⟨Nat.le_of_ble_eq_true rfl, Nat.le_of_ble_eq_true rfl⟩ dX5_sick_60 (fun _ _ h => False.elim h) (fun v60 σ' hp60 => ?_)
    obtain ⟨hp60, rfl⟩ := hp60
    cases (hp60 : _ = some (Value.int (nI nA - zbc (F10 7 5))))
    show V g κ 3 0 0 (t, cW g X0 F10 σ0) 63 [(0, .ref (X0 + 0)), (1, .int (nI (j2))), (2, .int (a2))] [.int (nI nA - zbc (F10 7 5))]
    exact V_iret X E (Nat.zero_le _) (Nat.zero_le _) ⟨_, rfl, by omega, _, rfl, rfl, hZF10⟩ dX5_sick_63
set_option maxRecDepth 100000 in
set_option maxHeartbeats 4000000 in
theorem k_X5_pawn {g : zG} {t : Nat × Nat} {X0 : Nat} {σ0 : Nat → Option va_E} {F : Nat → Nat → Int32} (hX : g.2.1.size ≤ X0) {nP nS nA nC nT : Nat} (hI : cI nP nS nA nC nT F) (hG : g.1.stackTraces = false)  (a1 : Int32) (a2 : Int32) (hB : cBd nP nS nA F) (hC : cK F) : Ct g 11 yX5_pawn cX5_pawn 3 (some FieldType.int) 1 6 [.ref (X0 + 0), .int (a1), .int (a2)] (t, cW g X0 F σ0) (fun v σ' => ∃ c p : Nat, a1 = nI c ∧ c < nC ∧ a2 = nI p ∧ p < nA ∧ ¬ zIn (F 18 4) a1 ∧ v = some (.int (F 11 p + F 21 c)) ∧ σ' = (t, cW g X0 (cPw F c p) σ0)) (zXP [(zlt nC a1, RIOB), (zlt nA a2, RIOB), (¬ zIn (F 18 4) a1, RISE)] zF0 g X0 F σ0) := by
  refine Ct.of (lv := [(0, .ref (X0 + 0)), (1, .int (a1)), (2, .int (a2))]) (by decide) (Nat.le_of_ble_eq_true rfl) rfl ?_
  intro κ X E B _
  have X : zX g κ RX5 cX5_pawn 3 := X
  obtain ⟨b1, b2, b3, b4, b5⟩ := hI.bnd
  refine V_iload_n X dX5_pawn_0 1 rfl ?_
  refine V_aload_n X dX5_pawn_1 0 rfl ?_
  refine C_getf X fl_X5_33 0 (by decide) rfl rfl dX5_pawn_2 ?_
  refine C_getfN (z := nI (nC)) X fl_X5_93 18 (by decide) rfl rfl hI.f18_3 dX5_pawn_5 ?_
  refine V_callS (rest := []) X E.room ml_X5_79 st_X5_needIndex (by decide) (by decide) (k_X5_needIndex hG (a1) (nC) (by omega)) rfl rfl (Nat.le_of_ble_eq_true rfl) ⟨Nat.le_of_ble_eq_true rfl, Nat.le_of_ble_eq_true rfl⟩ dX5_pawn_8 (fun Ex σ' h => VX_out X E (Nat.le_of_ble_eq_true rfl) (Nat.le_of_ble_eq_true rfl) ⟨Or.inl (Or.inl ⟨h.2.1, h.1⟩), σ'.1, F, Prod.ext rfl h.2.2, cM.rfl'⟩) (fun v9 σ' hp9 => ?_)
  obtain ⟨⟨rfl, g0_0⟩, rfl⟩ := hp9
  refine V.shrink B 0 0 (Nat.le_refl _) (Nat.le_refl _) ?_
  obtain ⟨j2, ej2, uj2⟩ := id g0_0
  subst ej2
  show V g κ 3 0 0 (t, cW g X0 F σ0) 11 [(0, .ref (X0 + 0)), (1, .int (nI (j2))), (2, .int (a2))] []
  refine V_iload_n X dX5_pawn_11 2 rfl ?_
  refine V_aload_n X dX5_pawn_12 0 rfl ?_
  refine C_getf X fl_X5_19 0 (by decide) rfl rfl dX5_pawn_13 ?_
  refine C_getfN (z := nI (nA)) X fl_X5_66 7 (by decide) rfl rfl hI.f7_4 dX5_pawn_16 ?_
  refine V_callS (rest := []) X E.room ml_X5_79 st_X5_needIndex (by decide) (by decide) (k_X5_needIndex hG (a2) (nA) (by omega)) rfl rfl (Nat.le_of_ble_eq_true rfl) ⟨Nat.le_of_ble_eq_true rfl, Nat.le_of_ble_eq_true rfl⟩ dX5_pawn_19 (fun Ex σ' h => VX_out X E (Nat.le_of_ble_eq_true rfl) (Nat.le_of_ble_eq_true rfl) ⟨Or.inl (Or.inr ⟨g0_0, Or.inl ⟨h.2.1, h.1⟩⟩), σ'.1, F, Prod.ext rfl h.2.2, cM.rfl'⟩) (fun v9 σ' hp9 => ?_)
  obtain ⟨⟨rfl, g1_2⟩, rfl⟩ := hp9
  refine V.shrink B 0 0 (Nat.le_refl _) (Nat.le_refl _) ?_
  obtain ⟨j4, ej4, uj4⟩ := id g1_2
  subst ej4
  show V g κ 3 0 0 (t, cW g X0 F σ0) 22 [(0, .ref (X0 + 0)), (1, .int (nI (j2))), (2, .int (nI (j4)))] []
  refine V_aload_n X dX5_pawn_22 0 rfl ?_
  refine C_getf X fl_X5_33 0 (by decide) rfl rfl dX5_pawn_23 ?_
  refine C_getf X fl_X5_99 18 (by decide) rfl rfl dX5_pawn_26 (V.topi (fun x5 ex5 => ?_))
  refine V_iload_n X dX5_pawn_29 1 rfl ?_
  refine V_callS (rest := []) X E.room ml_X5_102 st_X5_has (by omega) (by decide) (k_X5_has (σ := (t, cW g X0 F σ0)) (x5) (nI (j2))) rfl rfl (Nat.le_of_ble_eq_true rfl) ⟨Nat.le_of_ble_eq_true rfl, Nat.le_of_ble_eq_true rfl⟩ dX5_pawn_30 (fun _ _ h => False.elim h) (fun v30 σ' hp30 => ?_)
  obtain ⟨hp30, rfl⟩ := hp30
  obtain ⟨r6, rfl, hr6, fr6⟩ := hp30
  show V g κ 3 0 0 (t, cW g X0 F σ0) 33 [(0, .ref (X0 + 0)), (1, .int (nI (j2))), (2, .int (nI (j4)))] [.int (r6)]
  refine V_ifeq X (tgt := 46) dX5_pawn_33 (by decide) (fun h7 => ?_) (fun h7 => ?_)
  · -- 33 true
    have zh7 := mt fr6.mpr (not_not_intro h7)
    refine V_aload_n X dX5_pawn_46 0 rfl ?_
    refine C_getf X fl_X5_33 0 (by decide) rfl rfl dX5_pawn_47 ?_
    refine V_dup X dX5_pawn_50 rfl ?_
    refine C_getf X fl_X5_99 18 (by decide) rfl rfl dX5_pawn_51 (V.topi (fun x8 ex8 => ?_))
    refine V_iconst (v := nI 1) X dX5_pawn_54 (by decide) ?_
    refine V_iload_n X dX5_pawn_55 1 rfl ?_
    refine V_ishl1 X (by omega) dX5_pawn_56 ?_
    refine V_ior X dX5_pawn_57 (V.topi (fun w9 ew9 => ?_))
    refine C_putf X fl_X5_99 zt_X4 18 (by decide) hX rfl (Nat.le_of_ble_eq_true rfl) rfl rfl rfl rfl rfl dX5_pawn_58 (fun F10 hF10 => ?_)
    have hIF10 := hI.st hF10 rfl
    refine V_aload_n X dX5_pawn_61 0 rfl ?_
    refine V_dup X dX5_pawn_62 rfl ?_
    refine C_getf X fl_X5_113 0 (by decide) rfl rfl dX5_pawn_63 (V.topi (fun x11 ex11 => ?_))
    refine V_aload_n X dX5_pawn_66 0 rfl ?_
    refine C_getf X fl_X5_33 0 (by decide) rfl rfl dX5_pawn_67 ?_
    refine C_getf X fl_X5_116 18 (by decide) rfl rfl dX5_pawn_70 ?_
    refine V_iload_n X dX5_pawn_73 1 rfl ?_
    refine C_iald X (N := 6) 21 (by decide) (j2) rfl (by omega) (by decide) rfl dX5_pawn_74 ?_
    refine V.topi (fun x12 ex12 => ?_)
    refine V_iadd X dX5_pawn_75 (V.topi (fun w13 ew13 => ?_))
    refine C_putf X fl_X5_113 zt_X5 0 (by decide) hX rfl (Nat.le_of_ble_eq_true rfl) rfl rfl rfl rfl rfl dX5_pawn_76 (fun F14 hF14 => ?_)
    have hIF14 := hIF10.st hF14 rfl
    refine V_aload_n X dX5_pawn_79 0 rfl ?_
    refine C_getf X fl_X5_19 0 (by decide) rfl rfl dX5_pawn_80 ?_
    refine C_getf X fl_X5_119 7 (by decide) rfl rfl dX5_pawn_83 ?_
    refine V_iload_n X dX5_pawn_86 2 rfl ?_
    refine V_dup2 X dX5_pawn_87 rfl rfl ?_
    refine C_iald X (N := 5) 11 (by decide) (j4) rfl (by omega) (by decide) rfl dX5_pawn_88 ?_
    refine V.topi (fun x15 ex15 => ?_)
    refine V_aload_n X dX5_pawn_89 0 rfl ?_
    refine C_getf X fl_X5_33 0 (by decide) rfl rfl dX5_pawn_90 ?_
    refine C_getf X fl_X5_116 18 (by decide) rfl rfl dX5_pawn_93 ?_
    refine V_iload_n X dX5_pawn_96 1 rfl ?_
    refine C_iald X (N := 6) 21 (by decide) (j2) rfl (by omega) (by decide) rfl dX5_pawn_97 ?_
    refine V.topi (fun x16 ex16 => ?_)
    refine V_iadd X dX5_pawn_98 (V.topi (fun w17 ew17 => ?_))
    refine C_iast X (N := 5) 11 (by decide) hX (j4) rfl (by omega) (by decide) (fun _ => rfl) dX5_pawn_99 (fun F18 hF18 => ?_)
    have hIF18 := hIF14.st hF18 rfl
    refine V_aload_n X dX5_pawn_100 0 rfl ?_
    refine C_getf X fl_X5_19 0 (by decide) rfl rfl dX5_pawn_101 ?_
    refine C_getf X fl_X5_119 7 (by decide) rfl rfl dX5_pawn_104 ?_
    refine V_iload_n X dX5_pawn_107 2 rfl ?_
    refine C_iald X (N := 5) 11 (by decide) (j4) rfl (by omega) (by decide) rfl dX5_pawn_108 ?_
    refine V.topi (fun x19 ex19 => ?_)
    have hst : F18 = cPw F (j2) (j4) := by subst_vars; rfl
    have hvx : x19 = F 11 (j4) + F 21 (j2) := by rw [ex19, hst]; unfold cPw; rw [fset_eq]
    exact V_iret X E (Nat.zero_le _) (Nat.zero_le _) ⟨_, _, rfl, by omega, rfl, by omega, (by rw [← ex5]; exact zh7), by rw [hvx], by rw [hst]⟩ dX5_pawn_109
  · -- 33 false
    have zh7 := fr6.mp h7
    exact V_throwS X E hG (text := "the coat is pawned") (names := zSup) (by decide +kernel) zSup_fit tw_ISE to_ISE (zStrOf X ("Doublecoat", 108, "the coat is pawned") (by decide)) dX5_pawn_36 dX5_pawn_39 dX5_pawn_40 dX5_pawn_42 dX5_pawn_45 (Nat.le_of_ble_eq_true rfl) (Nat.le_of_ble_eq_true rfl) (Nat.le_of_ble_eq_true rfl) (Nat.le_refl _) (Nat.le_refl _) (fun z => ⟨Or.inl (Or.inr ⟨g0_0, Or.inr ⟨g1_2, Or.inl ⟨fun y => y (by rw [← ex5]; exact zh7), rfl⟩⟩⟩), z, F, rfl, cM.rfl'⟩)
set_option maxRecDepth 100000 in
set_option maxHeartbeats 4000000 in
theorem k_X5_redeem {g : zG} {t : Nat × Nat} {X0 : Nat} {σ0 : Nat → Option va_E} {F : Nat → Nat → Int32} (hX : g.2.1.size ≤ X0) {nP nS nA nC nT : Nat} (hI : cI nP nS nA nC nT F) (hG : g.1.stackTraces = false)  (a1 : Int32) (a2 : Int32) (hB : cBd nP nS nA F) (hC : cK F) : Ct g 11 yX5_redeem cX5_redeem 4 (some FieldType.int) 1 6 [.ref (X0 + 0), .int (a1), .int (a2)] (t, cW g X0 F σ0) (fun v σ' => ∃ c p : Nat, a1 = nI c ∧ c < nC ∧ a2 = nI p ∧ p < nA ∧ zRd F a1 a2 ∧ v = some (.int (F 11 p - zCo F c)) ∧ σ' = (t, cW g X0 (cRd F c p) σ0)) (zXP [(zlt nC a1, RIOB), (zlt nA a2, RIOB), (zRd F a1 a2, RISE)] zF0 g X0 F σ0) := by
  refine Ct.of (lv := [(0, .ref (X0 + 0)), (1, .int (a1)), (2, .int (a2))]) (by decide) (Nat.le_of_ble_eq_true rfl) rfl ?_
  intro κ X E B _
  have X : zX g κ RX5 cX5_redeem 4 := X
  obtain ⟨b1, b2, b3, b4, b5⟩ := hI.bnd
  refine V_iload_n X dX5_redeem_0 1 rfl ?_
  refine V_aload_n X dX5_redeem_1 0 rfl ?_
  refine C_getf X fl_X5_33 0 (by decide) rfl rfl dX5_redeem_2 ?_
  refine C_getfN (z := nI (nC)) X fl_X5_93 18 (by decide) rfl rfl hI.f18_3 dX5_redeem_5 ?_
  refine V_callS (rest := []) X E.room ml_X5_79 st_X5_needIndex (by decide) (by decide) (k_X5_needIndex hG (a1) (nC) (by omega)) rfl rfl (Nat.le_of_ble_eq_true rfl) ⟨Nat.le_of_ble_eq_true rfl, Nat.le_of_ble_eq_true rfl⟩ dX5_redeem_8 (fun Ex σ' h => VX_out X E (Nat.le_of_ble_eq_true rfl) (Nat.le_of_ble_eq_true rfl) ⟨Or.inl (Or.inl ⟨h.2.1, h.1⟩), σ'.1, F, Prod.ext rfl h.2.2, cM.rfl'⟩) (fun v9 σ' hp9 => ?_)
  obtain ⟨⟨rfl, g0_0⟩, rfl⟩ := hp9
  refine V.shrink B 0 0 (Nat.le_refl _) (Nat.le_refl _) ?_
  obtain ⟨j2, ej2, uj2⟩ := id g0_0
  subst ej2
  show V g κ 4 0 0 (t, cW g X0 F σ0) 11 [(0, .ref (X0 + 0)), (1, .int (nI (j2))), (2, .int (a2))] []
  refine V_iload_n X dX5_redeem_11 2 rfl ?_
  refine V_aload_n X dX5_redeem_12 0 rfl ?_
  refine C_getf X fl_X5_19 0 (by decide) rfl rfl dX5_redeem_13 ?_
  refine C_getfN (z := nI (nA)) X fl_X5_66 7 (by decide) rfl rfl hI.f7_4 dX5_redeem_16 ?_
  refine V_callS (rest := []) X E.room ml_X5_79 st_X5_needIndex (by decide) (by decide) (k_X5_needIndex hG (a2) (nA) (by omega)) rfl rfl (Nat.le_of_ble_eq_true rfl) ⟨Nat.le_of_ble_eq_true rfl, Nat.le_of_ble_eq_true rfl⟩ dX5_redeem_19 (fun Ex σ' h => VX_out X E (Nat.le_of_ble_eq_true rfl) (Nat.le_of_ble_eq_true rfl) ⟨Or.inl (Or.inr ⟨g0_0, Or.inl ⟨h.2.1, h.1⟩⟩), σ'.1, F, Prod.ext rfl h.2.2, cM.rfl'⟩) (fun v9 σ' hp9 => ?_)
  obtain ⟨⟨rfl, g1_2⟩, rfl⟩ := hp9
  refine V.shrink B 0 0 (Nat.le_refl _) (Nat.le_refl _) ?_
  obtain ⟨j4, ej4, uj4⟩ := id g1_2
  subst ej4
  show V g κ 4 0 0 (t, cW g X0 F σ0) 22 [(0, .ref (X0 + 0)), (1, .int (nI (j2))), (2, .int (nI (j4)))] []
  refine V_aload_n X dX5_redeem_22 0 rfl ?_
  refine C_getf X fl_X5_33 0 (by decide) rfl rfl dX5_redeem_23 ?_
  refine C_getf X fl_X5_116 18 (by decide) rfl rfl dX5_redeem_26 ?_
  refine V_iload_n X dX5_redeem_29 1 rfl ?_
  refine C_iald X (N := 6) 21 (by decide) (j2) rfl (by omega) (by decide) rfl dX5_redeem_30 ?_
  refine V.topi (fun x5 ex5 => ?_)
  refine V_aload_n X dX5_redeem_31 0 rfl ?_
  refine C_getf X fl_X5_33 0 (by decide) rfl rfl dX5_redeem_32 ?_
  refine C_getf X fl_X5_116 18 (by decide) rfl rfl dX5_redeem_35 ?_
  refine V_iload_n X dX5_redeem_38 1 rfl ?_
  refine C_iald X (N := 6) 21 (by decide) (j2) rfl (by omega) (by decide) rfl dX5_redeem_39 ?_
  refine V.topi (fun x6 ex6 => ?_)
  refine V_bipush (v := nI 10) X dX5_redeem_40 (by decide) ?_
  refine V_idiv X (by decide) dX5_redeem_42 (V.topi (fun w7 ew7 => ?_))
  refine V_iadd X dX5_redeem_43 (V.topi (fun w8 ew8 => ?_))
  refine V_istore_n X [(3, .int (w8)), (0, .ref (X0 + 0)), (1, .int (nI (j2))), (2, .int (nI (j4)))] dX5_redeem_44 (by decide) rfl ?_
  have hco : w8 = zCo F (j2) := by rw [ew8, ex5, ew7, ex6]; rfl
  refine V_aload_n X dX5_redeem_45 1 rfl ?_
  refine C_getf X fl_X5_33 0 (by decide) rfl rfl dX5_redeem_46 ?_
  refine C_getf X fl_X5_99 18 (by decide) rfl rfl dX5_redeem_49 (V.topi (fun x9 ex9 => ?_))
  refine V_iload_n X dX5_redeem_52 2 rfl ?_
  refine V_callS (rest := []) X E.room ml_X5_102 st_X5_has (by omega) (by decide) (k_X5_has (σ := (t, cW g X0 F σ0)) (x9) (nI (j2))) rfl rfl (Nat.le_of_ble_eq_true rfl) ⟨Nat.le_of_ble_eq_true rfl, Nat.le_of_ble_eq_true rfl⟩ dX5_redeem_53 (fun _ _ h => False.elim h) (fun v53 σ' hp53 => ?_)
  obtain ⟨hp53, rfl⟩ := hp53
  obtain ⟨r10, rfl, hr10, fr10⟩ := hp53
  show V g κ 4 0 0 (t, cW g X0 F σ0) 56 [(3, .int (w8)), (0, .ref (X0 + 0)), (1, .int (nI (j2))), (2, .int (nI (j4)))] [.int (r10)]
  refine V_ifeq X (tgt := 72) dX5_redeem_56 (by decide) (fun h11 => ?_) (fun h11 => ?_)
  · -- 56 true
    have zh11 := mt fr10.mpr (not_not_intro h11)
    exact V_throwS X E hG (text := "the coat is not pawned, or the purse has not so much") (names := zSup) (by decide +kernel) zSup_fit tw_ISE to_ISE (zStrOf X ("Doublecoat", 122, "the coat is not pawned, or the purse has not so much") (by decide)) dX5_redeem_72 dX5_redeem_75 dX5_redeem_76 dX5_redeem_78 dX5_redeem_81 (Nat.le_of_ble_eq_true rfl) (Nat.le_of_ble_eq_true rfl) (Nat.le_of_ble_eq_true rfl) (Nat.le_refl _) (Nat.le_refl _) (fun z => ⟨Or.inl (Or.inr ⟨g0_0, Or.inr ⟨g1_2, Or.inl ⟨fun ⟨c9, p9, hc9, hp9, e9, f9, z9, l9⟩ => by obtain rfl : j2 = c9 := (nI_eq (by omega) (by omega)).mp e9; obtain rfl : j4 = p9 := (nI_eq (by omega) (by omega)).mp f9; exact zh11 (by rw [ex9]; exact z9), rfl⟩⟩⟩), z, F, rfl, cM.rfl'⟩)
  · -- 56 false
    have zh11 := fr10.mp h11
    refine V_aload_n X dX5_redeem_59 1 rfl ?_
    refine C_getf X fl_X5_19 0 (by decide) rfl rfl dX5_redeem_60 ?_
    refine C_getf X fl_X5_119 7 (by decide) rfl rfl dX5_redeem_63 ?_
    refine V_iload_n X dX5_redeem_66 3 rfl ?_
    refine C_iald X (N := 5) 11 (by decide) (j4) rfl (by omega) (by decide) rfl dX5_redeem_67 ?_
    refine V.topi (fun x12 ex12 => ?_)
    refine V_iload_n X dX5_redeem_68 0 rfl ?_
    refine V_icmpge X (tgt := 82) dX5_redeem_69 (by decide) (fun h13 => ?_) (fun h13 => ?_)
    · -- 69 true
      refine V_aload_n X dX5_redeem_82 1 rfl ?_
      refine C_getf X fl_X5_33 0 (by decide) rfl rfl dX5_redeem_83 ?_
      refine V_dup X dX5_redeem_86 rfl ?_
      refine C_getf X fl_X5_99 18 (by decide) rfl rfl dX5_redeem_87 (V.topi (fun x14 ex14 => ?_))
      refine V_iconst (v := nI 1) X dX5_redeem_90 (by decide) ?_
      refine V_iload_n X dX5_redeem_91 2 rfl ?_
      refine V_ishl1 X (by omega) dX5_redeem_92 ?_
      refine V_iconst (v := (-1)) X dX5_redeem_93 (by decide) ?_
      refine V_ixor X dX5_redeem_94 (V.topi (fun w15 ew15 => ?_))
      refine V_iand X dX5_redeem_95 (V.topi (fun w16 ew16 => ?_))
      refine C_putf X fl_X5_99 zt_X4 18 (by decide) hX rfl (Nat.le_of_ble_eq_true rfl) rfl rfl rfl rfl rfl dX5_redeem_96 (fun F17 hF17 => ?_)
      have hIF17 := hI.st hF17 rfl
      refine V_aload_n X dX5_redeem_99 1 rfl ?_
      refine V_dup X dX5_redeem_100 rfl ?_
      refine C_getf X fl_X5_124 0 (by decide) rfl rfl dX5_redeem_101 (V.topi (fun x18 ex18 => ?_))
      refine V_iload_n X dX5_redeem_104 0 rfl ?_
      refine V_iadd X dX5_redeem_105 (V.topi (fun w19 ew19 => ?_))
      refine C_putf X fl_X5_124 zt_X5 0 (by decide) hX rfl (Nat.le_of_ble_eq_true rfl) rfl rfl rfl rfl rfl dX5_redeem_106 (fun F20 hF20 => ?_)
      have hIF20 := hIF17.st hF20 rfl
      refine V_aload_n X dX5_redeem_109 1 rfl ?_
      refine C_getf X fl_X5_19 0 (by decide) rfl rfl dX5_redeem_110 ?_
      refine C_getf X fl_X5_119 7 (by decide) rfl rfl dX5_redeem_113 ?_
      refine V_iload_n X dX5_redeem_116 3 rfl ?_
      refine V_dup2 X dX5_redeem_117 rfl rfl ?_
      refine C_iald X (N := 5) 11 (by decide) (j4) rfl (by omega) (by decide) rfl dX5_redeem_118 ?_
      refine V.topi (fun x21 ex21 => ?_)
      refine V_iload_n X dX5_redeem_119 0 rfl ?_
      refine V_isub X dX5_redeem_120 (V.topi (fun w22 ew22 => ?_))
      refine C_iast X (N := 5) 11 (by decide) hX (j4) rfl (by omega) (by decide) (fun _ => rfl) dX5_redeem_121 (fun F23 hF23 => ?_)
      have hIF23 := hIF20.st hF23 rfl
      refine V_aload_n X dX5_redeem_122 1 rfl ?_
      refine C_getf X fl_X5_19 0 (by decide) rfl rfl dX5_redeem_123 ?_
      refine C_getf X fl_X5_119 7 (by decide) rfl rfl dX5_redeem_126 ?_
      refine V_iload_n X dX5_redeem_129 3 rfl ?_
      refine C_iald X (N := 5) 11 (by decide) (j4) rfl (by omega) (by decide) rfl dX5_redeem_130 ?_
      refine V.topi (fun x24 ex24 => ?_)
      have hst : F23 = cRd F (j2) (j4) := by subst_vars; rfl
      have hvx : x24 = F 11 (j4) - zCo F (j2) := by rw [ex24, hst]; unfold cRd; rw [fset_eq]
      exact V_iret X E (Nat.zero_le _) (Nat.zero_le _) ⟨_, _, rfl, by omega, rfl, by omega, ⟨_, _, by omega, by omega, rfl, rfl, (by rw [← ex9]; exact zh11), (by rw [← hco, ← ex12]; exact h13)⟩, by rw [hvx], by rw [hst]⟩ dX5_redeem_131
    · -- 69 false
      exact V_throwS X E hG (text := "the coat is not pawned, or the purse has not so much") (names := zSup) (by decide +kernel) zSup_fit tw_ISE to_ISE (zStrOf X ("Doublecoat", 122, "the coat is not pawned, or the purse has not so much") (by decide)) dX5_redeem_72 dX5_redeem_75 dX5_redeem_76 dX5_redeem_78 dX5_redeem_81 (Nat.le_of_ble_eq_true rfl) (Nat.le_of_ble_eq_true rfl) (Nat.le_of_ble_eq_true rfl) (Nat.le_refl _) (Nat.le_refl _) (fun z => ⟨Or.inl (Or.inr ⟨g0_0, Or.inr ⟨g1_2, Or.inl ⟨fun ⟨c9, p9, hc9, hp9, e9, f9, z9, l9⟩ => by obtain rfl : j2 = c9 := (nI_eq (by omega) (by omega)).mp e9; obtain rfl : j4 = p9 := (nI_eq (by omega) (by omega)).mp f9; exact h13 (by rw [hco, ex12]; exact l9), rfl⟩⟩⟩), z, F, rfl, cM.rfl'⟩)
set_option maxRecDepth 100000 in
set_option maxHeartbeats 4000000 in
theorem k_X5_night {g : zG} {t : Nat × Nat} {X0 : Nat} {σ0 : Nat → Option va_E} {F : Nat → Nat → Int32} (hX : g.2.1.size ≤ X0) {nP nS nA nC nT : Nat} (hI : cI nP nS nA nC nT F) (hG : g.1.stackTraces = false)  (a1 : Int32) (hB : cBd nP nS nA F) (hC : cK F) : Ct g 22 yX5_night cX5_night 5 (some FieldType.int) 1 6 [.ref (X0 + 0), .int (a1)] (t, cW g X0 F σ0) (fun v σ' => ∃ p : Nat, a1 = nI p ∧ p < nT ∧ zNi nP nS nA F ∧ v = some (.int (F 26 p)) ∧ ∃ F' : Nat → Nat → Int32, σ' = (t, cW g X0 F' σ0) ∧ cNi nP nS nA F p F') (zXP [(zlt nT a1, RIOB), (zNi nP nS nA F, RISE)] zF0 g X0 F σ0) := by
  refine Ct.of (lv := [(0, .ref (X0 + 0)), (1, .int (a1))]) (by decide) (Nat.le_of_ble_eq_true rfl) rfl ?_
  intro κ X E B _
  have X : zX g κ RX5 cX5_night 5 := X
  obtain ⟨b1, b2, b3, b4, b5⟩ := hI.bnd
  refine V_iload_n X dX5_night_0 1 rfl ?_
  refine V_aload_n X dX5_night_1 0 rfl ?_
  refine C_getf X fl_X5_40 0 (by decide) rfl rfl dX5_night_2 ?_
  refine C_getfN (z := nI (nT)) X fl_X5_127 23 (by decide) rfl rfl hI.f23_4 dX5_night_5 ?_
  refine V_callS (rest := []) X E.room ml_X5_79 st_X5_needIndex (by decide) (by decide) (k_X5_needIndex hG (a1) (nT) (by omega)) rfl rfl (Nat.le_of_ble_eq_true rfl) ⟨Nat.le_of_ble_eq_true rfl, Nat.le_of_ble_eq_true rfl⟩ dX5_night_8 (fun Ex σ' h => VX_out X E (Nat.le_of_ble_eq_true rfl) (Nat.le_of_ble_eq_true rfl) ⟨Or.inl (Or.inl ⟨h.2.1, h.1⟩), σ'.1, F, Prod.ext rfl h.2.2, cM.rfl'⟩) (fun v9 σ' hp9 => ?_)
  obtain ⟨⟨rfl, g0_0⟩, rfl⟩ := hp9
  refine V.shrink B 0 0 (Nat.le_refl _) (Nat.le_refl _) ?_
  obtain ⟨j2, ej2, uj2⟩ := id g0_0
  subst ej2
  show V g κ 5 0 0 (t, cW g X0 F σ0) 11 [(0, .ref (X0 + 0)), (1, .int (nI (j2)))] []
  refine V_aload_n X dX5_night_11 0 rfl ?_
  refine C_getf X fl_X5_26 0 (by decide) rfl rfl dX5_night_12 ?_
  refine V_aload_n X dX5_night_15 0 rfl ?_
  refine C_getf X fl_X5_10 0 (by decide) rfl rfl dX5_night_16 ?_
  refine V_aload_n X dX5_night_19 0 rfl ?_
  refine C_getf X fl_X5_19 0 (by decide) rfl rfl dX5_night_20 ?_
  refine V_callV (rest := []) X E.room ml_X5_133 in_X0_recall (ci := 4) rfl se_X0_recall (C_recv (q := 12) (by decide) rfl) (by decide) (by decide) (k_X0_recall hX hI hB) rfl rfl (Nat.le_of_ble_eq_true rfl) ⟨Nat.le_of_ble_eq_true rfl, Nat.le_of_ble_eq_true rfl⟩ dX5_night_23 (fun _ _ h => False.elim h) (fun v23 σ' hp23 => ?_)
  obtain ⟨hp23, F3, rfl, hJF3, hkF3⟩ := hp23
  obtain ⟨hF3b, xF3, yF3, zF3⟩ := cBest_of hC hJF3 hI hkF3
  cases (hp23 : _ = none)
  show V g κ 5 0 0 (t, cW g X0 F3 σ0) 26 [(0, .ref (X0 + 0)), (1, .int (nI (j2)))] []
  refine V_aload_n X dX5_night_26 0 rfl ?_
  refine C_getf X fl_X5_26 0 (by decide) rfl rfl dX5_night_27 ?_
  refine V_callV (rest := []) X E.room ml_X5_137 in_X0_actors (ci := 4) rfl se_X0_actors (C_recv (q := 12) (by decide) rfl) (by decide) (by decide) (k_X0_actors hX (hI.mvM hJF3)) rfl rfl (Nat.le_of_ble_eq_true rfl) ⟨Nat.le_of_ble_eq_true rfl, Nat.le_of_ble_eq_true rfl⟩ dX5_night_30 (fun _ _ h => False.elim h) (fun v30 σ' hp30 => ?_)
  obtain ⟨hp30, rfl⟩ := hp30
  obtain ⟨r4, rfl, fr4⟩ := hp30
  show V g κ 5 0 0 (t, cW g X0 F3 σ0) 33 [(0, .ref (X0 + 0)), (1, .int (nI (j2)))] [.int (r4)]
  refine V_istore_n X [(2, .int (r4)), (0, .ref (X0 + 0)), (1, .int (nI (j2)))] dX5_night_33 (by decide) rfl ?_
  refine V_iload_n X dX5_night_34 0 rfl ?_
  refine V_ifne X (tgt := 48) dX5_night_35 (by decide) (fun h5 => ?_) (fun h5 => ?_)
  · -- 35 true
    have hni : ∃ q, zAc (cDu nS F) (F3 12 1) hF3b q := by
      refine Classical.byContradiction fun z9 => h5 ((zMk_z fr4).mpr fun q hq => z9 ⟨q, (zAc_iff (yF3 q hq.1)).mp hq.2⟩)
    refine V_aload_n X dX5_night_48 1 rfl ?_
    refine C_getf X fl_X5_40 0 (by decide) rfl rfl dX5_night_49 ?_
    refine C_getf X fl_X5_142 23 (by decide) rfl rfl dX5_night_52 ?_
    refine V_iload_n X dX5_night_55 2 rfl ?_
    refine C_iald X (N := 5) 26 (by decide) (j2) rfl (by omega) (by decide) rfl dX5_night_56 ?_
    refine V.topi (fun x6 ex6 => ?_)
    refine V_istore_n X [(3, .int (x6)), (2, .int (r4)), (0, .ref (X0 + 0)), (1, .int (nI (j2)))] dX5_night_57 (by decide) rfl ?_
    have hw1 : cRw scM F F3 := hJF3.1
    have hsh : x6 = F 26 (j2) := ex6.trans (hw1 26 _ (scM_f (by omega)))
    have hpo : ∀ q, q < nA → zPo (F3 10) (fun q => zIn (r4) (nI q)) nA (F 26 (j2)) q = zPo (F 10) (zAc (cDu nS F) (F3 12 1) hF3b) nA (F 26 (j2)) q := fun q hq => zPo_cg hq (fun i _ => hw1 10 i (scM_f (by omega))) (fun i hi => (fr4.In (by omega)).trans ⟨fun z => (zAc_iff (yF3 i (by omega))).mp z.2, fun z => ⟨by omega, (zAc_iff (yF3 i (by omega))).mpr z⟩⟩)
    have hIn : cI nP nS nA nC nT F3 := hI.mvM hJF3
    refine V_iconst (v := nI 0) X dX5_night_58 (by decide) ?_
    refine V_istore X [(4, .int (nI (0))), (3, .int (x6)), (2, .int (r4)), (0, .ref (X0 + 0)), (1, .int (nI (j2)))] dX5_night_59 (by decide) rfl ?_
    have L61 : ∀ (n61 : Nat) (i61 : Nat) (G61 : Nat → Nat → Int32), n61 = nA - i61 → i61 ≤ nA → cRw s11 F3 G61 → (∀ q, q < i61 → G61 11 q = F 11 q + zPo (F 10) (zAc (cDu nS F) (F3 12 1) hF3b) nA (F 26 (j2)) q) → (∀ q, i61 ≤ q → G61 11 q = F 11 q) → V g κ 5 0 0 (t, cW g X0 G61 σ0) 61 [(4, .int (nI (i61))), (3, .int (x6)), (2, .int (r4)), (0, .ref (X0 + 0)), (1, .int (nI (j2)))] [] := by
      intro n61
      induction n61 using Nat.strongRecOn with
      | ind n61 ih61 =>
        intro i61 G61 hn61 hi61 hJ61 hv61_0 hv61_1
        refine V_iload X dX5_night_61 0 rfl ?_
        refine V_aload_n X dX5_night_63 3 rfl ?_
        refine C_getf X fl_X5_19 0 (by decide) rfl rfl dX5_night_64 ?_
        refine C_getfN (z := nI (nA)) X fl_X5_66 7 (by decide) rfl rfl (hIn.mv11 hJ61).f7_4 dX5_night_67 ?_
        refine V_icmpgeN X (by omega) (by omega) (tgt := 103) dX5_night_70 (by decide) (fun h7 => ?_) (fun h7 => ?_)
        · -- 70 true
          refine V_aload_n X dX5_night_103 3 rfl ?_
          refine V_dup X dX5_night_104 rfl ?_
          refine C_getf X fl_X5_113 0 (by decide) rfl rfl dX5_night_105 (V.topi (fun x8 ex8 => ?_))
          refine V_iload_n X dX5_night_108 1 rfl ?_
          refine V_iadd X dX5_night_109 (V.topi (fun w9 ew9 => ?_))
          refine C_putf X fl_X5_113 zt_X5 0 (by decide) hX rfl (Nat.le_of_ble_eq_true rfl) rfl rfl rfl rfl rfl dX5_night_110 (fun F10 hF10 => ?_)
          refine V_aload_n X dX5_night_113 3 rfl ?_
          refine V_dup X dX5_night_114 rfl ?_
          refine C_getf X fl_X5_148 0 (by decide) rfl rfl dX5_night_115 (V.topi (fun x11 ex11 => ?_))
          refine V_iconst (v := nI 1) X dX5_night_118 (by decide) ?_
          refine V_iadd X dX5_night_119 (V.topi (fun w12 ew12 => ?_))
          refine C_putf X fl_X5_148 zt_X5 0 (by decide) hX rfl (Nat.le_of_ble_eq_true rfl) rfl rfl rfl rfl rfl dX5_night_120 (fun F13 hF13 => ?_)
          refine V_aload_n X dX5_night_123 3 rfl ?_
          refine C_getf X fl_X5_40 0 (by decide) rfl rfl dX5_night_124 ?_
          refine C_getf X fl_X5_142 23 (by decide) rfl rfl dX5_night_127 ?_
          refine V_iload_n X dX5_night_130 4 rfl ?_
          refine V_iload_n X dX5_night_131 1 rfl ?_
          refine V_iconst (v := nI 2) X dX5_night_132 (by decide) ?_
          refine V_idiv X (by decide) dX5_night_133 (V.topi (fun w14 ew14 => ?_))
          refine C_iast X (N := 5) 26 (by decide) hX (j2) rfl (by omega) (by decide) (fun _ => rfl) dX5_night_134 (fun F15 hF15 => ?_)
          refine V_iload_n X dX5_night_135 1 rfl ?_
          have hgo : ∀ k j, k ≠ 11 → scM k j = false → G61 k j = F k j := fun k j q1 q2 => (hJ61 k j (by simp [s11, q1])).trans (hw1 k j q2)
          have g5 : G61 0 5 = F 0 5 := hgo 0 5 (by decide) rfl
          have g7 : G61 0 7 = F 0 7 := hgo 0 7 (by decide) rfl
          have hst : F15 = fset (fset (fset G61 0 5 (F 0 5 + F 26 (j2))) 0 7 (F 0 7 + nI 1)) 26 (j2) (F 26 (j2) / nI 2) := by
            rw [← hsh, ← g5, ← g7]
            clear hgo g5 g7 hpo hsh
            subst_vars
            rfl
          exact V_iret X E (Nat.zero_le _) (Nat.zero_le _) ⟨_, rfl, by omega, ⟨_, _, xF3, hni⟩, by rw [hsh], _, rfl, _, _, xF3, F3, G61, hJF3, hJ61, fun q hq => hv61_0 q (by omega), fun q hq => hv61_1 q (by omega), hst⟩ dX5_night_136
        · -- 70 false
          refine V_aload_n X dX5_night_73 3 rfl ?_
          refine C_getf X fl_X5_19 0 (by decide) rfl rfl dX5_night_74 ?_
          refine C_getf X fl_X5_119 7 (by decide) rfl rfl dX5_night_77 ?_
          refine V_iload X dX5_night_80 0 rfl ?_
          refine V_dup2 X dX5_night_82 rfl rfl ?_
          refine C_iald X (N := 5) 11 (by decide) (i61) rfl (by omega) (by decide) rfl dX5_night_83 ?_
          refine V.topi (fun x16 ex16 => ?_)
          refine V_aload_n X dX5_night_84 3 rfl ?_
          refine C_getf X fl_X5_19 0 (by decide) rfl rfl dX5_night_85 ?_
          refine V_iload_n X dX5_night_88 1 rfl ?_
          refine V_iload X dX5_night_89 0 rfl ?_
          refine V_iload_n X dX5_night_91 2 rfl ?_
          refine V_callV (rest := [.int (x16), .int (nI (i61)), .ref (X0 + 11)]) X E.room ml_X5_145 in_X1_portion (ci := 5) rfl se_X1_portion (C_recv (q := 7) (by decide) rfl) (by decide) (by decide) (k_X1_portion hX (hIn.mv11 hJ61) (x6) (i61) (by omega) (r4)) rfl rfl (Nat.le_of_ble_eq_true rfl) ⟨Nat.le_of_ble_eq_true rfl, Nat.le_of_ble_eq_true rfl⟩ dX5_night_92 (fun _ _ h => False.elim h) (fun v92 σ' hp92 => ?_)
          obtain ⟨hp92, rfl⟩ := hp92
          cases (hp92 : _ = some (Value.int (zPo (G61 10) (fun q => zIn (r4) (nI q)) nA (x6) (i61))))
          show V g κ 5 0 0 (t, cW g X0 G61 σ0) 95 [(4, .int (nI (i61))), (3, .int (x6)), (2, .int (r4)), (0, .ref (X0 + 0)), (1, .int (nI (j2)))] [.int (zPo (G61 10) (fun q => zIn (r4) (nI q)) nA (x6) (i61)), .int (x16), .int (nI (i61)), .ref (X0 + 11)]
          refine V_iadd X dX5_night_95 (V.topi (fun w17 ew17 => ?_))
          refine C_iast X (N := 5) 11 (by decide) hX (i61) rfl (by omega) (by decide) (fun _ => rfl) dX5_night_96 (fun F18 hF18 => ?_)
          have hJF18 : cRw s11 F3 F18 := (hJ61 : cRw s11 F3 G61).set hF18 rfl
          have haF18 : ∀ q, q < i61 + 1 → F18 11 q = F 11 q + zPo (F 10) (zAc (cDu nS F) (F3 12 1) hF3b) nA (F 26 (j2)) q := fun q hq => by
            by_cases e : q = i61
            · rw [e, hF18, fset_eq, ew17, ex16, hv61_1 i61 (Nat.le_refl _), ← hpo i61 (by omega), show G61 10 = F3 10 from funext fun j => hJ61 10 j rfl, hsh]
            · rw [hF18, fset_ne (Or.inr e)]; exact hv61_0 q (by omega)
          have hbF18 : ∀ q, i61 + 1 ≤ q → F18 11 q = F 11 q := fun q hq => by rw [hF18, fset_ne (Or.inr (by omega))]; exact hv61_1 q (by omega)
          refine V_iinc X (nI (i61 + 1)) [(4, .int (nI (i61 + 1))), (3, .int (x6)), (2, .int (r4)), (0, .ref (X0 + 0)), (1, .int (nI (j2)))] dX5_night_97 0 rfl (zinc _) (by decide) rfl ?_
          refine V_goto (tgt := 61) X dX5_night_100 (by decide) ?_
          exact V.sub [0, 1, 2, 3, 4] rfl (ih61 _ (by omega) (i61 + 1) F18 rfl (by omega) hJF18 (haF18) (hbF18))
    exact L61 _ 0 F3 rfl (by omega) cRw.rfl' (fun q hq => absurd hq (Nat.not_lt_zero q)) (fun q _ => hw1 11 q (scM_f (by omega)))
  · -- 35 false
    exact V_throwS X E hG (text := "nobody plays") (names := zSup) (by decide +kernel) zSup_fit tw_ISE to_ISE (zStrOf X ("Doublecoat", 140, "nobody plays") (by decide)) dX5_night_38 dX5_night_41 dX5_night_42 dX5_night_44 dX5_night_47 (Nat.le_of_ble_eq_true rfl) (Nat.le_of_ble_eq_true rfl) (Nat.le_of_ble_eq_true rfl) (Nat.le_refl _) (Nat.le_refl _) (fun z => ⟨Or.inl (Or.inr ⟨g0_0, Or.inl ⟨fun ⟨b9, h9, c9, q9, d9⟩ => by have d8 := (zAc_uniq cDu_7 c9 xF3).mp d9; obtain ⟨p9, u9, v9⟩ := d8.2; have l9 := mBst.lt5 cDu_7 xF3 d8.1 u9; rw [v9] at l9; exact (zMk_z fr4).mp h5 q9 ⟨l9, (zAc_iff (yF3 q9 l9)).mpr d8⟩, rfl⟩⟩), z, F3, rfl, hJF3⟩)
set_option maxRecDepth 100000 in
set_option maxHeartbeats 4000000 in
theorem k_X5_ofPart {g : zG} {t : Nat × Nat} {X0 : Nat} {σ0 : Nat → Option va_E} {F : Nat → Nat → Int32} (hX : g.2.1.size ≤ X0) {nP nS nA nC nT : Nat} (hI : cI nP nS nA nC nT F) (hG : g.1.stackTraces = false)  (a1 : Int32) (a2 : Int32) (hB : cBd nP nS nA F) (hC : cK F) : Ct g 22 yX5_ofPart cX5_ofPart 3 (some FieldType.int) 1 6 [.ref (X0 + 0), .int (a1), .int (a2)] (t, cW g X0 F σ0) (fun v σ' => ∃ p w : Nat, a1 = nI p ∧ p < nP ∧ a2 = nI w ∧ w ≤ 6 ∧ ∃ x : Int32, v = some (.int x) ∧ cPt nP nS nA F p w x ∧ ∃ F' : Nat → Nat → Int32, σ' = (t, cW g X0 F' σ0) ∧ cM F F') (zXP [(zlt nP a1, RIOB), (zin 0 6 a2, RIAE)] zF0 g X0 F σ0) := by
  refine Ct.of (lv := [(0, .ref (X0 + 0)), (1, .int (a1)), (2, .int (a2))]) (by decide) (Nat.le_of_ble_eq_true rfl) rfl ?_
  intro κ X E B _
  have X : zX g κ RX5 cX5_ofPart 3 := X
  obtain ⟨b1, b2, b3, b4, b5⟩ := hI.bnd
  refine V_iload_n X dX5_ofPart_0 1 rfl ?_
  refine V_aload_n X dX5_ofPart_1 0 rfl ?_
  refine C_getf X fl_X5_10 0 (by decide) rfl rfl dX5_ofPart_2 ?_
  refine C_getfN (z := nI (nP)) X fl_X5_48 1 (by decide) rfl rfl hI.f1_5 dX5_ofPart_5 ?_
  refine V_callS (rest := []) X E.room ml_X5_79 st_X5_needIndex (by decide) (by decide) (k_X5_needIndex hG (a1) (nP) (by omega)) rfl rfl (Nat.le_of_ble_eq_true rfl) ⟨Nat.le_of_ble_eq_true rfl, Nat.le_of_ble_eq_true rfl⟩ dX5_ofPart_8 (fun Ex σ' h => VX_out X E (Nat.le_of_ble_eq_true rfl) (Nat.le_of_ble_eq_true rfl) ⟨Or.inl (Or.inl ⟨h.2.1, h.1⟩), σ'.1, F, Prod.ext rfl h.2.2, cM.rfl'⟩) (fun v9 σ' hp9 => ?_)
  obtain ⟨⟨rfl, g0_0⟩, rfl⟩ := hp9
  refine V.shrink B 0 0 (Nat.le_refl _) (Nat.le_refl _) ?_
  obtain ⟨j2, ej2, uj2⟩ := id g0_0
  subst ej2
  show V g κ 3 0 0 (t, cW g X0 F σ0) 11 [(0, .ref (X0 + 0)), (1, .int (nI (j2))), (2, .int (a2))] []
  refine V_iload_n X dX5_ofPart_11 2 rfl ?_
  refine V_iconst (v := nI 0) X dX5_ofPart_12 (by decide) ?_
  refine V_bipush (v := nI 6) X dX5_ofPart_13 (by decide) ?_
  refine V_callS (rest := []) X E.room ml_X5_44 st_X5_needWithin (by decide) (by decide) (k_X5_needWithin hG (a2) (0) (6) (by omega) (by omega)) rfl rfl (Nat.le_of_ble_eq_true rfl) ⟨Nat.le_of_ble_eq_true rfl, Nat.le_of_ble_eq_true rfl⟩ dX5_ofPart_15 (fun Ex σ' h => VX_out X E (Nat.le_of_ble_eq_true rfl) (Nat.le_of_ble_eq_true rfl) ⟨Or.inl (Or.inr ⟨g0_0, Or.inl ⟨h.2.1, h.1⟩⟩), σ'.1, F, Prod.ext rfl h.2.2, cM.rfl'⟩) (fun v9 σ' hp9 => ?_)
  obtain ⟨⟨rfl, g1_2⟩, rfl⟩ := hp9
  refine V.shrink B 0 0 (Nat.le_refl _) (Nat.le_refl _) ?_
  obtain ⟨j4, ej4, lj4, uj4⟩ := id g1_2
  subst ej4
  show V g κ 3 0 0 (t, cW g X0 F σ0) 18 [(0, .ref (X0 + 0)), (1, .int (nI (j2))), (2, .int (nI (j4)))] []
  refine V_iload_n X dX5_ofPart_18 2 rfl ?_
  rcases (show j4 = 0 ∨ j4 = 1 ∨ j4 = 2 ∨ j4 = 3 ∨ j4 = 4 ∨ j4 = 5 ∨ j4 = 6 by omega) with rfl | rfl | rfl | rfl | rfl | rfl | rfl
  · -- case 0
    refine V_tableIn (tgt := 56) X dX5_ofPart_19 (by decide) (by decide) rfl (by decide) ?_
    refine V_aload_n X dX5_ofPart_56 0 rfl ?_
    refine C_getf X fl_X5_10 0 (by decide) rfl rfl dX5_ofPart_57 ?_
    refine C_getf X fl_X5_154 1 (by decide) rfl rfl dX5_ofPart_60 ?_
    refine V_iload_n X dX5_ofPart_63 1 rfl ?_
    refine C_iald X (N := 7) 2 (by decide) (j2) rfl (by omega) (by decide) rfl dX5_ofPart_64 ?_
    refine V.topi (fun x5 ex5 => ?_)
    exact V_iret X E (Nat.zero_le _) (Nat.zero_le _) ⟨_, 0, rfl, by omega, rfl, by omega, _, rfl, Or.inl ⟨rfl, ex5⟩, _, rfl, cM.rfl'⟩ dX5_ofPart_65
  · -- case 1
    refine V_tableIn (tgt := 66) X dX5_ofPart_19 (by decide) (by decide) rfl (by decide) ?_
    refine V_aload_n X dX5_ofPart_66 0 rfl ?_
    refine C_getf X fl_X5_10 0 (by decide) rfl rfl dX5_ofPart_67 ?_
    refine C_getf X fl_X5_157 1 (by decide) rfl rfl dX5_ofPart_70 ?_
    refine V_iload_n X dX5_ofPart_73 1 rfl ?_
    refine C_iald X (N := 7) 3 (by decide) (j2) rfl (by omega) (by decide) rfl dX5_ofPart_74 ?_
    refine V.topi (fun x6 ex6 => ?_)
    exact V_iret X E (Nat.zero_le _) (Nat.zero_le _) ⟨_, 1, rfl, by omega, rfl, by omega, _, rfl, Or.inr (Or.inl ⟨rfl, ex6⟩), _, rfl, cM.rfl'⟩ dX5_ofPart_75
  · -- case 2
    refine V_tableIn (tgt := 76) X dX5_ofPart_19 (by decide) (by decide) rfl (by decide) ?_
    refine V_aload_n X dX5_ofPart_76 0 rfl ?_
    refine C_getf X fl_X5_10 0 (by decide) rfl rfl dX5_ofPart_77 ?_
    refine C_getf X fl_X5_160 1 (by decide) rfl rfl dX5_ofPart_80 ?_
    refine V_iload_n X dX5_ofPart_83 1 rfl ?_
    refine C_iald X (N := 7) 4 (by decide) (j2) rfl (by omega) (by decide) rfl dX5_ofPart_84 ?_
    refine V.topi (fun x7 ex7 => ?_)
    exact V_iret X E (Nat.zero_le _) (Nat.zero_le _) ⟨_, 2, rfl, by omega, rfl, by omega, _, rfl, Or.inr (Or.inr (Or.inl ⟨rfl, ex7⟩)), _, rfl, cM.rfl'⟩ dX5_ofPart_85
  · -- case 3
    refine V_tableIn (tgt := 86) X dX5_ofPart_19 (by decide) (by decide) rfl (by decide) ?_
    refine V_aload_n X dX5_ofPart_86 0 rfl ?_
    refine C_getf X fl_X5_10 0 (by decide) rfl rfl dX5_ofPart_87 ?_
    refine V_iload_n X dX5_ofPart_90 1 rfl ?_
    refine V_callV (rest := []) X E.room ml_X5_163 in_X2_scenesWith (ci := 6) rfl se_X2_scenesWith (C_recv (q := 1) (by decide) rfl) (by decide) (by decide) (k_X2_scenesWith hX hI (nI (j2))) rfl rfl (Nat.le_of_ble_eq_true rfl) ⟨Nat.le_of_ble_eq_true rfl, Nat.le_of_ble_eq_true rfl⟩ dX5_ofPart_91 (fun _ _ h => False.elim h) (fun v91 σ' hp91 => ?_)
    obtain ⟨hp91, rfl⟩ := hp91
    obtain ⟨r8, rfl, fr8⟩ := hp91
    show V g κ 3 0 0 (t, cW g X0 F σ0) 94 [(0, .ref (X0 + 0)), (1, .int (nI (j2))), (2, .int (nI (3)))] [.int (r8)]
    exact V_iret X E (Nat.zero_le _) (Nat.zero_le _) ⟨_, 3, rfl, by omega, rfl, by omega, _, rfl, Or.inr (Or.inr (Or.inr (Or.inl ⟨rfl, fr8⟩))), _, rfl, cM.rfl'⟩ dX5_ofPart_94
  · -- case 4
    refine V_tableIn (tgt := 95) X dX5_ofPart_19 (by decide) (by decide) rfl (by decide) ?_
    refine V_aload_n X dX5_ofPart_95 0 rfl ?_
    refine C_getf X fl_X5_26 0 (by decide) rfl rfl dX5_ofPart_96 ?_
    refine V_iload_n X dX5_ofPart_99 1 rfl ?_
    refine V_aload_n X dX5_ofPart_100 0 rfl ?_
    refine C_getf X fl_X5_10 0 (by decide) rfl rfl dX5_ofPart_101 ?_
    refine V_callV (rest := []) X E.room ml_X5_167 in_X0_clashesOf (ci := 4) rfl se_X0_clashesOf (C_recv (q := 12) (by decide) rfl) (by decide) (by decide) (k_X0_clashesOf_x hX hI (j2) (by omega) hB) rfl rfl (Nat.le_of_ble_eq_true rfl) ⟨Nat.le_of_ble_eq_true rfl, Nat.le_of_ble_eq_true rfl⟩ dX5_ofPart_104 (fun _ _ h => False.elim h) (fun v104 σ' hp104 => ?_)
    obtain ⟨r10, rfl, fr10, F9, rfl, hJF9⟩ := hp104
    have hKF9 : cM F F9 := hJF9.m
    show V g κ 3 0 0 (t, cW g X0 F9 σ0) 107 [(0, .ref (X0 + 0)), (1, .int (nI (j2))), (2, .int (nI (4)))] [.int (r10)]
    exact V_iret X E (Nat.zero_le _) (Nat.zero_le _) ⟨_, 4, rfl, by omega, rfl, by omega, _, rfl, Or.inr (Or.inr (Or.inr (Or.inr (Or.inl ⟨rfl, fr10⟩)))), _, rfl, hKF9⟩ dX5_ofPart_107
  · -- case 5
    refine V_tableIn (tgt := 108) X dX5_ofPart_19 (by decide) (by decide) rfl (by decide) ?_
    refine V_aload_n X dX5_ofPart_108 0 rfl ?_
    refine C_getf X fl_X5_19 0 (by decide) rfl rfl dX5_ofPart_109 ?_
    refine V_iconst (v := nI 1) X dX5_ofPart_112 (by decide) ?_
    refine V_aload_n X dX5_ofPart_113 0 rfl ?_
    refine C_getf X fl_X5_10 0 (by decide) rfl rfl dX5_ofPart_114 ?_
    refine C_getf X fl_X5_154 1 (by decide) rfl rfl dX5_ofPart_117 ?_
    refine V_iload_n X dX5_ofPart_120 1 rfl ?_
    refine C_iald X (N := 7) 2 (by decide) (j2) rfl (by omega) (by decide) rfl dX5_ofPart_121 ?_
    obtain ⟨v11, hv11, ev11⟩ := hB.1 (j2) (by omega)
    rw [ev11]
    refine V_ishl1 X (by omega) dX5_ofPart_122 ?_
    refine V_callV (rest := []) X E.room ml_X5_171 in_X1_ableOfAny (ci := 5) rfl se_X1_ableOfAny (C_recv (q := 7) (by decide) rfl) (by decide) (by decide) (k_X1_ableOfAny hX hI (nI (2 ^ (v11)))) rfl rfl (Nat.le_of_ble_eq_true rfl) ⟨Nat.le_of_ble_eq_true rfl, Nat.le_of_ble_eq_true rfl⟩ dX5_ofPart_123 (fun _ _ h => False.elim h) (fun v123 σ' hp123 => ?_)
    obtain ⟨hp123, rfl⟩ := hp123
    obtain ⟨r12, rfl, fr12⟩ := hp123
    show V g κ 3 0 0 (t, cW g X0 F σ0) 126 [(0, .ref (X0 + 0)), (1, .int (nI (j2))), (2, .int (nI (5)))] [.int (r12)]
    exact V_iret X E (Nat.zero_le _) (Nat.zero_le _) ⟨_, 5, rfl, by omega, rfl, by omega, _, rfl, Or.inr (Or.inr (Or.inr (Or.inr (Or.inr (Or.inl ⟨rfl, mPm_of hB hv11 ev11 fr12⟩))))), _, rfl, cM.rfl'⟩ dX5_ofPart_126
  · -- case 6
    refine V_tableOut (tgt := 127) X dX5_ofPart_19 (by decide) (by decide) ?_
    refine V_aload_n X dX5_ofPart_127 0 rfl ?_
    refine C_getf X fl_X5_26 0 (by decide) rfl rfl dX5_ofPart_128 ?_
    refine V_aload_n X dX5_ofPart_131 0 rfl ?_
    refine C_getf X fl_X5_10 0 (by decide) rfl rfl dX5_ofPart_132 ?_
    refine V_aload_n X dX5_ofPart_135 0 rfl ?_
    refine C_getf X fl_X5_19 0 (by decide) rfl rfl dX5_ofPart_136 ?_
    refine V_callV (rest := []) X E.room ml_X5_133 in_X0_recall (ci := 4) rfl se_X0_recall (C_recv (q := 12) (by decide) rfl) (by decide) (by decide) (k_X0_recall hX hI hB) rfl rfl (Nat.le_of_ble_eq_true rfl) ⟨Nat.le_of_ble_eq_true rfl, Nat.le_of_ble_eq_true rfl⟩ dX5_ofPart_139 (fun _ _ h => False.elim h) (fun v139 σ' hp139 => ?_)
    obtain ⟨hp139, F13, rfl, hJF13, hkF13⟩ := hp139
    obtain ⟨hF13b, xF13, yF13, zF13⟩ := cBest_of hC hJF13 hI hkF13
    cases (hp139 : _ = none)
    show V g κ 3 0 0 (t, cW g X0 F13 σ0) 142 [(0, .ref (X0 + 0)), (1, .int (nI (j2))), (2, .int (nI (6)))] []
    refine V_aload_n X dX5_ofPart_142 0 rfl ?_
    refine C_getf X fl_X5_26 0 (by decide) rfl rfl dX5_ofPart_143 ?_
    refine V_iload_n X dX5_ofPart_146 1 rfl ?_
    refine V_callV (rest := []) X E.room ml_X5_174 in_X0_playerOf (ci := 4) rfl se_X0_playerOf (C_recv (q := 12) (by decide) rfl) (by decide) (by decide) (k_X0_playerOf hX (hI.mvM hJF13) (nI (j2))) rfl rfl (Nat.le_of_ble_eq_true rfl) ⟨Nat.le_of_ble_eq_true rfl, Nat.le_of_ble_eq_true rfl⟩ dX5_ofPart_147 (fun _ _ h => False.elim h) (fun v147 σ' hp147 => ?_)
    obtain ⟨hp147, rfl⟩ := hp147
    rcases hp147 with ⟨rfl, nr14⟩ | ⟨r14, hr14, rfl, yr14, zr14⟩
    · -- none
      show V g κ 3 0 0 (t, cW g X0 F13 σ0) 150 [(0, .ref (X0 + 0)), (1, .int (nI (j2))), (2, .int (nI (6)))] [.int (-1)]
      exact V_iret X E (Nat.zero_le _) (Nat.zero_le _) ⟨_, 6, rfl, by omega, rfl, by omega, _, rfl, Or.inr (Or.inr (Or.inr (Or.inr (Or.inr (Or.inr (⟨rfl, ⟨_, _, xF13, cRo_no cDu_7 xF13 yF13 (by omega) nr14⟩⟩)))))), _, rfl, hJF13⟩ dX5_ofPart_150
    · -- number
      show V g κ 3 0 0 (t, cW g X0 F13 σ0) 150 [(0, .ref (X0 + 0)), (1, .int (nI (j2))), (2, .int (nI (6)))] [.int (nI (r14))]
      exact V_iret X E (Nat.zero_le _) (Nat.zero_le _) ⟨_, 6, rfl, by omega, rfl, by omega, _, rfl, Or.inr (Or.inr (Or.inr (Or.inr (Or.inr (Or.inr (⟨rfl, ⟨_, _, xF13, cRo_at yF13 (by omega) hr14 yr14⟩⟩)))))), _, rfl, hJF13⟩ dX5_ofPart_150
set_option maxRecDepth 100000 in
set_option maxHeartbeats 4000000 in
theorem k_X5_ofPlayer {g : zG} {t : Nat × Nat} {X0 : Nat} {σ0 : Nat → Option va_E} {F : Nat → Nat → Int32} (hX : g.2.1.size ≤ X0) {nP nS nA nC nT : Nat} (hI : cI nP nS nA nC nT F) (hG : g.1.stackTraces = false)  (a1 : Int32) (a2 : Int32) (hB : cBd nP nS nA F) (hC : cK F) : Ct g 22 yX5_ofPlayer cX5_ofPlayer 3 (some FieldType.int) 1 6 [.ref (X0 + 0), .int (a1), .int (a2)] (t, cW g X0 F σ0) (fun v σ' => ∃ p w : Nat, a1 = nI p ∧ p < nA ∧ a2 = nI w ∧ w ≤ 5 ∧ ∃ x : Int32, v = some (.int x) ∧ cPl nP nS nA F p w x ∧ ∃ F' : Nat → Nat → Int32, σ' = (t, cW g X0 F' σ0) ∧ cM F F') (zXP [(zlt nA a1, RIOB), (zin 0 5 a2, RIAE)] zF0 g X0 F σ0) := by
  refine Ct.of (lv := [(0, .ref (X0 + 0)), (1, .int (a1)), (2, .int (a2))]) (by decide) (Nat.le_of_ble_eq_true rfl) rfl ?_
  intro κ X E B _
  have X : zX g κ RX5 cX5_ofPlayer 3 := X
  obtain ⟨b1, b2, b3, b4, b5⟩ := hI.bnd
  refine V_iload_n X dX5_ofPlayer_0 1 rfl ?_
  refine V_aload_n X dX5_ofPlayer_1 0 rfl ?_
  refine C_getf X fl_X5_19 0 (by decide) rfl rfl dX5_ofPlayer_2 ?_
  refine C_getfN (z := nI (nA)) X fl_X5_66 7 (by decide) rfl rfl hI.f7_4 dX5_ofPlayer_5 ?_
  refine V_callS (rest := []) X E.room ml_X5_79 st_X5_needIndex (by decide) (by decide) (k_X5_needIndex hG (a1) (nA) (by omega)) rfl rfl (Nat.le_of_ble_eq_true rfl) ⟨Nat.le_of_ble_eq_true rfl, Nat.le_of_ble_eq_true rfl⟩ dX5_ofPlayer_8 (fun Ex σ' h => VX_out X E (Nat.le_of_ble_eq_true rfl) (Nat.le_of_ble_eq_true rfl) ⟨Or.inl (Or.inl ⟨h.2.1, h.1⟩), σ'.1, F, Prod.ext rfl h.2.2, cM.rfl'⟩) (fun v9 σ' hp9 => ?_)
  obtain ⟨⟨rfl, g0_0⟩, rfl⟩ := hp9
  refine V.shrink B 0 0 (Nat.le_refl _) (Nat.le_refl _) ?_
  obtain ⟨j2, ej2, uj2⟩ := id g0_0
  subst ej2
  show V g κ 3 0 0 (t, cW g X0 F σ0) 11 [(0, .ref (X0 + 0)), (1, .int (nI (j2))), (2, .int (a2))] []
  refine V_iload_n X dX5_ofPlayer_11 2 rfl ?_
  refine V_iconst (v := nI 0) X dX5_ofPlayer_12 (by decide) ?_
  refine V_iconst (v := nI 5) X dX5_ofPlayer_13 (by decide) ?_
  refine V_callS (rest := []) X E.room ml_X5_44 st_X5_needWithin (by decide) (by decide) (k_X5_needWithin hG (a2) (0) (5) (by omega) (by omega)) rfl rfl (Nat.le_of_ble_eq_true rfl) ⟨Nat.le_of_ble_eq_true rfl, Nat.le_of_ble_eq_true rfl⟩ dX5_ofPlayer_14 (fun Ex σ' h => VX_out X E (Nat.le_of_ble_eq_true rfl) (Nat.le_of_ble_eq_true rfl) ⟨Or.inl (Or.inr ⟨g0_0, Or.inl ⟨h.2.1, h.1⟩⟩), σ'.1, F, Prod.ext rfl h.2.2, cM.rfl'⟩) (fun v9 σ' hp9 => ?_)
  obtain ⟨⟨rfl, g1_2⟩, rfl⟩ := hp9
  refine V.shrink B 0 0 (Nat.le_refl _) (Nat.le_refl _) ?_
  obtain ⟨j4, ej4, lj4, uj4⟩ := id g1_2
  subst ej4
  show V g κ 3 0 0 (t, cW g X0 F σ0) 17 [(0, .ref (X0 + 0)), (1, .int (nI (j2))), (2, .int (nI (j4)))] []
  refine V_iload_n X dX5_ofPlayer_17 2 rfl ?_
  rcases (show j4 = 0 ∨ j4 = 1 ∨ j4 = 2 ∨ j4 = 3 ∨ j4 = 4 ∨ j4 = 5 by omega) with rfl | rfl | rfl | rfl | rfl | rfl
  · -- case 0
    refine V_tableIn (tgt := 52) X dX5_ofPlayer_18 (by decide) (by decide) rfl (by decide) ?_
    refine V_aload_n X dX5_ofPlayer_52 0 rfl ?_
    refine C_getf X fl_X5_19 0 (by decide) rfl rfl dX5_ofPlayer_53 ?_
    refine C_getf X fl_X5_177 7 (by decide) rfl rfl dX5_ofPlayer_56 ?_
    refine V_iload_n X dX5_ofPlayer_59 1 rfl ?_
    refine C_iald X (N := 5) 8 (by decide) (j2) rfl (by omega) (by decide) rfl dX5_ofPlayer_60 ?_
    refine V.topi (fun x5 ex5 => ?_)
    exact V_iret X E (Nat.zero_le _) (Nat.zero_le _) ⟨_, 0, rfl, by omega, rfl, by omega, _, rfl, Or.inl ⟨rfl, ex5⟩, _, rfl, cM.rfl'⟩ dX5_ofPlayer_61
  · -- case 1
    refine V_tableIn (tgt := 62) X dX5_ofPlayer_18 (by decide) (by decide) rfl (by decide) ?_
    refine V_aload_n X dX5_ofPlayer_62 0 rfl ?_
    refine C_getf X fl_X5_19 0 (by decide) rfl rfl dX5_ofPlayer_63 ?_
    refine C_getf X fl_X5_180 7 (by decide) rfl rfl dX5_ofPlayer_66 ?_
    refine V_iload_n X dX5_ofPlayer_69 1 rfl ?_
    refine C_iald X (N := 5) 9 (by decide) (j2) rfl (by omega) (by decide) rfl dX5_ofPlayer_70 ?_
    refine V.topi (fun x6 ex6 => ?_)
    exact V_iret X E (Nat.zero_le _) (Nat.zero_le _) ⟨_, 1, rfl, by omega, rfl, by omega, _, rfl, Or.inr (Or.inl ⟨rfl, ex6⟩), _, rfl, cM.rfl'⟩ dX5_ofPlayer_71
  · -- case 2
    refine V_tableIn (tgt := 72) X dX5_ofPlayer_18 (by decide) (by decide) rfl (by decide) ?_
    refine V_aload_n X dX5_ofPlayer_72 0 rfl ?_
    refine C_getf X fl_X5_19 0 (by decide) rfl rfl dX5_ofPlayer_73 ?_
    refine C_getf X fl_X5_183 7 (by decide) rfl rfl dX5_ofPlayer_76 ?_
    refine V_iload_n X dX5_ofPlayer_79 1 rfl ?_
    refine C_iald X (N := 5) 10 (by decide) (j2) rfl (by omega) (by decide) rfl dX5_ofPlayer_80 ?_
    refine V.topi (fun x7 ex7 => ?_)
    exact V_iret X E (Nat.zero_le _) (Nat.zero_le _) ⟨_, 2, rfl, by omega, rfl, by omega, _, rfl, Or.inr (Or.inr (Or.inl ⟨rfl, ex7⟩)), _, rfl, cM.rfl'⟩ dX5_ofPlayer_81
  · -- case 3
    refine V_tableIn (tgt := 82) X dX5_ofPlayer_18 (by decide) (by decide) rfl (by decide) ?_
    refine V_aload_n X dX5_ofPlayer_82 0 rfl ?_
    refine C_getf X fl_X5_19 0 (by decide) rfl rfl dX5_ofPlayer_83 ?_
    refine C_getf X fl_X5_86 7 (by decide) rfl rfl dX5_ofPlayer_86 (V.topi (fun x8 ex8 => ?_))
    refine V_iload_n X dX5_ofPlayer_89 1 rfl ?_
    refine V_callS (rest := []) X E.room ml_X5_102 st_X5_has (by omega) (by decide) (k_X5_has (σ := (t, cW g X0 F σ0)) (x8) (nI (j2))) rfl rfl (Nat.le_of_ble_eq_true rfl) ⟨Nat.le_of_ble_eq_true rfl, Nat.le_of_ble_eq_true rfl⟩ dX5_ofPlayer_90 (fun _ _ h => False.elim h) (fun v90 σ' hp90 => ?_)
    obtain ⟨hp90, rfl⟩ := hp90
    obtain ⟨r9, rfl, hr9, fr9⟩ := hp90
    show V g κ 3 0 0 (t, cW g X0 F σ0) 93 [(0, .ref (X0 + 0)), (1, .int (nI (j2))), (2, .int (nI (3)))] [.int (r9)]
    refine V_ifeq X (tgt := 100) dX5_ofPlayer_93 (by decide) (fun h10 => ?_) (fun h10 => ?_)
    · -- 93 true
      have zh10 := mt fr9.mpr (not_not_intro h10)
      refine V_iconst (v := nI 0) X dX5_ofPlayer_100 (by decide) ?_
      exact V_iret X E (Nat.zero_le _) (Nat.zero_le _) ⟨_, 3, rfl, by omega, rfl, by omega, _, rfl, Or.inr (Or.inr (Or.inr (Or.inl ⟨rfl, Or.inr ⟨by rw [← ex8]; exact zh10, rfl⟩⟩))), _, rfl, cM.rfl'⟩ dX5_ofPlayer_101
    · -- 93 false
      have zh10 := fr9.mp h10
      refine V_iconst (v := nI 1) X dX5_ofPlayer_96 (by decide) ?_
      refine V_goto (tgt := 101) X dX5_ofPlayer_97 (by decide) ?_
      exact V_iret X E (Nat.zero_le _) (Nat.zero_le _) ⟨_, 3, rfl, by omega, rfl, by omega, _, rfl, Or.inr (Or.inr (Or.inr (Or.inl ⟨rfl, Or.inl ⟨by rw [← ex8]; exact zh10, rfl⟩⟩))), _, rfl, cM.rfl'⟩ dX5_ofPlayer_101
  · -- case 4
    refine V_tableIn (tgt := 102) X dX5_ofPlayer_18 (by decide) (by decide) rfl (by decide) ?_
    refine V_aload_n X dX5_ofPlayer_102 0 rfl ?_
    refine C_getf X fl_X5_26 0 (by decide) rfl rfl dX5_ofPlayer_103 ?_
    refine V_aload_n X dX5_ofPlayer_106 0 rfl ?_
    refine C_getf X fl_X5_10 0 (by decide) rfl rfl dX5_ofPlayer_107 ?_
    refine V_aload_n X dX5_ofPlayer_110 0 rfl ?_
    refine C_getf X fl_X5_19 0 (by decide) rfl rfl dX5_ofPlayer_111 ?_
    refine V_callV (rest := []) X E.room ml_X5_133 in_X0_recall (ci := 4) rfl se_X0_recall (C_recv (q := 12) (by decide) rfl) (by decide) (by decide) (k_X0_recall hX hI hB) rfl rfl (Nat.le_of_ble_eq_true rfl) ⟨Nat.le_of_ble_eq_true rfl, Nat.le_of_ble_eq_true rfl⟩ dX5_ofPlayer_114 (fun _ _ h => False.elim h) (fun v114 σ' hp114 => ?_)
    obtain ⟨hp114, F11, rfl, hJF11, hkF11⟩ := hp114
    obtain ⟨hF11b, xF11, yF11, zF11⟩ := cBest_of hC hJF11 hI hkF11
    cases (hp114 : _ = none)
    show V g κ 3 0 0 (t, cW g X0 F11 σ0) 117 [(0, .ref (X0 + 0)), (1, .int (nI (j2))), (2, .int (nI (4)))] []
    refine V_aload_n X dX5_ofPlayer_117 0 rfl ?_
    refine C_getf X fl_X5_26 0 (by decide) rfl rfl dX5_ofPlayer_118 ?_
    refine C_getf X fl_X5_186 12 (by decide) rfl rfl dX5_ofPlayer_121 ?_
    refine V_iload_n X dX5_ofPlayer_124 1 rfl ?_
    refine C_iald X (N := 5) 13 (by decide) (j2) rfl (by omega) (by decide) rfl dX5_ofPlayer_125 ?_
    refine V.topi (fun x12 ex12 => ?_)
    exact V_iret X E (Nat.zero_le _) (Nat.zero_le _) ⟨_, 4, rfl, by omega, rfl, by omega, _, rfl, Or.inr (Or.inr (Or.inr (Or.inr (Or.inl ⟨rfl, ⟨_, _, xF11, by rw [ex12]; exact yF11 _ (by omega)⟩⟩)))), _, rfl, hJF11⟩ dX5_ofPlayer_126
  · -- case 5
    refine V_tableOut (tgt := 127) X dX5_ofPlayer_18 (by decide) (by decide) ?_
    refine V_aload_n X dX5_ofPlayer_127 0 rfl ?_
    refine C_getf X fl_X5_19 0 (by decide) rfl rfl dX5_ofPlayer_128 ?_
    refine C_getf X fl_X5_119 7 (by decide) rfl rfl dX5_ofPlayer_131 ?_
    refine V_iload_n X dX5_ofPlayer_134 1 rfl ?_
    refine C_iald X (N := 5) 11 (by decide) (j2) rfl (by omega) (by decide) rfl dX5_ofPlayer_135 ?_
    refine V.topi (fun x13 ex13 => ?_)
    exact V_iret X E (Nat.zero_le _) (Nat.zero_le _) ⟨_, 5, rfl, by omega, rfl, by omega, _, rfl, Or.inr (Or.inr (Or.inr (Or.inr (Or.inr (⟨rfl, ex13⟩))))), _, rfl, cM.rfl'⟩ dX5_ofPlayer_136
set_option maxRecDepth 100000 in
set_option maxHeartbeats 4000000 in
theorem k_X5_ofScene {g : zG} {t : Nat × Nat} {X0 : Nat} {σ0 : Nat → Option va_E} {F : Nat → Nat → Int32} (hX : g.2.1.size ≤ X0) {nP nS nA nC nT : Nat} (hI : cI nP nS nA nC nT F) (hG : g.1.stackTraces = false)  (a1 : Int32) (a2 : Int32) (hB : cBd nP nS nA F) (hC : cK F) : Ct g 22 yX5_ofScene cX5_ofScene 4 (some FieldType.int) 1 6 [.ref (X0 + 0), .int (a1), .int (a2)] (t, cW g X0 F σ0) (qM pI g t X0 F σ0) (zXP [(zlt nS a1, RIOB), (zin 0 5 a2, RIAE)] zF0 g X0 F σ0) := by
  refine Ct.of (lv := [(0, .ref (X0 + 0)), (1, .int (a1)), (2, .int (a2))]) (by decide) (Nat.le_of_ble_eq_true rfl) rfl ?_
  intro κ X E B _
  have X : zX g κ RX5 cX5_ofScene 4 := X
  obtain ⟨b1, b2, b3, b4, b5⟩ := hI.bnd
  refine V_iload_n X dX5_ofScene_0 1 rfl ?_
  refine V_aload_n X dX5_ofScene_1 0 rfl ?_
  refine C_getf X fl_X5_10 0 (by decide) rfl rfl dX5_ofScene_2 ?_
  refine C_getfN (z := nI (nS)) X fl_X5_72 1 (by decide) rfl rfl hI.f1_6 dX5_ofScene_5 ?_
  refine V_callS (rest := []) X E.room ml_X5_79 st_X5_needIndex (by decide) (by decide) (k_X5_needIndex hG (a1) (nS) (by omega)) rfl rfl (Nat.le_of_ble_eq_true rfl) ⟨Nat.le_of_ble_eq_true rfl, Nat.le_of_ble_eq_true rfl⟩ dX5_ofScene_8 (fun Ex σ' h => VX_out X E (Nat.le_of_ble_eq_true rfl) (Nat.le_of_ble_eq_true rfl) ⟨Or.inl (Or.inl ⟨h.2.1, h.1⟩), σ'.1, F, Prod.ext rfl h.2.2, cM.rfl'⟩) (fun v9 σ' hp9 => ?_)
  obtain ⟨⟨rfl, g0_0⟩, rfl⟩ := hp9
  refine V.shrink B 0 0 (Nat.le_refl _) (Nat.le_refl _) ?_
  obtain ⟨j2, ej2, uj2⟩ := id g0_0
  subst ej2
  show V g κ 4 0 0 (t, cW g X0 F σ0) 11 [(0, .ref (X0 + 0)), (1, .int (nI (j2))), (2, .int (a2))] []
  refine V_iload_n X dX5_ofScene_11 2 rfl ?_
  refine V_iconst (v := nI 0) X dX5_ofScene_12 (by decide) ?_
  refine V_iconst (v := nI 5) X dX5_ofScene_13 (by decide) ?_
  refine V_callS (rest := []) X E.room ml_X5_44 st_X5_needWithin (by decide) (by decide) (k_X5_needWithin hG (a2) (0) (5) (by omega) (by omega)) rfl rfl (Nat.le_of_ble_eq_true rfl) ⟨Nat.le_of_ble_eq_true rfl, Nat.le_of_ble_eq_true rfl⟩ dX5_ofScene_14 (fun Ex σ' h => VX_out X E (Nat.le_of_ble_eq_true rfl) (Nat.le_of_ble_eq_true rfl) ⟨Or.inl (Or.inr ⟨g0_0, Or.inl ⟨h.2.1, h.1⟩⟩), σ'.1, F, Prod.ext rfl h.2.2, cM.rfl'⟩) (fun v9 σ' hp9 => ?_)
  obtain ⟨⟨rfl, g1_2⟩, rfl⟩ := hp9
  refine V.shrink B 0 0 (Nat.le_refl _) (Nat.le_refl _) ?_
  obtain ⟨j4, ej4, lj4, uj4⟩ := id g1_2
  subst ej4
  show V g κ 4 0 0 (t, cW g X0 F σ0) 17 [(0, .ref (X0 + 0)), (1, .int (nI (j2))), (2, .int (nI (j4)))] []
  refine V_aload_n X dX5_ofScene_17 0 rfl ?_
  refine C_getf X fl_X5_10 0 (by decide) rfl rfl dX5_ofScene_18 ?_
  refine C_getf X fl_X5_189 1 (by decide) rfl rfl dX5_ofScene_21 ?_
  refine V_iload_n X dX5_ofScene_24 1 rfl ?_
  refine C_iald X (N := 6) 5 (by decide) (j2) rfl (by omega) (by decide) rfl dX5_ofScene_25 ?_
  obtain ⟨m5, hm5, em5⟩ := hI.sp (j2) (by omega)
  rw [em5]
  refine V_istore_n X [(3, .int (nI (m5))), (0, .ref (X0 + 0)), (1, .int (nI (j2))), (2, .int (nI (j4)))] dX5_ofScene_26 (by decide) rfl ?_
  refine V_iload_n X dX5_ofScene_27 3 rfl ?_
  rcases (show j4 = 0 ∨ j4 = 1 ∨ j4 = 2 ∨ j4 = 3 ∨ j4 = 4 ∨ j4 = 5 by omega) with rfl | rfl | rfl | rfl | rfl | rfl
  · -- case 0
    refine V_tableIn (tgt := 64) X dX5_ofScene_28 (by decide) (by decide) rfl (by decide) ?_
    refine V_iload_n X dX5_ofScene_64 0 rfl ?_
    exact V_iret X E (Nat.zero_le _) (Nat.zero_le _) ⟨⟨_, rfl⟩, ⟨_, rfl, cM.rfl'⟩⟩ dX5_ofScene_65
  · -- case 1
    refine V_tableIn (tgt := 66) X dX5_ofScene_28 (by decide) (by decide) rfl (by decide) ?_
    refine V_aload_n X dX5_ofScene_66 1 rfl ?_
    refine C_getf X fl_X5_10 0 (by decide) rfl rfl dX5_ofScene_67 ?_
    refine C_getf X fl_X5_82 1 (by decide) rfl rfl dX5_ofScene_70 ?_
    refine V_iload_n X dX5_ofScene_73 2 rfl ?_
    refine C_iald X (N := 6) 6 (by decide) (j2) rfl (by omega) (by decide) rfl dX5_ofScene_74 ?_
    refine V.topi (fun x6 ex6 => ?_)
    exact V_iret X E (Nat.zero_le _) (Nat.zero_le _) ⟨⟨_, rfl⟩, ⟨_, rfl, cM.rfl'⟩⟩ dX5_ofScene_75
  · -- case 2
    refine V_tableIn (tgt := 76) X dX5_ofScene_28 (by decide) (by decide) rfl (by decide) ?_
    refine V_aload_n X dX5_ofScene_76 1 rfl ?_
    refine V_iload_n X dX5_ofScene_77 0 rfl ?_
    refine V_callV (rest := []) X E.room ml_X5_192 in_X5_filled (ci := 9) rfl se_X5_filled (C_recv (q := 0) (by decide) rfl) (by decide) (by decide) (k_X5_filled hX hI (nI (m5))) rfl rfl (Nat.le_of_ble_eq_true rfl) ⟨Nat.le_of_ble_eq_true rfl, Nat.le_of_ble_eq_true rfl⟩ dX5_ofScene_78 (fun _ _ h => False.elim h) (fun v78 σ' hp78 => ?_)
    obtain ⟨hp78, rfl⟩ := hp78
    obtain ⟨r7, rfl⟩ := hp78
    show V g κ 4 0 0 (t, cW g X0 F σ0) 81 [(3, .int (nI (m5))), (0, .ref (X0 + 0)), (1, .int (nI (j2))), (2, .int (nI (2)))] [.int (r7)]
    exact V_iret X E (Nat.zero_le _) (Nat.zero_le _) ⟨⟨_, rfl⟩, ⟨_, rfl, cM.rfl'⟩⟩ dX5_ofScene_81
  · -- case 3
    refine V_tableIn (tgt := 82) X dX5_ofScene_28 (by decide) (by decide) rfl (by decide) ?_
    refine V_aload_n X dX5_ofScene_82 1 rfl ?_
    refine V_iload_n X dX5_ofScene_83 0 rfl ?_
    refine V_callV (rest := []) X E.room ml_X5_195 in_X5_lack (ci := 9) rfl se_X5_lack (C_recv (q := 0) (by decide) rfl) (by decide) (by decide) (k_X5_lack hX hI (m5) (by omega)) rfl rfl (Nat.le_of_ble_eq_true rfl) ⟨Nat.le_of_ble_eq_true rfl, Nat.le_of_ble_eq_true rfl⟩ dX5_ofScene_84 (fun _ _ h => False.elim h) (fun v84 σ' hp84 => ?_)
    obtain ⟨hp84, rfl⟩ := hp84
    obtain ⟨r8, rfl⟩ := hp84
    show V g κ 4 0 0 (t, cW g X0 F σ0) 87 [(3, .int (nI (m5))), (0, .ref (X0 + 0)), (1, .int (nI (j2))), (2, .int (nI (3)))] [.int (r8)]
    exact V_iret X E (Nat.zero_le _) (Nat.zero_le _) ⟨⟨_, rfl⟩, ⟨_, rfl, cM.rfl'⟩⟩ dX5_ofScene_87
  · -- case 4
    refine V_tableIn (tgt := 88) X dX5_ofScene_28 (by decide) (by decide) rfl (by decide) ?_
    refine V_aload_n X dX5_ofScene_88 1 rfl ?_
    refine V_aload_n X dX5_ofScene_89 1 rfl ?_
    refine V_iload_n X dX5_ofScene_90 0 rfl ?_
    refine V_callV (rest := [.ref (X0 + 0)]) X E.room ml_X5_195 in_X5_lack (ci := 9) rfl se_X5_lack (C_recv (q := 0) (by decide) rfl) (by decide) (by decide) (k_X5_lack hX hI (m5) (by omega)) rfl rfl (Nat.le_of_ble_eq_true rfl) ⟨Nat.le_of_ble_eq_true rfl, Nat.le_of_ble_eq_true rfl⟩ dX5_ofScene_91 (fun _ _ h => False.elim h) (fun v91 σ' hp91 => ?_)
    obtain ⟨hp91, rfl⟩ := hp91
    obtain ⟨r9, rfl⟩ := hp91
    show V g κ 4 0 0 (t, cW g X0 F σ0) 94 [(3, .int (nI (m5))), (0, .ref (X0 + 0)), (1, .int (nI (j2))), (2, .int (nI (4)))] [.int (r9), .ref (X0 + 0)]
    refine V_callV (rest := []) X E.room ml_X5_198 in_X5_excess (ci := 9) rfl se_X5_excess (C_recv (q := 0) (by decide) rfl) (by decide) (by decide) (k_X5_excess hX hI (r9)) rfl rfl (Nat.le_of_ble_eq_true rfl) ⟨Nat.le_of_ble_eq_true rfl, Nat.le_of_ble_eq_true rfl⟩ dX5_ofScene_94 (fun _ _ h => False.elim h) (fun v94 σ' hp94 => ?_)
    obtain ⟨hp94, rfl⟩ := hp94
    obtain ⟨r10, rfl⟩ := hp94
    show V g κ 4 0 0 (t, cW g X0 F σ0) 97 [(3, .int (nI (m5))), (0, .ref (X0 + 0)), (1, .int (nI (j2))), (2, .int (nI (4)))] [.int (r10)]
    exact V_iret X E (Nat.zero_le _) (Nat.zero_le _) ⟨⟨_, rfl⟩, ⟨_, rfl, cM.rfl'⟩⟩ dX5_ofScene_97
  · -- case 5
    refine V_tableOut (tgt := 98) X dX5_ofScene_28 (by decide) (by decide) ?_
    refine V_aload_n X dX5_ofScene_98 1 rfl ?_
    refine C_getf X fl_X5_26 0 (by decide) rfl rfl dX5_ofScene_99 ?_
    refine V_aload_n X dX5_ofScene_102 1 rfl ?_
    refine C_getf X fl_X5_10 0 (by decide) rfl rfl dX5_ofScene_103 ?_
    refine V_aload_n X dX5_ofScene_106 1 rfl ?_
    refine C_getf X fl_X5_19 0 (by decide) rfl rfl dX5_ofScene_107 ?_
    refine V_callV (rest := []) X E.room ml_X5_133 in_X0_recall (ci := 4) rfl se_X0_recall (C_recv (q := 12) (by decide) rfl) (by decide) (by decide) (k_X0_recall hX hI hB) rfl rfl (Nat.le_of_ble_eq_true rfl) ⟨Nat.le_of_ble_eq_true rfl, Nat.le_of_ble_eq_true rfl⟩ dX5_ofScene_110 (fun _ _ h => False.elim h) (fun v110 σ' hp110 => ?_)
    obtain ⟨hp110, F11, rfl, hJF11, hkF11⟩ := hp110
    cases (hp110 : _ = none)
    show V g κ 4 0 0 (t, cW g X0 F11 σ0) 113 [(3, .int (nI (m5))), (0, .ref (X0 + 0)), (1, .int (nI (j2))), (2, .int (nI (5)))] []
    refine V_aload_n X dX5_ofScene_113 1 rfl ?_
    refine V_iload_n X dX5_ofScene_114 0 rfl ?_
    refine V_callV (rest := []) X E.room ml_X5_201 in_X5_leastWaste (ci := 9) rfl se_X5_leastWaste (C_recv (q := 0) (by decide) rfl) (by decide) (by decide) (k_X5_leastWaste hX (hI.mvM hJF11) (nI (m5))) rfl rfl (Nat.le_of_ble_eq_true rfl) ⟨Nat.le_of_ble_eq_true rfl, Nat.le_of_ble_eq_true rfl⟩ dX5_ofScene_115 (fun _ _ h => False.elim h) (fun v115 σ' hp115 => ?_)
    obtain ⟨hp115, F12, rfl, hJF12⟩ := hp115
    have hKF12 : cM F F12 := (hJF11.trans hJF12.m)
    obtain ⟨r13, rfl⟩ := hp115
    show V g κ 4 0 0 (t, cW g X0 F12 σ0) 118 [(3, .int (nI (m5))), (0, .ref (X0 + 0)), (1, .int (nI (j2))), (2, .int (nI (5)))] [.int (r13)]
    exact V_iret X E (Nat.zero_le _) (Nat.zero_le _) ⟨⟨_, rfl⟩, ⟨_, rfl, hKF12⟩⟩ dX5_ofScene_118
set_option maxRecDepth 100000 in
set_option maxHeartbeats 4000000 in
theorem k_X5_ofCoat {g : zG} {t : Nat × Nat} {X0 : Nat} {σ0 : Nat → Option va_E} {F : Nat → Nat → Int32} (hX : g.2.1.size ≤ X0) {nP nS nA nC nT : Nat} (hI : cI nP nS nA nC nT F) (hG : g.1.stackTraces = false)  (a1 : Int32) (a2 : Int32) (hB : cBd nP nS nA F) (hC : cK F) : Ct g 11 yX5_ofCoat cX5_ofCoat 3 (some FieldType.int) 1 6 [.ref (X0 + 0), .int (a1), .int (a2)] (t, cW g X0 F σ0) (fun v σ' => ∃ p w : Nat, a1 = nI p ∧ p < nC ∧ a2 = nI w ∧ w ≤ 3 ∧ ∃ x : Int32, v = some (.int x) ∧ cCt F p w x ∧ ∃ F' : Nat → Nat → Int32, σ' = (t, cW g X0 F' σ0) ∧ cM F F') (zXP [(zlt nC a1, RIOB), (zin 0 3 a2, RIAE)] zF0 g X0 F σ0) := by
  refine Ct.of (lv := [(0, .ref (X0 + 0)), (1, .int (a1)), (2, .int (a2))]) (by decide) (Nat.le_of_ble_eq_true rfl) rfl ?_
  intro κ X E B _
  have X : zX g κ RX5 cX5_ofCoat 3 := X
  obtain ⟨b1, b2, b3, b4, b5⟩ := hI.bnd
  refine V_iload_n X dX5_ofCoat_0 1 rfl ?_
  refine V_aload_n X dX5_ofCoat_1 0 rfl ?_
  refine C_getf X fl_X5_33 0 (by decide) rfl rfl dX5_ofCoat_2 ?_
  refine C_getfN (z := nI (nC)) X fl_X5_93 18 (by decide) rfl rfl hI.f18_3 dX5_ofCoat_5 ?_
  refine V_callS (rest := []) X E.room ml_X5_79 st_X5_needIndex (by decide) (by decide) (k_X5_needIndex hG (a1) (nC) (by omega)) rfl rfl (Nat.le_of_ble_eq_true rfl) ⟨Nat.le_of_ble_eq_true rfl, Nat.le_of_ble_eq_true rfl⟩ dX5_ofCoat_8 (fun Ex σ' h => VX_out X E (Nat.le_of_ble_eq_true rfl) (Nat.le_of_ble_eq_true rfl) ⟨Or.inl (Or.inl ⟨h.2.1, h.1⟩), σ'.1, F, Prod.ext rfl h.2.2, cM.rfl'⟩) (fun v9 σ' hp9 => ?_)
  obtain ⟨⟨rfl, g0_0⟩, rfl⟩ := hp9
  refine V.shrink B 0 0 (Nat.le_refl _) (Nat.le_refl _) ?_
  obtain ⟨j2, ej2, uj2⟩ := id g0_0
  subst ej2
  show V g κ 3 0 0 (t, cW g X0 F σ0) 11 [(0, .ref (X0 + 0)), (1, .int (nI (j2))), (2, .int (a2))] []
  refine V_iload_n X dX5_ofCoat_11 2 rfl ?_
  refine V_iconst (v := nI 0) X dX5_ofCoat_12 (by decide) ?_
  refine V_iconst (v := nI 3) X dX5_ofCoat_13 (by decide) ?_
  refine V_callS (rest := []) X E.room ml_X5_44 st_X5_needWithin (by decide) (by decide) (k_X5_needWithin hG (a2) (0) (3) (by omega) (by omega)) rfl rfl (Nat.le_of_ble_eq_true rfl) ⟨Nat.le_of_ble_eq_true rfl, Nat.le_of_ble_eq_true rfl⟩ dX5_ofCoat_14 (fun Ex σ' h => VX_out X E (Nat.le_of_ble_eq_true rfl) (Nat.le_of_ble_eq_true rfl) ⟨Or.inl (Or.inr ⟨g0_0, Or.inl ⟨h.2.1, h.1⟩⟩), σ'.1, F, Prod.ext rfl h.2.2, cM.rfl'⟩) (fun v9 σ' hp9 => ?_)
  obtain ⟨⟨rfl, g1_2⟩, rfl⟩ := hp9
  refine V.shrink B 0 0 (Nat.le_refl _) (Nat.le_refl _) ?_
  obtain ⟨j4, ej4, lj4, uj4⟩ := id g1_2
  subst ej4
  show V g κ 3 0 0 (t, cW g X0 F σ0) 17 [(0, .ref (X0 + 0)), (1, .int (nI (j2))), (2, .int (nI (j4)))] []
  refine V_iload_n X dX5_ofCoat_17 2 rfl ?_
  rcases (show j4 = 0 ∨ j4 = 1 ∨ j4 = 2 ∨ j4 = 3 by omega) with rfl | rfl | rfl | rfl
  · -- case 0
    refine V_tableIn (tgt := 44) X dX5_ofCoat_18 (by decide) (by decide) rfl (by decide) ?_
    refine V_aload_n X dX5_ofCoat_44 0 rfl ?_
    refine C_getf X fl_X5_33 0 (by decide) rfl rfl dX5_ofCoat_45 ?_
    refine C_getf X fl_X5_204 18 (by decide) rfl rfl dX5_ofCoat_48 ?_
    refine V_iload_n X dX5_ofCoat_51 1 rfl ?_
    refine C_iald X (N := 6) 19 (by decide) (j2) rfl (by omega) (by decide) rfl dX5_ofCoat_52 ?_
    refine V.topi (fun x5 ex5 => ?_)
    exact V_iret X E (Nat.zero_le _) (Nat.zero_le _) ⟨_, 0, rfl, by omega, rfl, by omega, _, rfl, Or.inl ⟨rfl, ex5⟩, _, rfl, cM.rfl'⟩ dX5_ofCoat_53
  · -- case 1
    refine V_tableIn (tgt := 54) X dX5_ofCoat_18 (by decide) (by decide) rfl (by decide) ?_
    refine V_aload_n X dX5_ofCoat_54 0 rfl ?_
    refine C_getf X fl_X5_33 0 (by decide) rfl rfl dX5_ofCoat_55 ?_
    refine C_getf X fl_X5_205 18 (by decide) rfl rfl dX5_ofCoat_58 ?_
    refine V_iload_n X dX5_ofCoat_61 1 rfl ?_
    refine C_iald X (N := 6) 20 (by decide) (j2) rfl (by omega) (by decide) rfl dX5_ofCoat_62 ?_
    refine V.topi (fun x6 ex6 => ?_)
    exact V_iret X E (Nat.zero_le _) (Nat.zero_le _) ⟨_, 1, rfl, by omega, rfl, by omega, _, rfl, Or.inr (Or.inl ⟨rfl, ex6⟩), _, rfl, cM.rfl'⟩ dX5_ofCoat_63
  · -- case 2
    refine V_tableIn (tgt := 64) X dX5_ofCoat_18 (by decide) (by decide) rfl (by decide) ?_
    refine V_aload_n X dX5_ofCoat_64 0 rfl ?_
    refine C_getf X fl_X5_33 0 (by decide) rfl rfl dX5_ofCoat_65 ?_
    refine C_getf X fl_X5_116 18 (by decide) rfl rfl dX5_ofCoat_68 ?_
    refine V_iload_n X dX5_ofCoat_71 1 rfl ?_
    refine C_iald X (N := 6) 21 (by decide) (j2) rfl (by omega) (by decide) rfl dX5_ofCoat_72 ?_
    refine V.topi (fun x7 ex7 => ?_)
    exact V_iret X E (Nat.zero_le _) (Nat.zero_le _) ⟨_, 2, rfl, by omega, rfl, by omega, _, rfl, Or.inr (Or.inr (Or.inl ⟨rfl, ex7⟩)), _, rfl, cM.rfl'⟩ dX5_ofCoat_73
  · -- case 3
    refine V_tableOut (tgt := 74) X dX5_ofCoat_18 (by decide) (by decide) ?_
    refine V_aload_n X dX5_ofCoat_74 0 rfl ?_
    refine C_getf X fl_X5_33 0 (by decide) rfl rfl dX5_ofCoat_75 ?_
    refine C_getf X fl_X5_99 18 (by decide) rfl rfl dX5_ofCoat_78 (V.topi (fun x8 ex8 => ?_))
    refine V_iload_n X dX5_ofCoat_81 1 rfl ?_
    refine V_callS (rest := []) X E.room ml_X5_102 st_X5_has (by omega) (by decide) (k_X5_has (σ := (t, cW g X0 F σ0)) (x8) (nI (j2))) rfl rfl (Nat.le_of_ble_eq_true rfl) ⟨Nat.le_of_ble_eq_true rfl, Nat.le_of_ble_eq_true rfl⟩ dX5_ofCoat_82 (fun _ _ h => False.elim h) (fun v82 σ' hp82 => ?_)
    obtain ⟨hp82, rfl⟩ := hp82
    obtain ⟨r9, rfl, hr9, fr9⟩ := hp82
    show V g κ 3 0 0 (t, cW g X0 F σ0) 85 [(0, .ref (X0 + 0)), (1, .int (nI (j2))), (2, .int (nI (3)))] [.int (r9)]
    refine V_ifeq X (tgt := 92) dX5_ofCoat_85 (by decide) (fun h10 => ?_) (fun h10 => ?_)
    · -- 85 true
      have zh10 := mt fr9.mpr (not_not_intro h10)
      refine V_iconst (v := nI 0) X dX5_ofCoat_92 (by decide) ?_
      exact V_iret X E (Nat.zero_le _) (Nat.zero_le _) ⟨_, 3, rfl, by omega, rfl, by omega, _, rfl, Or.inr (Or.inr (Or.inr (⟨rfl, Or.inr ⟨by rw [← ex8]; exact zh10, rfl⟩⟩))), _, rfl, cM.rfl'⟩ dX5_ofCoat_93
    · -- 85 false
      have zh10 := fr9.mp h10
      refine V_iconst (v := nI 1) X dX5_ofCoat_88 (by decide) ?_
      refine V_goto (tgt := 93) X dX5_ofCoat_89 (by decide) ?_
      exact V_iret X E (Nat.zero_le _) (Nat.zero_le _) ⟨_, 3, rfl, by omega, rfl, by omega, _, rfl, Or.inr (Or.inr (Or.inr (⟨rfl, Or.inl ⟨by rw [← ex8]; exact zh10, rfl⟩⟩))), _, rfl, cM.rfl'⟩ dX5_ofCoat_93
set_option maxRecDepth 100000 in
set_option maxHeartbeats 4000000 in
theorem k_X5_ofTown {g : zG} {t : Nat × Nat} {X0 : Nat} {σ0 : Nat → Option va_E} {F : Nat → Nat → Int32} (hX : g.2.1.size ≤ X0) {nP nS nA nC nT : Nat} (hI : cI nP nS nA nC nT F) (hG : g.1.stackTraces = false)  (a1 : Int32) (a2 : Int32) (hB : cBd nP nS nA F) (hC : cK F) : Ct g 11 yX5_ofTown cX5_ofTown 3 (some FieldType.int) 1 6 [.ref (X0 + 0), .int (a1), .int (a2)] (t, cW g X0 F σ0) (fun v σ' => ∃ p w : Nat, a1 = nI p ∧ p < nT ∧ a2 = nI w ∧ w ≤ 3 ∧ ∃ x : Int32, v = some (.int x) ∧ cTn F p w x ∧ ∃ F' : Nat → Nat → Int32, σ' = (t, cW g X0 F' σ0) ∧ cM F F') (zXP [(zlt nT a1, RIOB), (zin 0 3 a2, RIAE)] zF0 g X0 F σ0) := by
  refine Ct.of (lv := [(0, .ref (X0 + 0)), (1, .int (a1)), (2, .int (a2))]) (by decide) (Nat.le_of_ble_eq_true rfl) rfl ?_
  intro κ X E B _
  have X : zX g κ RX5 cX5_ofTown 3 := X
  obtain ⟨b1, b2, b3, b4, b5⟩ := hI.bnd
  refine V_iload_n X dX5_ofTown_0 1 rfl ?_
  refine V_aload_n X dX5_ofTown_1 0 rfl ?_
  refine C_getf X fl_X5_40 0 (by decide) rfl rfl dX5_ofTown_2 ?_
  refine C_getfN (z := nI (nT)) X fl_X5_127 23 (by decide) rfl rfl hI.f23_4 dX5_ofTown_5 ?_
  refine V_callS (rest := []) X E.room ml_X5_79 st_X5_needIndex (by decide) (by decide) (k_X5_needIndex hG (a1) (nT) (by omega)) rfl rfl (Nat.le_of_ble_eq_true rfl) ⟨Nat.le_of_ble_eq_true rfl, Nat.le_of_ble_eq_true rfl⟩ dX5_ofTown_8 (fun Ex σ' h => VX_out X E (Nat.le_of_ble_eq_true rfl) (Nat.le_of_ble_eq_true rfl) ⟨Or.inl (Or.inl ⟨h.2.1, h.1⟩), σ'.1, F, Prod.ext rfl h.2.2, cM.rfl'⟩) (fun v9 σ' hp9 => ?_)
  obtain ⟨⟨rfl, g0_0⟩, rfl⟩ := hp9
  refine V.shrink B 0 0 (Nat.le_refl _) (Nat.le_refl _) ?_
  obtain ⟨j2, ej2, uj2⟩ := id g0_0
  subst ej2
  show V g κ 3 0 0 (t, cW g X0 F σ0) 11 [(0, .ref (X0 + 0)), (1, .int (nI (j2))), (2, .int (a2))] []
  refine V_iload_n X dX5_ofTown_11 2 rfl ?_
  refine V_iconst (v := nI 0) X dX5_ofTown_12 (by decide) ?_
  refine V_iconst (v := nI 3) X dX5_ofTown_13 (by decide) ?_
  refine V_callS (rest := []) X E.room ml_X5_44 st_X5_needWithin (by decide) (by decide) (k_X5_needWithin hG (a2) (0) (3) (by omega) (by omega)) rfl rfl (Nat.le_of_ble_eq_true rfl) ⟨Nat.le_of_ble_eq_true rfl, Nat.le_of_ble_eq_true rfl⟩ dX5_ofTown_14 (fun Ex σ' h => VX_out X E (Nat.le_of_ble_eq_true rfl) (Nat.le_of_ble_eq_true rfl) ⟨Or.inl (Or.inr ⟨g0_0, Or.inl ⟨h.2.1, h.1⟩⟩), σ'.1, F, Prod.ext rfl h.2.2, cM.rfl'⟩) (fun v9 σ' hp9 => ?_)
  obtain ⟨⟨rfl, g1_2⟩, rfl⟩ := hp9
  refine V.shrink B 0 0 (Nat.le_refl _) (Nat.le_refl _) ?_
  obtain ⟨j4, ej4, lj4, uj4⟩ := id g1_2
  subst ej4
  show V g κ 3 0 0 (t, cW g X0 F σ0) 17 [(0, .ref (X0 + 0)), (1, .int (nI (j2))), (2, .int (nI (j4)))] []
  refine V_iload_n X dX5_ofTown_17 2 rfl ?_
  rcases (show j4 = 0 ∨ j4 = 1 ∨ j4 = 2 ∨ j4 = 3 by omega) with rfl | rfl | rfl | rfl
  · -- case 0
    refine V_tableIn (tgt := 44) X dX5_ofTown_18 (by decide) (by decide) rfl (by decide) ?_
    refine V_aload_n X dX5_ofTown_44 0 rfl ?_
    refine C_getf X fl_X5_40 0 (by decide) rfl rfl dX5_ofTown_45 ?_
    refine C_getf X fl_X5_206 23 (by decide) rfl rfl dX5_ofTown_48 ?_
    refine V_iload_n X dX5_ofTown_51 1 rfl ?_
    refine C_iald X (N := 5) 24 (by decide) (j2) rfl (by omega) (by decide) rfl dX5_ofTown_52 ?_
    refine V.topi (fun x5 ex5 => ?_)
    exact V_iret X E (Nat.zero_le _) (Nat.zero_le _) ⟨_, 0, rfl, by omega, rfl, by omega, _, rfl, Or.inl ⟨rfl, ex5⟩, _, rfl, cM.rfl'⟩ dX5_ofTown_53
  · -- case 1
    refine V_tableIn (tgt := 54) X dX5_ofTown_18 (by decide) (by decide) rfl (by decide) ?_
    refine V_aload_n X dX5_ofTown_54 0 rfl ?_
    refine C_getf X fl_X5_40 0 (by decide) rfl rfl dX5_ofTown_55 ?_
    refine C_getf X fl_X5_209 23 (by decide) rfl rfl dX5_ofTown_58 ?_
    refine V_iload_n X dX5_ofTown_61 1 rfl ?_
    refine C_iald X (N := 5) 25 (by decide) (j2) rfl (by omega) (by decide) rfl dX5_ofTown_62 ?_
    refine V.topi (fun x6 ex6 => ?_)
    exact V_iret X E (Nat.zero_le _) (Nat.zero_le _) ⟨_, 1, rfl, by omega, rfl, by omega, _, rfl, Or.inr (Or.inl ⟨rfl, ex6⟩), _, rfl, cM.rfl'⟩ dX5_ofTown_63
  · -- case 2
    refine V_tableIn (tgt := 64) X dX5_ofTown_18 (by decide) (by decide) rfl (by decide) ?_
    refine V_aload_n X dX5_ofTown_64 0 rfl ?_
    refine C_getf X fl_X5_40 0 (by decide) rfl rfl dX5_ofTown_65 ?_
    refine C_getf X fl_X5_142 23 (by decide) rfl rfl dX5_ofTown_68 ?_
    refine V_iload_n X dX5_ofTown_71 1 rfl ?_
    refine C_iald X (N := 5) 26 (by decide) (j2) rfl (by omega) (by decide) rfl dX5_ofTown_72 ?_
    refine V.topi (fun x7 ex7 => ?_)
    exact V_iret X E (Nat.zero_le _) (Nat.zero_le _) ⟨_, 2, rfl, by omega, rfl, by omega, _, rfl, Or.inr (Or.inr (Or.inl ⟨rfl, ex7⟩)), _, rfl, cM.rfl'⟩ dX5_ofTown_73
  · -- case 3
    refine V_tableOut (tgt := 74) X dX5_ofTown_18 (by decide) (by decide) ?_
    refine V_aload_n X dX5_ofTown_74 0 rfl ?_
    refine C_getf X fl_X5_40 0 (by decide) rfl rfl dX5_ofTown_75 ?_
    refine V_iload_n X dX5_ofTown_78 1 rfl ?_
    refine V_callV (rest := []) X E.room ml_X5_212 in_X3_milesHome (ci := 7) rfl se_X3_milesHome (C_recv (q := 23) (by decide) rfl) (by decide) (by decide) (k_X3_milesHome hX hI (j2) (by omega)) rfl rfl (Nat.le_of_ble_eq_true rfl) ⟨Nat.le_of_ble_eq_true rfl, Nat.le_of_ble_eq_true rfl⟩ dX5_ofTown_79 (fun _ _ h => False.elim h) (fun v79 σ' hp79 => ?_)
    obtain ⟨hp79, rfl⟩ := hp79
    cases (hp79 : _ = some (Value.int (F 24 (j2) + F 25 (j2))))
    show V g κ 3 0 0 (t, cW g X0 F σ0) 82 [(0, .ref (X0 + 0)), (1, .int (nI (j2))), (2, .int (nI (3)))] [.int (F 24 (j2) + F 25 (j2))]
    exact V_iret X E (Nat.zero_le _) (Nat.zero_le _) ⟨_, 3, rfl, by omega, rfl, by omega, _, rfl, Or.inr (Or.inr (Or.inr (⟨rfl, rfl⟩))), _, rfl, cM.rfl'⟩ dX5_ofTown_82
set_option maxRecDepth 100000 in
set_option maxHeartbeats 4000000 in
theorem k_X5_house {g : zG} {t : Nat × Nat} {X0 : Nat} {σ0 : Nat → Option va_E} {F : Nat → Nat → Int32} (hX : g.2.1.size ≤ X0) {nP nS nA nC nT : Nat} (hI : cI nP nS nA nC nT F) (hG : g.1.stackTraces = false)  (a1 : Int32) (hB : cBd nP nS nA F) (hC : cK F) : Ct g 22 yX5_house cX5_house 2 (some FieldType.int) 1 6 [.ref (X0 + 0), .int (a1)] (t, cW g X0 F σ0) (qM pI g t X0 F σ0) (zXP [(zin 0 13 a1, RIAE)] zF0 g X0 F σ0) := by
  refine Ct.of (lv := [(0, .ref (X0 + 0)), (1, .int (a1))]) (by decide) (Nat.le_of_ble_eq_true rfl) rfl ?_
  intro κ X E B _
  have X : zX g κ RX5 cX5_house 2 := X
  obtain ⟨b1, b2, b3, b4, b5⟩ := hI.bnd
  refine V_iload_n X dX5_house_0 1 rfl ?_
  refine V_iconst (v := nI 0) X dX5_house_1 (by decide) ?_
  refine V_bipush (v := nI 13) X dX5_house_2 (by decide) ?_
  refine V_callS (rest := []) X E.room ml_X5_44 st_X5_needWithin (by decide) (by decide) (k_X5_needWithin hG (a1) (0) (13) (by omega) (by omega)) rfl rfl (Nat.le_of_ble_eq_true rfl) ⟨Nat.le_of_ble_eq_true rfl, Nat.le_of_ble_eq_true rfl⟩ dX5_house_4 (fun Ex σ' h => VX_out X E (Nat.le_of_ble_eq_true rfl) (Nat.le_of_ble_eq_true rfl) ⟨Or.inl (Or.inl ⟨h.2.1, h.1⟩), σ'.1, F, Prod.ext rfl h.2.2, cM.rfl'⟩) (fun v9 σ' hp9 => ?_)
  obtain ⟨⟨rfl, g0_0⟩, rfl⟩ := hp9
  refine V.shrink B 0 0 (Nat.le_refl _) (Nat.le_refl _) ?_
  obtain ⟨j2, ej2, lj2, uj2⟩ := id g0_0
  subst ej2
  show V g κ 2 0 0 (t, cW g X0 F σ0) 7 [(0, .ref (X0 + 0)), (1, .int (nI (j2)))] []
  refine V_iload_n X dX5_house_7 1 rfl ?_
  rcases (show j2 = 0 ∨ j2 = 1 ∨ j2 = 2 ∨ j2 = 3 ∨ j2 = 4 ∨ j2 = 5 ∨ j2 = 6 ∨ j2 = 7 ∨ j2 = 8 ∨ j2 = 9 ∨ j2 = 10 ∨ j2 = 11 ∨ j2 = 12 ∨ j2 = 13 by omega) with rfl | rfl | rfl | rfl | rfl | rfl | rfl | rfl | rfl | rfl | rfl | rfl | rfl | rfl
  · -- case 0
    refine V_tableIn (tgt := 76) X dX5_house_8 (by decide) (by decide) rfl (by decide) ?_
    refine V_aload_n X dX5_house_76 0 rfl ?_
    refine C_getf X fl_X5_10 0 (by decide) rfl rfl dX5_house_77 ?_
    refine C_getfN (z := nI (nP)) X fl_X5_48 1 (by decide) rfl rfl hI.f1_5 dX5_house_80 ?_
    exact V_iret X E (Nat.zero_le _) (Nat.zero_le _) ⟨⟨_, rfl⟩, ⟨_, rfl, cM.rfl'⟩⟩ dX5_house_83
  · -- case 1
    refine V_tableIn (tgt := 84) X dX5_house_8 (by decide) (by decide) rfl (by decide) ?_
    refine V_aload_n X dX5_house_84 0 rfl ?_
    refine C_getf X fl_X5_19 0 (by decide) rfl rfl dX5_house_85 ?_
    refine C_getfN (z := nI (nA)) X fl_X5_66 7 (by decide) rfl rfl hI.f7_4 dX5_house_88 ?_
    exact V_iret X E (Nat.zero_le _) (Nat.zero_le _) ⟨⟨_, rfl⟩, ⟨_, rfl, cM.rfl'⟩⟩ dX5_house_91
  · -- case 2
    refine V_tableIn (tgt := 92) X dX5_house_8 (by decide) (by decide) rfl (by decide) ?_
    refine V_aload_n X dX5_house_92 0 rfl ?_
    refine C_getf X fl_X5_19 0 (by decide) rfl rfl dX5_house_93 ?_
    refine V_callV (rest := []) X E.room ml_X5_89 in_X1_countWell (ci := 5) rfl se_X1_countWell (C_recv (q := 7) (by decide) rfl) (by decide) (by decide) (k_X1_countWell hX hI) rfl rfl (Nat.le_of_ble_eq_true rfl) ⟨Nat.le_of_ble_eq_true rfl, Nat.le_of_ble_eq_true rfl⟩ dX5_house_96 (fun _ _ h => False.elim h) (fun v96 σ' hp96 => ?_)
    obtain ⟨hp96, rfl⟩ := hp96
    cases (hp96 : _ = some (Value.int (nI nA - zbc (F 7 5))))
    show V g κ 2 0 0 (t, cW g X0 F σ0) 99 [(0, .ref (X0 + 0)), (1, .int (nI (2)))] [.int (nI nA - zbc (F 7 5))]
    exact V_iret X E (Nat.zero_le _) (Nat.zero_le _) ⟨⟨_, rfl⟩, ⟨_, rfl, cM.rfl'⟩⟩ dX5_house_99
  · -- case 3
    refine V_tableIn (tgt := 100) X dX5_house_8 (by decide) (by decide) rfl (by decide) ?_
    refine V_aload_n X dX5_house_100 0 rfl ?_
    refine C_getf X fl_X5_10 0 (by decide) rfl rfl dX5_house_101 ?_
    refine C_getfN (z := nI (nS)) X fl_X5_72 1 (by decide) rfl rfl hI.f1_6 dX5_house_104 ?_
    exact V_iret X E (Nat.zero_le _) (Nat.zero_le _) ⟨⟨_, rfl⟩, ⟨_, rfl, cM.rfl'⟩⟩ dX5_house_107
  · -- case 4
    refine V_tableIn (tgt := 108) X dX5_house_8 (by decide) (by decide) rfl (by decide) ?_
    refine V_aload_n X dX5_house_108 0 rfl ?_
    refine C_getf X fl_X5_33 0 (by decide) rfl rfl dX5_house_109 ?_
    refine C_getfN (z := nI (nC)) X fl_X5_93 18 (by decide) rfl rfl hI.f18_3 dX5_house_112 ?_
    exact V_iret X E (Nat.zero_le _) (Nat.zero_le _) ⟨⟨_, rfl⟩, ⟨_, rfl, cM.rfl'⟩⟩ dX5_house_115
  · -- case 5
    refine V_tableIn (tgt := 116) X dX5_house_8 (by decide) (by decide) rfl (by decide) ?_
    refine V_aload_n X dX5_house_116 0 rfl ?_
    refine C_getf X fl_X5_33 0 (by decide) rfl rfl dX5_house_117 ?_
    refine C_getf X fl_X5_99 18 (by decide) rfl rfl dX5_house_120 (V.topi (fun x3 ex3 => ?_))
    refine V_callS (rest := []) X E.room ml_X5_215 st_J6_bitCount_0f7a4 (by omega) (by decide) (k_J6_bitCount_0f7a4 (σ := (t, cW g X0 F σ0)) (x3)) rfl rfl (Nat.le_of_ble_eq_true rfl) ⟨Nat.le_of_ble_eq_true rfl, Nat.le_of_ble_eq_true rfl⟩ dX5_house_123 (fun _ _ h => False.elim h) (fun v123 σ' hp123 => ?_)
    obtain ⟨hp123, rfl⟩ := hp123
    cases (hp123 : _ = some (Value.int (zbc (x3))))
    show V g κ 2 0 0 (t, cW g X0 F σ0) 126 [(0, .ref (X0 + 0)), (1, .int (nI (5)))] [.int (zbc (x3))]
    exact V_iret X E (Nat.zero_le _) (Nat.zero_le _) ⟨⟨_, rfl⟩, ⟨_, rfl, cM.rfl'⟩⟩ dX5_house_126
  · -- case 6
    refine V_tableIn (tgt := 127) X dX5_house_8 (by decide) (by decide) rfl (by decide) ?_
    refine V_aload_n X dX5_house_127 0 rfl ?_
    refine C_getf X fl_X5_40 0 (by decide) rfl rfl dX5_house_128 ?_
    refine C_getfN (z := nI (nT)) X fl_X5_127 23 (by decide) rfl rfl hI.f23_4 dX5_house_131 ?_
    exact V_iret X E (Nat.zero_le _) (Nat.zero_le _) ⟨⟨_, rfl⟩, ⟨_, rfl, cM.rfl'⟩⟩ dX5_house_134
  · -- case 7
    refine V_tableIn (tgt := 135) X dX5_house_8 (by decide) (by decide) rfl (by decide) ?_
    refine V_aload_n X dX5_house_135 0 rfl ?_
    refine C_getf X fl_X5_26 0 (by decide) rfl rfl dX5_house_136 ?_
    refine V_aload_n X dX5_house_139 0 rfl ?_
    refine C_getf X fl_X5_10 0 (by decide) rfl rfl dX5_house_140 ?_
    refine V_aload_n X dX5_house_143 0 rfl ?_
    refine C_getf X fl_X5_19 0 (by decide) rfl rfl dX5_house_144 ?_
    refine V_callV (rest := []) X E.room ml_X5_133 in_X0_recall (ci := 4) rfl se_X0_recall (C_recv (q := 12) (by decide) rfl) (by decide) (by decide) (k_X0_recall hX hI hB) rfl rfl (Nat.le_of_ble_eq_true rfl) ⟨Nat.le_of_ble_eq_true rfl, Nat.le_of_ble_eq_true rfl⟩ dX5_house_147 (fun _ _ h => False.elim h) (fun v147 σ' hp147 => ?_)
    obtain ⟨hp147, F4, rfl, hJF4, hkF4⟩ := hp147
    cases (hp147 : _ = none)
    show V g κ 2 0 0 (t, cW g X0 F4 σ0) 150 [(0, .ref (X0 + 0)), (1, .int (nI (7)))] []
    refine V_aload_n X dX5_house_150 0 rfl ?_
    refine C_getf X fl_X5_26 0 (by decide) rfl rfl dX5_house_151 ?_
    refine C_getf X fl_X5_220 12 (by decide) rfl rfl dX5_house_154 (V.topi (fun x5 ex5 => ?_))
    exact V_iret X E (Nat.zero_le _) (Nat.zero_le _) ⟨⟨_, rfl⟩, ⟨_, rfl, hJF4⟩⟩ dX5_house_157
  · -- case 8
    refine V_tableIn (tgt := 158) X dX5_house_8 (by decide) (by decide) rfl (by decide) ?_
    refine V_aload_n X dX5_house_158 0 rfl ?_
    refine C_getf X fl_X5_26 0 (by decide) rfl rfl dX5_house_159 ?_
    refine V_aload_n X dX5_house_162 0 rfl ?_
    refine C_getf X fl_X5_10 0 (by decide) rfl rfl dX5_house_163 ?_
    refine V_aload_n X dX5_house_166 0 rfl ?_
    refine C_getf X fl_X5_19 0 (by decide) rfl rfl dX5_house_167 ?_
    refine V_callV (rest := []) X E.room ml_X5_133 in_X0_recall (ci := 4) rfl se_X0_recall (C_recv (q := 12) (by decide) rfl) (by decide) (by decide) (k_X0_recall hX hI hB) rfl rfl (Nat.le_of_ble_eq_true rfl) ⟨Nat.le_of_ble_eq_true rfl, Nat.le_of_ble_eq_true rfl⟩ dX5_house_170 (fun _ _ h => False.elim h) (fun v170 σ' hp170 => ?_)
    obtain ⟨hp170, F6, rfl, hJF6, hkF6⟩ := hp170
    cases (hp170 : _ = none)
    show V g κ 2 0 0 (t, cW g X0 F6 σ0) 173 [(0, .ref (X0 + 0)), (1, .int (nI (8)))] []
    refine V_aload_n X dX5_house_173 0 rfl ?_
    refine C_getf X fl_X5_26 0 (by decide) rfl rfl dX5_house_174 ?_
    refine C_getf X fl_X5_223 12 (by decide) rfl rfl dX5_house_177 (V.topi (fun x7 ex7 => ?_))
    exact V_iret X E (Nat.zero_le _) (Nat.zero_le _) ⟨⟨_, rfl⟩, ⟨_, rfl, hJF6⟩⟩ dX5_house_180
  · -- case 9
    refine V_tableIn (tgt := 181) X dX5_house_8 (by decide) (by decide) rfl (by decide) ?_
    refine V_aload_n X dX5_house_181 0 rfl ?_
    refine C_getf X fl_X5_113 0 (by decide) rfl rfl dX5_house_182 (V.topi (fun x8 ex8 => ?_))
    exact V_iret X E (Nat.zero_le _) (Nat.zero_le _) ⟨⟨_, rfl⟩, ⟨_, rfl, cM.rfl'⟩⟩ dX5_house_185
  · -- case 10
    refine V_tableIn (tgt := 186) X dX5_house_8 (by decide) (by decide) rfl (by decide) ?_
    refine V_aload_n X dX5_house_186 0 rfl ?_
    refine C_getf X fl_X5_124 0 (by decide) rfl rfl dX5_house_187 (V.topi (fun x9 ex9 => ?_))
    exact V_iret X E (Nat.zero_le _) (Nat.zero_le _) ⟨⟨_, rfl⟩, ⟨_, rfl, cM.rfl'⟩⟩ dX5_house_190
  · -- case 11
    refine V_tableIn (tgt := 191) X dX5_house_8 (by decide) (by decide) rfl (by decide) ?_
    refine V_aload_n X dX5_house_191 0 rfl ?_
    refine C_getf X fl_X5_19 0 (by decide) rfl rfl dX5_house_192 ?_
    refine V_callV (rest := []) X E.room ml_X5_226 in_X1_allPurses (ci := 5) rfl se_X1_allPurses (C_recv (q := 7) (by decide) rfl) (by decide) (by decide) (k_X1_allPurses hX hI) rfl rfl (Nat.le_of_ble_eq_true rfl) ⟨Nat.le_of_ble_eq_true rfl, Nat.le_of_ble_eq_true rfl⟩ dX5_house_195 (fun _ _ h => False.elim h) (fun v195 σ' hp195 => ?_)
    obtain ⟨hp195, rfl⟩ := hp195
    cases (hp195 : _ = some (Value.int (zsm (F 11) nA)))
    show V g κ 2 0 0 (t, cW g X0 F σ0) 198 [(0, .ref (X0 + 0)), (1, .int (nI (11)))] [.int (zsm (F 11) nA)]
    exact V_iret X E (Nat.zero_le _) (Nat.zero_le _) ⟨⟨_, rfl⟩, ⟨_, rfl, cM.rfl'⟩⟩ dX5_house_198
  · -- case 12
    refine V_tableIn (tgt := 199) X dX5_house_8 (by decide) (by decide) rfl (by decide) ?_
    refine V_aload_n X dX5_house_199 0 rfl ?_
    refine C_getf X fl_X5_148 0 (by decide) rfl rfl dX5_house_200 (V.topi (fun x10 ex10 => ?_))
    exact V_iret X E (Nat.zero_le _) (Nat.zero_le _) ⟨⟨_, rfl⟩, ⟨_, rfl, cM.rfl'⟩⟩ dX5_house_203
  · -- case 13
    refine V_tableOut (tgt := 204) X dX5_house_8 (by decide) (by decide) ?_
    refine V_aload_n X dX5_house_204 0 rfl ?_
    refine C_getf X fl_X5_151 0 (by decide) rfl rfl dX5_house_205 (V.topi (fun x11 ex11 => ?_))
    exact V_iret X E (Nat.zero_le _) (Nat.zero_le _) ⟨⟨_, rfl⟩, ⟨_, rfl, cM.rfl'⟩⟩ dX5_house_208
set_option maxRecDepth 100000 in
set_option maxHeartbeats 4000000 in
theorem k_X5_tour {g : zG} {t : Nat × Nat} {X0 : Nat} {σ0 : Nat → Option va_E} {F : Nat → Nat → Int32} (hX : g.2.1.size ≤ X0) {nP nS nA nC nT : Nat} (hI : cI nP nS nA nC nT F) (hG : g.1.stackTraces = false)  (a1 : Int32) (a2 : Int32) (hB : cBd nP nS nA F) (hC : cK F) : Ct g 13 yX5_tour cX5_tour 4 (some FieldType.int) 1 6 [.ref (X0 + 0), .int (a1), .int (a2)] (t, cW g X0 F σ0) (qM pI g t X0 F σ0) (zXP [(zin 0 2000 a1, RIAE), (zin 0 2 a2, RIAE)] zF0 g X0 F σ0) := by
  refine Ct.of (lv := [(0, .ref (X0 + 0)), (1, .int (a1)), (2, .int (a2))]) (by decide) (Nat.le_of_ble_eq_true rfl) rfl ?_
  intro κ X E B _
  have X : zX g κ RX5 cX5_tour 4 := X
  obtain ⟨b1, b2, b3, b4, b5⟩ := hI.bnd
  refine V_iload_n X dX5_tour_0 1 rfl ?_
  refine V_iconst (v := nI 0) X dX5_tour_1 (by decide) ?_
  refine V_sipush (v := nI 2000) X dX5_tour_2 (by decide) ?_
  refine V_callS (rest := []) X E.room ml_X5_44 st_X5_needWithin (by decide) (by decide) (k_X5_needWithin hG (a1) (0) (2000) (by omega) (by omega)) rfl rfl (Nat.le_of_ble_eq_true rfl) ⟨Nat.le_of_ble_eq_true rfl, Nat.le_of_ble_eq_true rfl⟩ dX5_tour_5 (fun Ex σ' h => VX_out X E (Nat.le_of_ble_eq_true rfl) (Nat.le_of_ble_eq_true rfl) ⟨Or.inl (Or.inl ⟨h.2.1, h.1⟩), σ'.1, F, Prod.ext rfl h.2.2, cM.rfl'⟩) (fun v9 σ' hp9 => ?_)
  obtain ⟨⟨rfl, g0_0⟩, rfl⟩ := hp9
  refine V.shrink B 0 0 (Nat.le_refl _) (Nat.le_refl _) ?_
  obtain ⟨j2, ej2, lj2, uj2⟩ := id g0_0
  subst ej2
  show V g κ 4 0 0 (t, cW g X0 F σ0) 8 [(0, .ref (X0 + 0)), (1, .int (nI (j2))), (2, .int (a2))] []
  refine V_iload_n X dX5_tour_8 2 rfl ?_
  refine V_iconst (v := nI 0) X dX5_tour_9 (by decide) ?_
  refine V_iconst (v := nI 2) X dX5_tour_10 (by decide) ?_
  refine V_callS (rest := []) X E.room ml_X5_44 st_X5_needWithin (by decide) (by decide) (k_X5_needWithin hG (a2) (0) (2) (by omega) (by omega)) rfl rfl (Nat.le_of_ble_eq_true rfl) ⟨Nat.le_of_ble_eq_true rfl, Nat.le_of_ble_eq_true rfl⟩ dX5_tour_11 (fun Ex σ' h => VX_out X E (Nat.le_of_ble_eq_true rfl) (Nat.le_of_ble_eq_true rfl) ⟨Or.inl (Or.inr ⟨g0_0, Or.inl ⟨h.2.1, h.1⟩⟩), σ'.1, F, Prod.ext rfl h.2.2, cM.rfl'⟩) (fun v9 σ' hp9 => ?_)
  obtain ⟨⟨rfl, g1_2⟩, rfl⟩ := hp9
  refine V.shrink B 0 0 (Nat.le_refl _) (Nat.le_refl _) ?_
  obtain ⟨j4, ej4, lj4, uj4⟩ := id g1_2
  subst ej4
  show V g κ 4 0 0 (t, cW g X0 F σ0) 14 [(0, .ref (X0 + 0)), (1, .int (nI (j2))), (2, .int (nI (j4)))] []
  refine V_aload_n X dX5_tour_14 0 rfl ?_
  refine C_getf X fl_X5_40 0 (by decide) rfl rfl dX5_tour_15 ?_
  refine V_iload_n X dX5_tour_18 1 rfl ?_
  refine V_callV (rest := []) X E.room ml_X5_242 in_X3_bestTour (ci := 7) rfl se_X3_bestTour (C_recv (q := 23) (by decide) rfl) (by decide) (by decide) (k_X3_bestTour hX hI (nI (j2))) rfl rfl (Nat.le_of_ble_eq_true rfl) ⟨Nat.le_of_ble_eq_true rfl, Nat.le_of_ble_eq_true rfl⟩ dX5_tour_19 (fun _ _ h => False.elim h) (fun v19 σ' hp19 => ?_)
  obtain ⟨hp19, rfl⟩ := hp19
  obtain ⟨r5, hr5, rfl⟩ := hp19
  show V g κ 4 0 0 (t, cW g X0 F σ0) 22 [(0, .ref (X0 + 0)), (1, .int (nI (j2))), (2, .int (nI (j4)))] [.int (nI (r5))]
  refine V_istore_n X [(3, .int (nI (r5))), (0, .ref (X0 + 0)), (1, .int (nI (j2))), (2, .int (nI (j4)))] dX5_tour_22 (by decide) rfl ?_
  refine V_iload_n X dX5_tour_23 3 rfl ?_
  rcases (show j4 = 0 ∨ j4 = 1 ∨ j4 = 2 by omega) with rfl | rfl | rfl
  · -- case 0
    refine V_lookup (off := 28) (tgt := 52) X dX5_tour_24 (by decide) (by decide) (by decide) ?_
    refine V_iload_n X dX5_tour_52 0 rfl ?_
    exact V_iret X E (Nat.zero_le _) (Nat.zero_le _) ⟨⟨_, rfl⟩, ⟨_, rfl, cM.rfl'⟩⟩ dX5_tour_53
  · -- case 1
    refine V_lookup (off := 30) (tgt := 54) X dX5_tour_24 (by decide) (by decide) (by decide) ?_
    refine V_aload_n X dX5_tour_54 1 rfl ?_
    refine C_getf X fl_X5_40 0 (by decide) rfl rfl dX5_tour_55 ?_
    refine V_iload_n X dX5_tour_58 0 rfl ?_
    refine V_callV (rest := []) X E.room ml_X5_245 in_X3_takingsOf (ci := 7) rfl se_X3_takingsOf (C_recv (q := 23) (by decide) rfl) (by decide) (by decide) (k_X3_takingsOf hX hI (nI (r5))) rfl rfl (Nat.le_of_ble_eq_true rfl) ⟨Nat.le_of_ble_eq_true rfl, Nat.le_of_ble_eq_true rfl⟩ dX5_tour_59 (fun _ _ h => False.elim h) (fun v59 σ' hp59 => ?_)
    obtain ⟨hp59, rfl⟩ := hp59
    cases (hp59 : _ = some (Value.int (zss (F 26) (fun q => zIn (nI (r5)) (nI q)) nT)))
    show V g κ 4 0 0 (t, cW g X0 F σ0) 62 [(3, .int (nI (r5))), (0, .ref (X0 + 0)), (1, .int (nI (j2))), (2, .int (nI (1)))] [.int (zss (F 26) (fun q => zIn (nI (r5)) (nI q)) nT)]
    exact V_iret X E (Nat.zero_le _) (Nat.zero_le _) ⟨⟨_, rfl⟩, ⟨_, rfl, cM.rfl'⟩⟩ dX5_tour_62
  · -- case 2
    refine V_lookup (off := 39) (tgt := 63) X dX5_tour_24 (by decide) (by decide) (by decide) ?_
    refine V_aload_n X dX5_tour_63 1 rfl ?_
    refine C_getf X fl_X5_40 0 (by decide) rfl rfl dX5_tour_64 ?_
    refine C_getf X fl_X5_248 23 (by decide) rfl rfl dX5_tour_67 ?_
    refine V_iload_n X dX5_tour_70 0 rfl ?_
    refine C_iald X (N := 32) 27 (by decide) (r5) rfl (by omega) (by decide) rfl dX5_tour_71 ?_
    refine V.topi (fun x6 ex6 => ?_)
    exact V_iret X E (Nat.zero_le _) (Nat.zero_le _) ⟨⟨_, rfl⟩, ⟨_, rfl, cM.rfl'⟩⟩ dX5_tour_72
set_option maxRecDepth 100000 in
set_option maxHeartbeats 4000000 in
theorem k_X5_would {g : zG} {t : Nat × Nat} {X0 : Nat} {σ0 : Nat → Option va_E} {F : Nat → Nat → Int32} (hX : g.2.1.size ≤ X0) {nP nS nA nC nT : Nat} (hI : cI nP nS nA nC nT F) (hG : g.1.stackTraces = false)  (a1 : Int32) (hB : cBd nP nS nA F) (hC : cK F) : Ct g 21 yX5_would cX5_would 2 (some FieldType.int) 1 6 [.ref (X0 + 0), .int (a1)] (t, cW g X0 F σ0) (fun v σ' => zlt (2 ^ nS) a1 ∧ ∃ x : Int32, v = some (.int x) ∧ mFew (zFC nP nS nA F (nI (2 ^ nS - 1) &&& (a1 ^^^ (-1)))) x ∧ ∃ F' : Nat → Nat → Int32, σ' = (t, cW g X0 F' σ0) ∧ cM F F') (zXP [(zlt (2 ^ nS) a1, RIAE)] zF0 g X0 F σ0) := by
  refine Ct.of (lv := [(0, .ref (X0 + 0)), (1, .int (a1))]) (by decide) (Nat.le_of_ble_eq_true rfl) rfl ?_
  intro κ X E B _
  have X : zX g κ RX5 cX5_would 2 := X
  obtain ⟨b1, b2, b3, b4, b5⟩ := hI.bnd
  have h64 : 2 ^ nS ≤ 64 := zp2 (n := 6) (by omega)
  have h1 := Nat.one_le_two_pow (n := nS)
  refine V_iload_n X dX5_would_0 1 rfl ?_
  refine V_aload_n X dX5_would_1 0 rfl ?_
  refine C_getf X fl_X5_10 0 (by decide) rfl rfl dX5_would_2 ?_
  refine C_getfN (z := nI (nS)) X fl_X5_72 1 (by decide) rfl rfl hI.f1_6 dX5_would_5 ?_
  refine V_callS (rest := []) X E.room ml_X5_63 st_X5_needSet (by decide) (by decide) (k_X5_needSet hG (a1) (nS) (by omega)) rfl rfl (Nat.le_of_ble_eq_true rfl) ⟨Nat.le_of_ble_eq_true rfl, Nat.le_of_ble_eq_true rfl⟩ dX5_would_8 (fun Ex σ' h => VX_out X E (Nat.le_of_ble_eq_true rfl) (Nat.le_of_ble_eq_true rfl) ⟨Or.inl (Or.inl ⟨h.2.1, h.1⟩), σ'.1, F, Prod.ext rfl h.2.2, cM.rfl'⟩) (fun v9 σ' hp9 => ?_)
  obtain ⟨⟨rfl, g0_0⟩, rfl⟩ := hp9
  refine V.shrink B 0 0 (Nat.le_refl _) (Nat.le_refl _) ?_
  obtain ⟨j2, ej2, uj2⟩ := id g0_0
  subst ej2
  show V g κ 2 0 0 (t, cW g X0 F σ0) 11 [(0, .ref (X0 + 0)), (1, .int (nI (j2)))] []
  refine V_aload_n X dX5_would_11 0 rfl ?_
  refine C_getf X fl_X5_26 0 (by decide) rfl rfl dX5_would_12 ?_
  refine V_aload_n X dX5_would_15 0 rfl ?_
  refine C_getf X fl_X5_10 0 (by decide) rfl rfl dX5_would_16 ?_
  refine V_aload_n X dX5_would_19 0 rfl ?_
  refine C_getf X fl_X5_19 0 (by decide) rfl rfl dX5_would_20 ?_
  refine V_aload_n X dX5_would_23 0 rfl ?_
  refine C_getf X fl_X5_10 0 (by decide) rfl rfl dX5_would_24 ?_
  refine V_callV (rest := [.ref (X0 + 7), .ref (X0 + 1), .ref (X0 + 12)]) X E.room ml_X5_251 in_X2_allScenes (ci := 6) rfl se_X2_allScenes (C_recv (q := 1) (by decide) rfl) (by decide) (by decide) (k_X2_allScenes hX hI) rfl rfl (Nat.le_of_ble_eq_true rfl) ⟨Nat.le_of_ble_eq_true rfl, Nat.le_of_ble_eq_true rfl⟩ dX5_would_27 (fun _ _ h => False.elim h) (fun v27 σ' hp27 => ?_)
  obtain ⟨hp27, rfl⟩ := hp27
  cases (hp27 : _ = some (Value.int (nI (2 ^ nS - 1))))
  show V g κ 2 0 0 (t, cW g X0 F σ0) 30 [(0, .ref (X0 + 0)), (1, .int (nI (j2)))] [.int (nI (2 ^ nS - 1)), .ref (X0 + 7), .ref (X0 + 1), .ref (X0 + 12)]
  refine V_iload_n X dX5_would_30 1 rfl ?_
  refine V_iconst (v := (-1)) X dX5_would_31 (by decide) ?_
  refine V_ixor X dX5_would_32 (V.topi (fun w3 ew3 => ?_))
  refine V_iandL X (by omega) dX5_would_33 (fun j4 hj4 ej4 => ?_)
  refine V_callV (rest := []) X E.room ml_X5_254 in_X0_fewest (ci := 4) rfl se_X0_fewest (C_recv (q := 12) (by decide) rfl) (by decide) (by decide) (k_X0_fewest_x hX hI (nI (j4)) hB) rfl rfl (Nat.le_of_ble_eq_true rfl) ⟨Nat.le_of_ble_eq_true rfl, Nat.le_of_ble_eq_true rfl⟩ dX5_would_34 (fun _ _ h => False.elim h) (fun v34 σ' hp34 => ?_)
  obtain ⟨r6, rfl, fr6, F5, rfl, hJF5, habF5⟩ := hp34
  have hKF5 : cM F F5 := hJF5.m
  show V g κ 2 0 0 (t, cW g X0 F5 σ0) 37 [(0, .ref (X0 + 0)), (1, .int (nI (j2)))] [.int (r6)]
  exact V_iret X E (Nat.zero_le _) (Nat.zero_le _) ⟨g0_0, _, rfl, by rw [← ew3, ej4]; exact fr6, _, rfl, hKF5⟩ dX5_would_37
set_option maxRecDepth 100000 in
set_option maxHeartbeats 4000000 in
theorem k_X5_without {g : zG} {t : Nat × Nat} {X0 : Nat} {σ0 : Nat → Option va_E} {F : Nat → Nat → Int32} (hX : g.2.1.size ≤ X0) {nP nS nA nC nT : Nat} (hI : cI nP nS nA nC nT F) (hG : g.1.stackTraces = false)  (a1 : Int32) (hB : cBd nP nS nA F) (hC : cK F) : Ct g 21 yX5_without cX5_without 4 (some FieldType.int) 1 6 [.ref (X0 + 0), .int (a1)] (t, cW g X0 F σ0) (fun v σ' => ∃ p : Nat, a1 = nI p ∧ p < nA ∧ ∃ x : Int32, v = some (.int x) ∧ mFew (zFC nP nS nA (fset F 7 5 (F 7 5 ||| nI (2 ^ p))) (nI (2 ^ nS - 1))) x ∧ ∃ F' : Nat → Nat → Int32, σ' = (t, cW g X0 F' σ0) ∧ cM F F') (zXP [(zlt nA a1, RIOB)] zF0 g X0 F σ0) := by
  refine Ct.of (lv := [(0, .ref (X0 + 0)), (1, .int (a1))]) (by decide) (Nat.le_of_ble_eq_true rfl) rfl ?_
  intro κ X E B _
  have X : zX g κ RX5 cX5_without 4 := X
  obtain ⟨b1, b2, b3, b4, b5⟩ := hI.bnd
  refine V_iload_n X dX5_without_0 1 rfl ?_
  refine V_aload_n X dX5_without_1 0 rfl ?_
  refine C_getf X fl_X5_19 0 (by decide) rfl rfl dX5_without_2 ?_
  refine C_getfN (z := nI (nA)) X fl_X5_66 7 (by decide) rfl rfl hI.f7_4 dX5_without_5 ?_
  refine V_callS (rest := []) X E.room ml_X5_79 st_X5_needIndex (by decide) (by decide) (k_X5_needIndex hG (a1) (nA) (by omega)) rfl rfl (Nat.le_of_ble_eq_true rfl) ⟨Nat.le_of_ble_eq_true rfl, Nat.le_of_ble_eq_true rfl⟩ dX5_without_8 (fun Ex σ' h => VX_out X E (Nat.le_of_ble_eq_true rfl) (Nat.le_of_ble_eq_true rfl) ⟨Or.inl (Or.inl ⟨h.2.1, h.1⟩), σ'.1, F, Prod.ext rfl h.2.2, cM.rfl'⟩) (fun v9 σ' hp9 => ?_)
  obtain ⟨⟨rfl, g0_0⟩, rfl⟩ := hp9
  refine V.shrink B 0 0 (Nat.le_refl _) (Nat.le_refl _) ?_
  obtain ⟨j2, ej2, uj2⟩ := id g0_0
  subst ej2
  show V g κ 4 0 0 (t, cW g X0 F σ0) 11 [(0, .ref (X0 + 0)), (1, .int (nI (j2)))] []
  refine V_aload_n X dX5_without_11 0 rfl ?_
  refine C_getf X fl_X5_19 0 (by decide) rfl rfl dX5_without_12 ?_
  refine C_getf X fl_X5_86 7 (by decide) rfl rfl dX5_without_15 (V.topi (fun x3 ex3 => ?_))
  refine V_istore_n X [(2, .int (x3)), (0, .ref (X0 + 0)), (1, .int (nI (j2)))] dX5_without_18 (by decide) rfl ?_
  refine V_aload_n X dX5_without_19 1 rfl ?_
  refine C_getf X fl_X5_19 0 (by decide) rfl rfl dX5_without_20 ?_
  refine V_dup X dX5_without_23 rfl ?_
  refine C_getf X fl_X5_86 7 (by decide) rfl rfl dX5_without_24 (V.topi (fun x4 ex4 => ?_))
  refine V_iconst (v := nI 1) X dX5_without_27 (by decide) ?_
  refine V_iload_n X dX5_without_28 2 rfl ?_
  refine V_ishl1 X (by omega) dX5_without_29 ?_
  refine V_ior X dX5_without_30 (V.topi (fun w5 ew5 => ?_))
  refine C_putf X fl_X5_86 zt_X1 7 (by decide) hX rfl (Nat.le_of_ble_eq_true rfl) rfl rfl rfl rfl rfl dX5_without_31 (fun F6 hF6 => ?_)
  have hBF6 : cBd nP nS nA F6 := hB.mvM (fun k j h => by rw [hF6, fset_ne (by omega)])
  have hIF6 := hI.st hF6 rfl
  refine V_aload_n X dX5_without_34 1 rfl ?_
  refine C_getf X fl_X5_26 0 (by decide) rfl rfl dX5_without_35 ?_
  refine V_aload_n X dX5_without_38 1 rfl ?_
  refine C_getf X fl_X5_10 0 (by decide) rfl rfl dX5_without_39 ?_
  refine V_aload_n X dX5_without_42 1 rfl ?_
  refine C_getf X fl_X5_19 0 (by decide) rfl rfl dX5_without_43 ?_
  refine V_aload_n X dX5_without_46 1 rfl ?_
  refine C_getf X fl_X5_10 0 (by decide) rfl rfl dX5_without_47 ?_
  refine V_callV (rest := [.ref (X0 + 7), .ref (X0 + 1), .ref (X0 + 12)]) X E.room ml_X5_251 in_X2_allScenes (ci := 6) rfl se_X2_allScenes (C_recv (q := 1) (by decide) rfl) (by decide) (by decide) (k_X2_allScenes hX hIF6) rfl rfl (Nat.le_of_ble_eq_true rfl) ⟨Nat.le_of_ble_eq_true rfl, Nat.le_of_ble_eq_true rfl⟩ dX5_without_50 (fun _ _ h => False.elim h) (fun v50 σ' hp50 => ?_)
  obtain ⟨hp50, rfl⟩ := hp50
  cases (hp50 : _ = some (Value.int (nI (2 ^ nS - 1))))
  show V g κ 4 0 0 (t, cW g X0 F6 σ0) 53 [(2, .int (x3)), (0, .ref (X0 + 0)), (1, .int (nI (j2)))] [.int (nI (2 ^ nS - 1)), .ref (X0 + 7), .ref (X0 + 1), .ref (X0 + 12)]
  refine V_callV (rest := []) X E.room ml_X5_254 in_X0_fewest (ci := 4) rfl se_X0_fewest (C_recv (q := 12) (by decide) rfl) (by decide) (by decide) (k_X0_fewest_x hX hIF6 (nI (2 ^ nS - 1)) hBF6) rfl rfl (Nat.le_of_ble_eq_true rfl) ⟨Nat.le_of_ble_eq_true rfl, Nat.le_of_ble_eq_true rfl⟩ dX5_without_53 (fun _ _ h => False.elim h) (fun v53 σ' hp53 => ?_)
  obtain ⟨r8, rfl, fr8, F7, rfl, hJF7, habF7⟩ := hp53
  have hKF7 : cM F6 F7 := hJF7.m
  show V g κ 4 0 0 (t, cW g X0 F7 σ0) 56 [(2, .int (x3)), (0, .ref (X0 + 0)), (1, .int (nI (j2)))] [.int (r8)]
  refine V_istore_n X [(3, .int (r8)), (2, .int (x3)), (0, .ref (X0 + 0)), (1, .int (nI (j2)))] dX5_without_56 (by decide) rfl ?_
  refine V_aload_n X dX5_without_57 2 rfl ?_
  refine C_getf X fl_X5_19 0 (by decide) rfl rfl dX5_without_58 ?_
  refine V_iload_n X dX5_without_61 1 rfl ?_
  refine C_putf X fl_X5_86 zt_X1 7 (by decide) hX rfl (Nat.le_of_ble_eq_true rfl) rfl rfl rfl rfl rfl dX5_without_62 (fun F9 hF9 => ?_)
  have hJF9 : cM F F9 := cJ.undo hF6 hJF7 hF9 ex3
  refine V_iload_n X dX5_without_65 0 rfl ?_
  exact V_iret X E (Nat.zero_le _) (Nat.zero_le _) ⟨_, rfl, by omega, _, rfl, by rw [← ex4, ← ew5, ← hF6]; exact fr8, _, rfl, hJF9⟩ dX5_without_66
set_option maxRecDepth 100000 in
set_option maxHeartbeats 4000000 in
theorem k_X5_shareOf {g : zG} {t : Nat × Nat} {X0 : Nat} {σ0 : Nat → Option va_E} {F : Nat → Nat → Int32} (hX : g.2.1.size ≤ X0) {nP nS nA nC nT : Nat} (hI : cI nP nS nA nC nT F) (hG : g.1.stackTraces = false)  (a1 : Int32) (a2 : Int32) (hB : cBd nP nS nA F) (hC : cK F) : Ct g 22 yX5_shareOf cX5_shareOf 3 (some FieldType.int) 1 6 [.ref (X0 + 0), .int (a1), .int (a2)] (t, cW g X0 F σ0) (fun v σ' => ∃ p : Nat, a2 = nI p ∧ p < nA ∧ zin 0 9999 a1 ∧ ∃ x : Int32, v = some (.int x) ∧ cSh nP nS nA F a1 p x ∧ ∃ F' : Nat → Nat → Int32, σ' = (t, cW g X0 F' σ0) ∧ cM F F') (zXP [(zlt nA a2, RIOB), (zin 0 9999 a1, RIAE)] zF0 g X0 F σ0) := by
  refine Ct.of (lv := [(0, .ref (X0 + 0)), (1, .int (a1)), (2, .int (a2))]) (by decide) (Nat.le_of_ble_eq_true rfl) rfl ?_
  intro κ X E B _
  have X : zX g κ RX5 cX5_shareOf 3 := X
  obtain ⟨b1, b2, b3, b4, b5⟩ := hI.bnd
  refine V_iload_n X dX5_shareOf_0 2 rfl ?_
  refine V_aload_n X dX5_shareOf_1 0 rfl ?_
  refine C_getf X fl_X5_19 0 (by decide) rfl rfl dX5_shareOf_2 ?_
  refine C_getfN (z := nI (nA)) X fl_X5_66 7 (by decide) rfl rfl hI.f7_4 dX5_shareOf_5 ?_
  refine V_callS (rest := []) X E.room ml_X5_79 st_X5_needIndex (by decide) (by decide) (k_X5_needIndex hG (a2) (nA) (by omega)) rfl rfl (Nat.le_of_ble_eq_true rfl) ⟨Nat.le_of_ble_eq_true rfl, Nat.le_of_ble_eq_true rfl⟩ dX5_shareOf_8 (fun Ex σ' h => VX_out X E (Nat.le_of_ble_eq_true rfl) (Nat.le_of_ble_eq_true rfl) ⟨Or.inl (Or.inl ⟨h.2.1, h.1⟩), σ'.1, F, Prod.ext rfl h.2.2, cM.rfl'⟩) (fun v9 σ' hp9 => ?_)
  obtain ⟨⟨rfl, g0_0⟩, rfl⟩ := hp9
  refine V.shrink B 0 0 (Nat.le_refl _) (Nat.le_refl _) ?_
  obtain ⟨j2, ej2, uj2⟩ := id g0_0
  subst ej2
  show V g κ 3 0 0 (t, cW g X0 F σ0) 11 [(0, .ref (X0 + 0)), (1, .int (a1)), (2, .int (nI (j2)))] []
  refine V_iload_n X dX5_shareOf_11 1 rfl ?_
  refine V_iconst (v := nI 0) X dX5_shareOf_12 (by decide) ?_
  refine V_sipush (v := nI 9999) X dX5_shareOf_13 (by decide) ?_
  refine V_callS (rest := []) X E.room ml_X5_44 st_X5_needWithin (by decide) (by decide) (k_X5_needWithin hG (a1) (0) (9999) (by omega) (by omega)) rfl rfl (Nat.le_of_ble_eq_true rfl) ⟨Nat.le_of_ble_eq_true rfl, Nat.le_of_ble_eq_true rfl⟩ dX5_shareOf_16 (fun Ex σ' h => VX_out X E (Nat.le_of_ble_eq_true rfl) (Nat.le_of_ble_eq_true rfl) ⟨Or.inl (Or.inr ⟨g0_0, Or.inl ⟨h.2.1, h.1⟩⟩), σ'.1, F, Prod.ext rfl h.2.2, cM.rfl'⟩) (fun v9 σ' hp9 => ?_)
  obtain ⟨⟨rfl, g1_2⟩, rfl⟩ := hp9
  refine V.shrink B 0 0 (Nat.le_refl _) (Nat.le_refl _) ?_
  obtain ⟨j4, ej4, lj4, uj4⟩ := id g1_2
  subst ej4
  show V g κ 3 0 0 (t, cW g X0 F σ0) 19 [(0, .ref (X0 + 0)), (1, .int (nI (j4))), (2, .int (nI (j2)))] []
  refine V_aload_n X dX5_shareOf_19 0 rfl ?_
  refine C_getf X fl_X5_26 0 (by decide) rfl rfl dX5_shareOf_20 ?_
  refine V_aload_n X dX5_shareOf_23 0 rfl ?_
  refine C_getf X fl_X5_10 0 (by decide) rfl rfl dX5_shareOf_24 ?_
  refine V_aload_n X dX5_shareOf_27 0 rfl ?_
  refine C_getf X fl_X5_19 0 (by decide) rfl rfl dX5_shareOf_28 ?_
  refine V_callV (rest := []) X E.room ml_X5_133 in_X0_recall (ci := 4) rfl se_X0_recall (C_recv (q := 12) (by decide) rfl) (by decide) (by decide) (k_X0_recall hX hI hB) rfl rfl (Nat.le_of_ble_eq_true rfl) ⟨Nat.le_of_ble_eq_true rfl, Nat.le_of_ble_eq_true rfl⟩ dX5_shareOf_31 (fun _ _ h => False.elim h) (fun v31 σ' hp31 => ?_)
  obtain ⟨hp31, F5, rfl, hJF5, hkF5⟩ := hp31
  obtain ⟨hF5b, xF5, yF5, zF5⟩ := cBest_of hC hJF5 hI hkF5
  cases (hp31 : _ = none)
  show V g κ 3 0 0 (t, cW g X0 F5 σ0) 34 [(0, .ref (X0 + 0)), (1, .int (nI (j4))), (2, .int (nI (j2)))] []
  refine V_aload_n X dX5_shareOf_34 0 rfl ?_
  refine C_getf X fl_X5_19 0 (by decide) rfl rfl dX5_shareOf_35 ?_
  refine V_iload_n X dX5_shareOf_38 1 rfl ?_
  refine V_iload_n X dX5_shareOf_39 2 rfl ?_
  refine V_aload_n X dX5_shareOf_40 0 rfl ?_
  refine C_getf X fl_X5_26 0 (by decide) rfl rfl dX5_shareOf_41 ?_
  refine V_callV (rest := [.int (nI (j2)), .int (nI (j4)), .ref (X0 + 7)]) X E.room ml_X5_137 in_X0_actors (ci := 4) rfl se_X0_actors (C_recv (q := 12) (by decide) rfl) (by decide) (by decide) (k_X0_actors hX (hI.mvM hJF5)) rfl rfl (Nat.le_of_ble_eq_true rfl) ⟨Nat.le_of_ble_eq_true rfl, Nat.le_of_ble_eq_true rfl⟩ dX5_shareOf_44 (fun _ _ h => False.elim h) (fun v44 σ' hp44 => ?_)
  obtain ⟨hp44, rfl⟩ := hp44
  obtain ⟨r6, rfl, fr6⟩ := hp44
  show V g κ 3 0 0 (t, cW g X0 F5 σ0) 47 [(0, .ref (X0 + 0)), (1, .int (nI (j4))), (2, .int (nI (j2)))] [.int (r6), .int (nI (j2)), .int (nI (j4)), .ref (X0 + 7)]
  refine V_callV (rest := []) X E.room ml_X5_145 in_X1_portion (ci := 5) rfl se_X1_portion (C_recv (q := 7) (by decide) rfl) (by decide) (by decide) (k_X1_portion hX (hI.mvM hJF5) (nI (j4)) (j2) (by omega) (r6)) rfl rfl (Nat.le_of_ble_eq_true rfl) ⟨Nat.le_of_ble_eq_true rfl, Nat.le_of_ble_eq_true rfl⟩ dX5_shareOf_47 (fun _ _ h => False.elim h) (fun v47 σ' hp47 => ?_)
  obtain ⟨hp47, rfl⟩ := hp47
  cases (hp47 : _ = some (Value.int (zPo (F5 10) (fun q => zIn (r6) (nI q)) nA (nI (j4)) (j2))))
  show V g κ 3 0 0 (t, cW g X0 F5 σ0) 50 [(0, .ref (X0 + 0)), (1, .int (nI (j4))), (2, .int (nI (j2)))] [.int (zPo (F5 10) (fun q => zIn (r6) (nI q)) nA (nI (j4)) (j2))]
  exact V_iret X E (Nat.zero_le _) (Nat.zero_le _) ⟨_, rfl, by omega, g1_2, _, rfl, ⟨_, _, xF5, zPo_cg (by omega) (fun i _ => hJF5.1 10 i (scM_f (by omega))) (fun i hi => (fr6.In (by omega)).trans ⟨fun z => (zAc_iff (yF5 i (by omega))).mp z.2, fun z => ⟨by omega, (zAc_iff (yF5 i (by omega))).mpr z⟩⟩)⟩, _, rfl, hJF5⟩ dX5_shareOf_50
set_option maxRecDepth 100000 in
set_option maxHeartbeats 4000000 in
theorem k_X5_isSound {g : zG} {t : Nat × Nat} {X0 : Nat} {σ0 : Nat → Option va_E} {F : Nat → Nat → Int32} (hX : g.2.1.size ≤ X0) {nP nS nA nC nT : Nat} (hI : cI nP nS nA nC nT F)  (hB : cBd nP nS nA F) (hC : cK F) : Ct g 22 yX5_isSound cX5_isSound 3 (some FieldType.boolean) 0 0 [.ref (X0 + 0)] (t, cW g X0 F σ0) (qM pB g t X0 F σ0) zNo := by
  refine Ct.of (lv := [(0, .ref (X0 + 0))]) (by decide) (Nat.le_of_ble_eq_true rfl) rfl ?_
  intro κ X E B _
  have X : zX g κ RX5 cX5_isSound 3 := X
  obtain ⟨b1, b2, b3, b4, b5⟩ := hI.bnd
  refine V_iconst (v := nI 0) X dX5_isSound_0 (by decide) ?_
  refine V_istore_n X [(1, .int (nI (0))), (0, .ref (X0 + 0))] dX5_isSound_1 (by decide) rfl ?_
  have L2 : ∀ (n2 : Nat) (i2 : Nat), n2 = nS - i2 → i2 ≤ nS → V g κ 3 0 0 (t, cW g X0 F σ0) 2 [(1, .int (nI (i2))), (0, .ref (X0 + 0))] [] := by
    intro n2
    induction n2 using Nat.strongRecOn with
    | ind n2 ih2 =>
      intro i2 hn2 hi2
      refine V_iload_n X dX5_isSound_2 0 rfl ?_
      refine V_aload_n X dX5_isSound_3 1 rfl ?_
      refine C_getf X fl_X5_10 0 (by decide) rfl rfl dX5_isSound_4 ?_
      refine C_getfN (z := nI (nS)) X fl_X5_72 1 (by decide) rfl rfl hI.f1_6 dX5_isSound_7 ?_
      refine V_icmpgeN X (by omega) (by omega) (tgt := 53) dX5_isSound_10 (by decide) (fun h1 => ?_) (fun h1 => ?_)
      · -- 10 true
        refine V_aload_n X dX5_isSound_53 1 rfl ?_
        refine C_getf X fl_X5_19 0 (by decide) rfl rfl dX5_isSound_54 ?_
        refine V_callV (rest := []) X E.room ml_X5_226 in_X1_allPurses (ci := 5) rfl se_X1_allPurses (C_recv (q := 7) (by decide) rfl) (by decide) (by decide) (k_X1_allPurses hX hI) rfl rfl (Nat.le_of_ble_eq_true rfl) ⟨Nat.le_refl _, Nat.le_refl _⟩ dX5_isSound_57 (fun _ _ h => False.elim h) (fun v57 σ' hp57 => ?_)
        obtain ⟨hp57, rfl⟩ := hp57
        cases (hp57 : _ = some (Value.int (zsm (F 11) nA)))
        show V g κ 3 0 0 (t, cW g X0 F σ0) 60 [(1, .int (nI (i2))), (0, .ref (X0 + 0))] [.int (zsm (F 11) nA)]
        refine V_aload_n X dX5_isSound_60 1 rfl ?_
        refine C_getf X fl_X5_113 0 (by decide) rfl rfl dX5_isSound_61 (V.topi (fun x2 ex2 => ?_))
        refine V_aload_n X dX5_isSound_64 1 rfl ?_
        refine C_getf X fl_X5_124 0 (by decide) rfl rfl dX5_isSound_65 (V.topi (fun x3 ex3 => ?_))
        refine V_isub X dX5_isSound_68 (V.topi (fun w4 ew4 => ?_))
        refine V_icmpne X (tgt := 82) dX5_isSound_69 (by decide) (fun h5 => ?_) (fun h5 => ?_)
        · -- 69 true
          refine V_iconst (v := nI 0) X dX5_isSound_82 (by decide) ?_
          exact V_zret X E (zbool z01_0) (Nat.zero_le _) (Nat.zero_le _) ⟨⟨_, rfl, z01_0⟩, ⟨_, rfl, cM.rfl'⟩⟩ dX5_isSound_83
        · -- 69 false
          refine V_aload_n X dX5_isSound_72 1 rfl ?_
          refine C_getf X fl_X5_19 0 (by decide) rfl rfl dX5_isSound_73 ?_
          refine V_callV (rest := []) X E.room ml_X5_258 in_X1_hasDebt (ci := 5) rfl se_X1_hasDebt (C_recv (q := 7) (by decide) rfl) (by decide) (by decide) (k_X1_hasDebt hX hI) rfl rfl (Nat.le_of_ble_eq_true rfl) ⟨Nat.le_refl _, Nat.le_refl _⟩ dX5_isSound_76 (fun _ _ h => False.elim h) (fun v76 σ' hp76 => ?_)
          obtain ⟨hp76, rfl⟩ := hp76
          obtain ⟨r6, rfl, hr6, fr6⟩ := hp76
          show V g κ 3 0 0 (t, cW g X0 F σ0) 79 [(1, .int (nI (i2))), (0, .ref (X0 + 0))] [.int (r6)]
          refine V_ifeq X (tgt := 84) dX5_isSound_79 (by decide) (fun h7 => ?_) (fun h7 => ?_)
          · -- 79 true
            have zh7 := mt fr6.mpr (not_not_intro h7)
            refine V_aload_n X dX5_isSound_84 1 rfl ?_
            refine C_getf X fl_X5_26 0 (by decide) rfl rfl dX5_isSound_85 ?_
            refine V_aload_n X dX5_isSound_88 1 rfl ?_
            refine C_getf X fl_X5_10 0 (by decide) rfl rfl dX5_isSound_89 ?_
            refine V_aload_n X dX5_isSound_92 1 rfl ?_
            refine C_getf X fl_X5_19 0 (by decide) rfl rfl dX5_isSound_93 ?_
            refine V_callV (rest := []) X E.room ml_X5_133 in_X0_recall (ci := 4) rfl se_X0_recall (C_recv (q := 12) (by decide) rfl) (by decide) (by decide) (k_X0_recall hX hI hB) rfl rfl (Nat.le_of_ble_eq_true rfl) ⟨Nat.le_refl _, Nat.le_refl _⟩ dX5_isSound_96 (fun _ _ h => False.elim h) (fun v96 σ' hp96 => ?_)
            obtain ⟨hp96, F8, rfl, hJF8, hkF8⟩ := hp96
            cases (hp96 : _ = none)
            show V g κ 3 0 0 (t, cW g X0 F8 σ0) 99 [(1, .int (nI (i2))), (0, .ref (X0 + 0))] []
            refine V_aload_n X dX5_isSound_99 1 rfl ?_
            refine C_getf X fl_X5_26 0 (by decide) rfl rfl dX5_isSound_100 ?_
            refine C_getf X fl_X5_220 12 (by decide) rfl rfl dX5_isSound_103 (V.topi (fun x9 ex9 => ?_))
            refine V_iconst (v := (-1)) X dX5_isSound_106 (by decide) ?_
            refine V_icmpne X (tgt := 126) dX5_isSound_107 (by decide) (fun h10 => ?_) (fun h10 => ?_)
            · -- 107 true
              refine V_aload_n X dX5_isSound_126 1 rfl ?_
              refine C_getf X fl_X5_26 0 (by decide) rfl rfl dX5_isSound_127 ?_
              refine C_getf X fl_X5_223 12 (by decide) rfl rfl dX5_isSound_130 (V.topi (fun x11 ex11 => ?_))
              refine V_ifne X (tgt := 147) dX5_isSound_133 (by decide) (fun h12 => ?_) (fun h12 => ?_)
              · -- 133 true
                refine V_iconst (v := nI 0) X dX5_isSound_147 (by decide) ?_
                exact V_zret X E (zbool z01_0) (Nat.zero_le _) (Nat.zero_le _) ⟨⟨_, rfl, z01_0⟩, ⟨_, rfl, hJF8⟩⟩ dX5_isSound_148
              · -- 133 false
                refine V_aload_n X dX5_isSound_136 1 rfl ?_
                refine V_callV (rest := []) X E.room ml_X5_262 in_X5_bestCastClashes (ci := 9) rfl se_X5_bestCastClashes (C_recv (q := 0) (by decide) rfl) (by decide) (by decide) (k_X5_bestCastClashes hX (hI.mvM hJF8)) rfl rfl (Nat.le_of_ble_eq_true rfl) ⟨Nat.le_refl _, Nat.le_refl _⟩ dX5_isSound_137 (fun _ _ h => False.elim h) (fun v137 σ' hp137 => ?_)
                obtain ⟨hp137, F13, rfl, hJF13⟩ := hp137
                have hKF13 : cM F F13 := (hJF8.trans hJF13.m)
                obtain ⟨r14, rfl, hr14⟩ := hp137
                show V g κ 3 0 0 (t, cW g X0 F13 σ0) 140 [(1, .int (nI (i2))), (0, .ref (X0 + 0))] [.int (r14)]
                refine V_ifne X (tgt := 147) dX5_isSound_140 (by decide) (fun h15 => ?_) (fun h15 => ?_)
                · -- 140 true
                  refine V_iconst (v := nI 0) X dX5_isSound_147 (by decide) ?_
                  exact V_zret X E (zbool z01_0) (Nat.zero_le _) (Nat.zero_le _) ⟨⟨_, rfl, z01_0⟩, ⟨_, rfl, hKF13⟩⟩ dX5_isSound_148
                · -- 140 false
                  refine V_iconst (v := nI 1) X dX5_isSound_143 (by decide) ?_
                  refine V_goto (tgt := 148) X dX5_isSound_144 (by decide) ?_
                  exact V_zret X E (zbool z01_1) (Nat.zero_le _) (Nat.zero_le _) ⟨⟨_, rfl, z01_1⟩, ⟨_, rfl, hKF13⟩⟩ dX5_isSound_148
            · -- 107 false
              refine V_aload_n X dX5_isSound_110 1 rfl ?_
              refine C_getf X fl_X5_26 0 (by decide) rfl rfl dX5_isSound_111 ?_
              refine C_getf X fl_X5_223 12 (by decide) rfl rfl dX5_isSound_114 (V.topi (fun x16 ex16 => ?_))
              refine V_ifeq X (tgt := 124) dX5_isSound_117 (by decide) (fun h17 => ?_) (fun h17 => ?_)
              · -- 117 true
                refine V_iconst (v := nI 0) X dX5_isSound_124 (by decide) ?_
                exact V_zret X E (zbool z01_0) (Nat.zero_le _) (Nat.zero_le _) ⟨⟨_, rfl, z01_0⟩, ⟨_, rfl, hJF8⟩⟩ dX5_isSound_125
              · -- 117 false
                refine V_iconst (v := nI 1) X dX5_isSound_120 (by decide) ?_
                refine V_goto (tgt := 125) X dX5_isSound_121 (by decide) ?_
                exact V_zret X E (zbool z01_1) (Nat.zero_le _) (Nat.zero_le _) ⟨⟨_, rfl, z01_1⟩, ⟨_, rfl, hJF8⟩⟩ dX5_isSound_125
          · -- 79 false
            have zh7 := fr6.mp h7
            refine V_iconst (v := nI 0) X dX5_isSound_82 (by decide) ?_
            exact V_zret X E (zbool z01_0) (Nat.zero_le _) (Nat.zero_le _) ⟨⟨_, rfl, z01_0⟩, ⟨_, rfl, cM.rfl'⟩⟩ dX5_isSound_83
      · -- 10 false
        refine V_aload_n X dX5_isSound_13 1 rfl ?_
        refine C_getf X fl_X5_10 0 (by decide) rfl rfl dX5_isSound_14 ?_
        refine C_getf X fl_X5_189 1 (by decide) rfl rfl dX5_isSound_17 ?_
        refine V_iload_n X dX5_isSound_20 0 rfl ?_
        refine C_iald X (N := 6) 5 (by decide) (i2) rfl (by omega) (by decide) rfl dX5_isSound_21 ?_
        obtain ⟨m18, hm18, em18⟩ := hI.sp (i2) (by omega)
        rw [em18]
        refine V_istore_n X [(2, .int (nI (m18))), (1, .int (nI (i2))), (0, .ref (X0 + 0))] dX5_isSound_22 (by decide) rfl ?_
        refine V_aload_n X dX5_isSound_23 2 rfl ?_
        refine V_iload_n X dX5_isSound_24 0 rfl ?_
        refine V_callV (rest := []) X E.room ml_X5_192 in_X5_filled (ci := 9) rfl se_X5_filled (C_recv (q := 0) (by decide) rfl) (by decide) (by decide) (k_X5_filled hX hI (nI (m18))) rfl rfl (Nat.le_of_ble_eq_true rfl) ⟨Nat.le_refl _, Nat.le_refl _⟩ dX5_isSound_25 (fun _ _ h => False.elim h) (fun v25 σ' hp25 => ?_)
        obtain ⟨hp25, rfl⟩ := hp25
        obtain ⟨r19, rfl⟩ := hp25
        show V g κ 3 0 0 (t, cW g X0 F σ0) 28 [(2, .int (nI (m18))), (1, .int (nI (i2))), (0, .ref (X0 + 0))] [.int (r19)]
        refine V_aload_n X dX5_isSound_28 2 rfl ?_
        refine V_aload_n X dX5_isSound_29 2 rfl ?_
        refine V_iload_n X dX5_isSound_30 0 rfl ?_
        refine V_callV (rest := [.ref (X0 + 0), .int (r19)]) X E.room ml_X5_195 in_X5_lack (ci := 9) rfl se_X5_lack (C_recv (q := 0) (by decide) rfl) (by decide) (by decide) (k_X5_lack hX hI (m18) (by omega)) rfl rfl (Nat.le_of_ble_eq_true rfl) ⟨Nat.le_refl _, Nat.le_refl _⟩ dX5_isSound_31 (fun _ _ h => False.elim h) (fun v31 σ' hp31 => ?_)
        obtain ⟨hp31, rfl⟩ := hp31
        obtain ⟨r20, rfl⟩ := hp31
        show V g κ 3 0 0 (t, cW g X0 F σ0) 34 [(2, .int (nI (m18))), (1, .int (nI (i2))), (0, .ref (X0 + 0))] [.int (r20), .ref (X0 + 0), .int (r19)]
        refine V_callV (rest := [.int (r19)]) X E.room ml_X5_198 in_X5_excess (ci := 9) rfl se_X5_excess (C_recv (q := 0) (by decide) rfl) (by decide) (by decide) (k_X5_excess hX hI (r20)) rfl rfl (Nat.le_of_ble_eq_true rfl) ⟨Nat.le_refl _, Nat.le_refl _⟩ dX5_isSound_34 (fun _ _ h => False.elim h) (fun v34 σ' hp34 => ?_)
        obtain ⟨hp34, rfl⟩ := hp34
        obtain ⟨r21, rfl⟩ := hp34
        show V g κ 3 0 0 (t, cW g X0 F σ0) 37 [(2, .int (nI (m18))), (1, .int (nI (i2))), (0, .ref (X0 + 0))] [.int (r21), .int (r19)]
        refine V_iadd X dX5_isSound_37 (V.topi (fun w22 ew22 => ?_))
        refine V_iload_n X dX5_isSound_38 0 rfl ?_
        refine V_callS (rest := [.int (w22)]) X E.room ml_X5_215 st_J6_bitCount_0f7a4 (by omega) (by decide) (k_J6_bitCount_0f7a4 (σ := (t, cW g X0 F σ0)) (nI (m18))) rfl rfl (Nat.le_of_ble_eq_true rfl) ⟨Nat.le_refl _, Nat.le_refl _⟩ dX5_isSound_39 (fun _ _ h => False.elim h) (fun v39 σ' hp39 => ?_)
        obtain ⟨hp39, rfl⟩ := hp39
        cases (hp39 : _ = some (Value.int (zbc (nI (m18)))))
        show V g κ 3 0 0 (t, cW g X0 F σ0) 42 [(2, .int (nI (m18))), (1, .int (nI (i2))), (0, .ref (X0 + 0))] [.int (zbc (nI (m18))), .int (w22)]
        refine V_icmpeq X (tgt := 47) dX5_isSound_42 (by decide) (fun h23 => ?_) (fun h23 => ?_)
        · -- 42 true
          refine V_iinc X (nI (i2 + 1)) [(1, .int (nI (i2 + 1))), (2, .int (nI (m18))), (0, .ref (X0 + 0))] dX5_isSound_47 1 rfl (zinc _) (by decide) rfl ?_
          refine V_goto (tgt := 2) X dX5_isSound_50 (by decide) ?_
          exact V.sub [0, 2] rfl (ih2 _ (by omega) (i2 + 1) rfl (by omega))
        · -- 42 false
          refine V_iconst (v := nI 0) X dX5_isSound_45 (by decide) ?_
          exact V_zret X E (zbool z01_0) (Nat.zero_le _) (Nat.zero_le _) ⟨⟨_, rfl, z01_0⟩, ⟨_, rfl, cM.rfl'⟩⟩ dX5_isSound_46
  exact L2 _ 0 rfl (by omega)
set_option maxRecDepth 100000 in
set_option maxHeartbeats 4000000 in
theorem k_X5_knock {g : zG} {t : Nat × Nat} {X0 : Nat} {σ0 : Nat → Option va_E} {F : Nat → Nat → Int32} (hX : g.2.1.size ≤ X0) {nP nS nA nC nT : Nat} (hI : cI nP nS nA nC nT F)  : Ct g 10 yX5_knock cX5_knock 1 (some FieldType.int) 0 0 [.ref (X0 + 0)] (t, cW g X0 F σ0) (fun v σ' => v = some (.int (F 0 8 + nI 1)) ∧ ∃ F' : Nat → Nat → Int32, σ' = (t, cW g X0 F' σ0) ∧ cI nP nS nA nC nT F' ∧ F' = fset F 0 8 (F 0 8 + nI 1)) zNo := by
  refine Ct.of (lv := [(0, .ref (X0 + 0))]) (by decide) (Nat.le_of_ble_eq_true rfl) rfl ?_
  intro κ X E B _
  have X : zX g κ RX5 cX5_knock 1 := X
  obtain ⟨b1, b2, b3, b4, b5⟩ := hI.bnd
  refine V_aload_n X dX5_knock_0 0 rfl ?_
  refine V_dup X dX5_knock_1 rfl ?_
  refine C_getf X fl_X5_151 0 (by decide) rfl rfl dX5_knock_2 (V.topi (fun x1 ex1 => ?_))
  refine V_iconst (v := nI 1) X dX5_knock_5 (by decide) ?_
  refine V_iadd X dX5_knock_6 (V.topi (fun w2 ew2 => ?_))
  refine C_putf X fl_X5_151 zt_X5 0 (by decide) hX rfl (Nat.le_of_ble_eq_true rfl) rfl rfl rfl rfl rfl dX5_knock_7 (fun F3 hF3 => ?_)
  have hIF3 := hI.st hF3 rfl
  refine V_aload_n X dX5_knock_10 0 rfl ?_
  refine C_getf X fl_X5_151 0 (by decide) rfl rfl dX5_knock_11 (V.topi (fun x4 ex4 => ?_))
  exact V_iret X E (Nat.zero_le _) (Nat.zero_le _) ⟨by subst_vars; rw [fset_eq], _, rfl, hIF3, by subst_vars; rfl⟩ dX5_knock_14
