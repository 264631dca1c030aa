set_option maxRecDepth 100000 in
set_option maxHeartbeats 4000000 in
theorem k_X2_addPart {g : zG} {t : Nat × Nat} {X0 : Nat} {σ0 : Nat → Option va_E} {F : Nat → Nat → Int32} (hX : g.2.1.size ≤ X0) {nP nS nA nC nT : Nat} (hI : cI nP nS nA nC nT F) (hb : nP < 7) (a1 a2 a3 : Int32) : Ct g 10 yX2_addPart cX2_addPart 4 (some FieldType.int) 0 0 [.ref (X0 + 1), .int (a1), .int (a2), .int (a3)] (t, cW g X0 F σ0) (fun v σ' => v = some (.int (nI nP)) ∧ ∃ F1 F' : Nat → Nat → Int32, σ' = (t, cW g X0 F' σ0) ∧ F1 = fset (fset (fset (fset F 2 nP a1) 3 nP a2) 4 nP a3) 1 5 (nI (nP + 1)) ∧ cJ F1 F' ∧ cI (nP + 1) nS nA nC nT F') zNo := by
  refine Ct.of (lv := [(0, .ref (X0 + 1)), (1, .int (a1)), (2, .int (a2)), (3, .int (a3))]) (by decide) (Nat.le_of_ble_eq_true rfl) rfl ?_
  intro κ X E B _
  have X : zX g κ RX2 cX2_addPart 4 := X
  obtain ⟨b1, b2, b3, b4, b5⟩ := hI.bnd
  refine V_aload_n X dX2_addPart_0 0 rfl ?_
  refine C_getf X fl_X2_9 1 (by decide) rfl rfl dX2_addPart_1 ?_
  refine V_aload_n X dX2_addPart_4 0 rfl ?_
  refine C_getfN (z := nI (nP)) X fl_X2_27 1 (by decide) rfl rfl hI.f1_5 dX2_addPart_5 ?_
  refine V_iload_n X dX2_addPart_8 1 rfl ?_
  refine C_iast X (N := 7) 2 (by decide) hX (nP) rfl (by omega) (by decide) (fun _ => rfl) dX2_addPart_9 (fun F1 hF1 => ?_)
  have hIF1 := (hI).st hF1 rfl
  refine V_aload_n X dX2_addPart_10 0 rfl ?_
  refine C_getf X fl_X2_15 1 (by decide) rfl rfl dX2_addPart_11 ?_
  refine V_aload_n X dX2_addPart_14 0 rfl ?_
  refine C_getfN (z := nI (nP)) X fl_X2_27 1 (by decide) rfl rfl hIF1.f1_5 dX2_addPart_15 ?_
  refine V_iload_n X dX2_addPart_18 2 rfl ?_
  refine C_iast X (N := 7) 3 (by decide) hX (nP) rfl (by omega) (by decide) (fun _ => rfl) dX2_addPart_19 (fun F2 hF2 => ?_)
  have hIF2 := (hIF1).st hF2 rfl
  refine V_aload_n X dX2_addPart_20 0 rfl ?_
  refine C_getf X fl_X2_18 1 (by decide) rfl rfl dX2_addPart_21 ?_
  refine V_aload_n X dX2_addPart_24 0 rfl ?_
  refine C_getfN (z := nI (nP)) X fl_X2_27 1 (by decide) rfl rfl hIF2.f1_5 dX2_addPart_25 ?_
  refine V_iload_n X dX2_addPart_28 3 rfl ?_
  refine C_iast X (N := 7) 4 (by decide) hX (nP) rfl (by omega) (by decide) (fun _ => rfl) dX2_addPart_29 (fun F3 hF3 => ?_)
  have hIF3 := (hIF2).st hF3 rfl
  refine V_aload_n X dX2_addPart_30 0 rfl ?_
  refine V_dup X dX2_addPart_31 rfl ?_
  refine C_getfN (z := nI (nP)) X fl_X2_27 1 (by decide) rfl rfl hIF3.f1_5 dX2_addPart_32 ?_
  refine V_iconst (v := nI 1) X dX2_addPart_35 (by decide) ?_
  refine V_iaddN X dX2_addPart_36 ?_
  refine C_putf X fl_X2_27 zt_X2 1 (by decide) hX rfl (Nat.le_of_ble_eq_true rfl) rfl rfl rfl rfl rfl dX2_addPart_37 (fun F4 hF4 => ?_)
  have hIF4 := (hIF3).incP hF4 (by omega)
  refine V_aload_n X dX2_addPart_40 0 rfl ?_
  refine C_getfN (z := nI (nP + 1)) X fl_X2_27 1 (by decide) rfl rfl hIF4.f1_5 dX2_addPart_41 ?_
  refine V_iconst (v := nI 1) X dX2_addPart_44 (by decide) ?_
  refine V_isubN X (by omega) dX2_addPart_45 ?_
  exact V_iret X E (Nat.zero_le _) (Nat.zero_le _) ⟨rfl, ⟨F4, F4, rfl, by rw [hF4, hF3, hF2, hF1], cJ.rfl', hIF4⟩⟩ dX2_addPart_46
set_option maxRecDepth 100000 in
set_option maxHeartbeats 4000000 in
theorem k_X2_addScene {g : zG} {t : Nat × Nat} {X0 : Nat} {σ0 : Nat → Option va_E} {F : Nat → Nat → Int32} (hX : g.2.1.size ≤ X0) {nP nS nA nC nT : Nat} (hI : cI nP nS nA nC nT F) (hb : nS < 6) (m : Nat) (hm : m < 128) (a2 : Int32) : Ct g 10 yX2_addScene cX2_addScene 3 (some FieldType.int) 0 0 [.ref (X0 + 1), .int (nI (m)), .int (a2)] (t, cW g X0 F σ0) (fun v σ' => v = some (.int (nI nS)) ∧ ∃ F1 F' : Nat → Nat → Int32, σ' = (t, cW g X0 F' σ0) ∧ F1 = fset (fset (fset F 5 nS (nI m)) 6 nS a2) 1 6 (nI (nS + 1)) ∧ cJ F1 F' ∧ cI nP (nS + 1) nA nC nT F') zNo := by
  refine Ct.of (lv := [(0, .ref (X0 + 1)), (1, .int (nI (m))), (2, .int (a2))]) (by decide) (Nat.le_of_ble_eq_true rfl) rfl ?_
  intro κ X E B _
  have X : zX g κ RX2 cX2_addScene 3 := X
  obtain ⟨b1, b2, b3, b4, b5⟩ := hI.bnd
  refine V_aload_n X dX2_addScene_0 0 rfl ?_
  refine C_getf X fl_X2_21 1 (by decide) rfl rfl dX2_addScene_1 ?_
  refine V_aload_n X dX2_addScene_4 0 rfl ?_
  refine C_getfN (z := nI (nS)) X fl_X2_31 1 (by decide) rfl rfl hI.f1_6 dX2_addScene_5 ?_
  refine V_iload_n X dX2_addScene_8 1 rfl ?_
  refine C_iast X (N := 6) 5 (by decide) hX (nS) rfl (by omega) (by decide) (fun _ => rfl) dX2_addScene_9 (fun F1 hF1 => ?_)
  have hIF1 := (hI).st5 hF1
  refine V_aload_n X dX2_addScene_10 0 rfl ?_
  refine C_getf X fl_X2_24 1 (by decide) rfl rfl dX2_addScene_11 ?_
  refine V_aload_n X dX2_addScene_14 0 rfl ?_
  refine C_getfN (z := nI (nS)) X fl_X2_31 1 (by decide) rfl rfl hIF1.f1_6 dX2_addScene_15 ?_
  refine V_iload_n X dX2_addScene_18 2 rfl ?_
  refine C_iast X (N := 6) 6 (by decide) hX (nS) rfl (by omega) (by decide) (fun _ => rfl) dX2_addScene_19 (fun F2 hF2 => ?_)
  have hIF2 := (hIF1).st hF2 rfl
  refine V_aload_n X dX2_addScene_20 0 rfl ?_
  refine V_dup X dX2_addScene_21 rfl ?_
  refine C_getfN (z := nI (nS)) X fl_X2_31 1 (by decide) rfl rfl hIF2.f1_6 dX2_addScene_22 ?_
  refine V_iconst (v := nI 1) X dX2_addScene_25 (by decide) ?_
  refine V_iaddN X dX2_addScene_26 ?_
  refine C_putf X fl_X2_31 zt_X2 1 (by decide) hX rfl (Nat.le_of_ble_eq_true rfl) rfl rfl rfl rfl rfl dX2_addScene_27 (fun F3 hF3 => ?_)
  have hIF3 := (hIF2).incS hF3 (by omega) (⟨m, hm, by rw [hF2, fset_ne (Or.inl (by decide)), hF1, fset_eq]⟩)
  refine V_aload_n X dX2_addScene_30 0 rfl ?_
  refine C_getfN (z := nI (nS + 1)) X fl_X2_31 1 (by decide) rfl rfl hIF3.f1_6 dX2_addScene_31 ?_
  refine V_iconst (v := nI 1) X dX2_addScene_34 (by decide) ?_
  refine V_isubN X (by omega) dX2_addScene_35 ?_
  exact V_iret X E (Nat.zero_le _) (Nat.zero_le _) ⟨rfl, ⟨F3, F3, rfl, by rw [hF3, hF2, hF1], cJ.rfl', hIF3⟩⟩ dX2_addScene_36
set_option maxRecDepth 100000 in
set_option maxHeartbeats 4000000 in
theorem k_X1_addPlayer {g : zG} {t : Nat × Nat} {X0 : Nat} {σ0 : Nat → Option va_E} {F : Nat → Nat → Int32} (hX : g.2.1.size ≤ X0) {nP nS nA nC nT : Nat} (hI : cI nP nS nA nC nT F) (hb : nA < 5) (a1 a2 a3 : Int32) : Ct g 10 yX1_addPlayer cX1_addPlayer 4 (some FieldType.int) 0 0 [.ref (X0 + 7), .int (a1), .int (a2), .int (a3)] (t, cW g X0 F σ0) (fun v σ' => v = some (.int (nI nA)) ∧ ∃ F1 F' : Nat → Nat → Int32, σ' = (t, cW g X0 F' σ0) ∧ F1 = fset (fset (fset (fset F 8 nA a1) 9 nA a2) 10 nA a3) 7 4 (nI (nA + 1)) ∧ cJ F1 F' ∧ cI nP nS (nA + 1) nC nT F') zNo := by
  refine Ct.of (lv := [(0, .ref (X0 + 7)), (1, .int (a1)), (2, .int (a2)), (3, .int (a3))]) (by decide) (Nat.le_of_ble_eq_true rfl) rfl ?_
  intro κ X E B _
  have X : zX g κ RX1 cX1_addPlayer 4 := X
  obtain ⟨b1, b2, b3, b4, b5⟩ := hI.bnd
  refine V_aload_n X dX1_addPlayer_0 0 rfl ?_
  refine C_getf X fl_X1_9 7 (by decide) rfl rfl dX1_addPlayer_1 ?_
  refine V_aload_n X dX1_addPlayer_4 0 rfl ?_
  refine C_getfN (z := nI (nA)) X fl_X1_24 7 (by decide) rfl rfl hI.f7_4 dX1_addPlayer_5 ?_
  refine V_iload_n X dX1_addPlayer_8 1 rfl ?_
  refine C_iast X (N := 5) 8 (by decide) hX (nA) rfl (by omega) (by decide) (fun _ => rfl) dX1_addPlayer_9 (fun F1 hF1 => ?_)
  have hIF1 := (hI).st hF1 rfl
  refine V_aload_n X dX1_addPlayer_10 0 rfl ?_
  refine C_getf X fl_X1_15 7 (by decide) rfl rfl dX1_addPlayer_11 ?_
  refine V_aload_n X dX1_addPlayer_14 0 rfl ?_
  refine C_getfN (z := nI (nA)) X fl_X1_24 7 (by decide) rfl rfl hIF1.f7_4 dX1_addPlayer_15 ?_
  refine V_iload_n X dX1_addPlayer_18 2 rfl ?_
  refine C_iast X (N := 5) 9 (by decide) hX (nA) rfl (by omega) (by decide) (fun _ => rfl) dX1_addPlayer_19 (fun F2 hF2 => ?_)
  have hIF2 := (hIF1).st hF2 rfl
  refine V_aload_n X dX1_addPlayer_20 0 rfl ?_
  refine C_getf X fl_X1_18 7 (by decide) rfl rfl dX1_addPlayer_21 ?_
  refine V_aload_n X dX1_addPlayer_24 0 rfl ?_
  refine C_getfN (z := nI (nA)) X fl_X1_24 7 (by decide) rfl rfl hIF2.f7_4 dX1_addPlayer_25 ?_
  refine V_iload_n X dX1_addPlayer_28 3 rfl ?_
  refine C_iast X (N := 5) 10 (by decide) hX (nA) rfl (by omega) (by decide) (fun _ => rfl) dX1_addPlayer_29 (fun F3 hF3 => ?_)
  have hIF3 := (hIF2).st hF3 rfl
  refine V_aload_n X dX1_addPlayer_30 0 rfl ?_
  refine V_dup X dX1_addPlayer_31 rfl ?_
  refine C_getfN (z := nI (nA)) X fl_X1_24 7 (by decide) rfl rfl hIF3.f7_4 dX1_addPlayer_32 ?_
  refine V_iconst (v := nI 1) X dX1_addPlayer_35 (by decide) ?_
  refine V_iaddN X dX1_addPlayer_36 ?_
  refine C_putf X fl_X1_24 zt_X1 7 (by decide) hX rfl (Nat.le_of_ble_eq_true rfl) rfl rfl rfl rfl rfl dX1_addPlayer_37 (fun F4 hF4 => ?_)
  have hIF4 := (hIF3).incA hF4 (by omega)
  refine V_aload_n X dX1_addPlayer_40 0 rfl ?_
  refine C_getfN (z := nI (nA + 1)) X fl_X1_24 7 (by decide) rfl rfl hIF4.f7_4 dX1_addPlayer_41 ?_
  refine V_iconst (v := nI 1) X dX1_addPlayer_44 (by decide) ?_
  refine V_isubN X (by omega) dX1_addPlayer_45 ?_
  exact V_iret X E (Nat.zero_le _) (Nat.zero_le _) ⟨rfl, ⟨F4, F4, rfl, by rw [hF4, hF3, hF2, hF1], cJ.rfl', hIF4⟩⟩ dX1_addPlayer_46
set_option maxRecDepth 100000 in
set_option maxHeartbeats 4000000 in
theorem k_X4_addCoat {g : zG} {t : Nat × Nat} {X0 : Nat} {σ0 : Nat → Option va_E} {F : Nat → Nat → Int32} (hX : g.2.1.size ≤ X0) {nP nS nA nC nT : Nat} (hI : cI nP nS nA nC nT F) (hb : nC < 6) (a1 a2 a3 : Int32) : Ct g 10 yX4_addCoat cX4_addCoat 4 (some FieldType.int) 0 0 [.ref (X0 + 18), .int (a1), .int (a2), .int (a3)] (t, cW g X0 F σ0) (fun v σ' => v = some (.int (nI nC)) ∧ ∃ F1 F' : Nat → Nat → Int32, σ' = (t, cW g X0 F' σ0) ∧ F1 = fset (fset (fset (fset F 19 nC a1) 20 nC a2) 21 nC a3) 18 3 (nI (nC + 1)) ∧ cJ F1 F' ∧ cI nP nS nA (nC + 1) nT F') zNo := by
  refine Ct.of (lv := [(0, .ref (X0 + 18)), (1, .int (a1)), (2, .int (a2)), (3, .int (a3))]) (by decide) (Nat.le_of_ble_eq_true rfl) rfl ?_
  intro κ X E B _
  have X : zX g κ RX4 cX4_addCoat 4 := X
  obtain ⟨b1, b2, b3, b4, b5⟩ := hI.bnd
  refine V_aload_n X dX4_addCoat_0 0 rfl ?_
  refine C_getf X fl_X4_9 18 (by decide) rfl rfl dX4_addCoat_1 ?_
  refine V_aload_n X dX4_addCoat_4 0 rfl ?_
  refine C_getfN (z := nI (nC)) X fl_X4_24 18 (by decide) rfl rfl hI.f18_3 dX4_addCoat_5 ?_
  refine V_iload_n X dX4_addCoat_8 1 rfl ?_
  refine C_iast X (N := 6) 19 (by decide) hX (nC) rfl (by omega) (by decide) (fun _ => rfl) dX4_addCoat_9 (fun F1 hF1 => ?_)
  have hIF1 := (hI).st hF1 rfl
  refine V_aload_n X dX4_addCoat_10 0 rfl ?_
  refine C_getf X fl_X4_15 18 (by decide) rfl rfl dX4_addCoat_11 ?_
  refine V_aload_n X dX4_addCoat_14 0 rfl ?_
  refine C_getfN (z := nI (nC)) X fl_X4_24 18 (by decide) rfl rfl hIF1.f18_3 dX4_addCoat_15 ?_
  refine V_iload_n X dX4_addCoat_18 2 rfl ?_
  refine C_iast X (N := 6) 20 (by decide) hX (nC) rfl (by omega) (by decide) (fun _ => rfl) dX4_addCoat_19 (fun F2 hF2 => ?_)
  have hIF2 := (hIF1).st hF2 rfl
  refine V_aload_n X dX4_addCoat_20 0 rfl ?_
  refine C_getf X fl_X4_18 18 (by decide) rfl rfl dX4_addCoat_21 ?_
  refine V_aload_n X dX4_addCoat_24 0 rfl ?_
  refine C_getfN (z := nI (nC)) X fl_X4_24 18 (by decide) rfl rfl hIF2.f18_3 dX4_addCoat_25 ?_
  refine V_iload_n X dX4_addCoat_28 3 rfl ?_
  refine C_iast X (N := 6) 21 (by decide) hX (nC) rfl (by omega) (by decide) (fun _ => rfl) dX4_addCoat_29 (fun F3 hF3 => ?_)
  have hIF3 := (hIF2).st hF3 rfl
  refine V_aload_n X dX4_addCoat_30 0 rfl ?_
  refine V_dup X dX4_addCoat_31 rfl ?_
  refine C_getfN (z := nI (nC)) X fl_X4_24 18 (by decide) rfl rfl hIF3.f18_3 dX4_addCoat_32 ?_
  refine V_iconst (v := nI 1) X dX4_addCoat_35 (by decide) ?_
  refine V_iaddN X dX4_addCoat_36 ?_
  refine C_putf X fl_X4_24 zt_X4 18 (by decide) hX rfl (Nat.le_of_ble_eq_true rfl) rfl rfl rfl rfl rfl dX4_addCoat_37 (fun F4 hF4 => ?_)
  have hIF4 := (hIF3).incC hF4 (by omega)
  refine V_aload_n X dX4_addCoat_40 0 rfl ?_
  refine C_getfN (z := nI (nC + 1)) X fl_X4_24 18 (by decide) rfl rfl hIF4.f18_3 dX4_addCoat_41 ?_
  refine V_iconst (v := nI 1) X dX4_addCoat_44 (by decide) ?_
  refine V_isubN X (by omega) dX4_addCoat_45 ?_
  exact V_iret X E (Nat.zero_le _) (Nat.zero_le _) ⟨rfl, ⟨F4, F4, rfl, by rw [hF4, hF3, hF2, hF1], cJ.rfl', hIF4⟩⟩ dX4_addCoat_46
set_option maxRecDepth 100000 in
set_option maxHeartbeats 4000000 in
theorem k_X3_milesOut {g : zG} {t : Nat × Nat} {X0 : Nat} {σ0 : Nat → Option va_E} {F : Nat → Nat → Int32} (hX : g.2.1.size ≤ X0) {nP nS nA nC nT : Nat} (hI : cI nP nS nA nC nT F) (b : Nat) (hb : b < 32) (l : Nat) (hl : l < nT) : Ct g 11 yX3_milesOut cX3_milesOut 6 (some FieldType.int) 0 0 [.ref (X0 + 23), .int (nI (b)), .int (nI (l))] (t, cW g X0 F σ0) (qR pI (t, cW g X0 F σ0)) zNo := by
  refine Ct.of (lv := [(0, .ref (X0 + 23)), (1, .int (nI (b))), (2, .int (nI (l)))]) (by decide) (Nat.le_of_ble_eq_true rfl) rfl ?_
  intro κ X E B _
  have X : zX g κ RX3 cX3_milesOut 6 := X
  obtain ⟨b1, b2, b3, b4, b5⟩ := hI.bnd
  refine V_iload_n X dX3_milesOut_0 1 rfl ?_
  refine V_ifneN X (by omega) (tgt := 10) dX3_milesOut_1 (by decide) (fun h1 => ?_) (fun h1 => ?_)
  · -- 1 true
    refine V_iconst (v := (-1)) X dX3_milesOut_10 (by decide) ?_
    refine V_istore_n X [(3, .int (-1)), (0, .ref (X0 + 23)), (1, .int (nI (b))), (2, .int (nI (l)))] dX3_milesOut_11 (by decide) rfl ?_
    refine V_iconst (v := nI 0) X dX3_milesOut_12 (by decide) ?_
    refine V_istore X [(4, .int (nI (0))), (3, .int (-1)), (0, .ref (X0 + 23)), (1, .int (nI (b))), (2, .int (nI (l)))] dX3_milesOut_13 (by decide) rfl ?_
    have L15 : ∀ (n15 : Nat) (i15 : Nat) (x15_3 : Int32), n15 = nT - i15 → i15 ≤ nT → V g κ 6 0 0 (t, cW g X0 F σ0) 15 [(4, .int (nI (i15))), (3, .int (x15_3)), (0, .ref (X0 + 23)), (1, .int (nI (b))), (2, .int (nI (l)))] [] := by
      intro n15
      induction n15 using Nat.strongRecOn with
      | ind n15 ih15 =>
        intro i15 x15_3 hn15 hi15
        refine V_iload X dX3_milesOut_15 0 rfl ?_
        refine V_aload_n X dX3_milesOut_17 2 rfl ?_
        refine C_getfN (z := nI (nT)) X fl_X3_29 23 (by decide) rfl rfl hI.f23_4 dX3_milesOut_18 ?_
        refine V_icmpgeN X (by omega) (by omega) (tgt := 103) dX3_milesOut_21 (by decide) (fun h2 => ?_) (fun h2 => ?_)
        · -- 21 true
          refine V_iload_n X dX3_milesOut_103 1 rfl ?_
          exact V_iret X E (Nat.zero_le _) (Nat.zero_le _) ⟨⟨_, rfl⟩, rfl⟩ dX3_milesOut_104
        · -- 21 false
          refine V_iload_n X dX3_milesOut_24 3 rfl ?_
          refine V_iload X dX3_milesOut_25 0 rfl ?_
          refine V_callSN (rest := []) X E.room ml_X3_37 st_X5_has (by omega) (by decide) (k_X5_has (σ := (t, cW g X0 F σ0)) (nI (b)) (nI (i15))) rfl rfl (Nat.le_of_ble_eq_true rfl) ⟨Nat.le_refl _, Nat.le_refl _⟩ dX3_milesOut_27 (fun _ _ h => False.elim h) (fun v27 σ' hp27 => ?_)
          obtain ⟨hp27, rfl⟩ := hp27
          obtain ⟨r3, rfl, hr3, fr3⟩ := hp27
          show V g κ 6 0 0 (t, cW g X0 F σ0) 30 [(4, .int (nI (i15))), (3, .int (x15_3)), (0, .ref (X0 + 23)), (1, .int (nI (b))), (2, .int (nI (l)))] [.int (r3)]
          refine V_ifne X (tgt := 36) dX3_milesOut_30 (by decide) (fun h4 => ?_) (fun h4 => ?_)
          · -- 30 true
            have zh4 := fr3.mp h4
            refine V_aload_n X dX3_milesOut_36 2 rfl ?_
            refine C_getf X fl_X3_26 23 (by decide) rfl rfl dX3_milesOut_37 ?_
            refine V_iload_n X dX3_milesOut_40 3 rfl ?_
            refine C_row X (b) rfl (by omega) dX3_milesOut_41 ?_
            show V g κ 6 0 0 (t, cW g X0 F σ0) 42 [(4, .int (nI (i15))), (3, .int (x15_3)), (0, .ref (X0 + 23)), (1, .int (nI (b))), (2, .int (nI (l)))] (.ref (X0 + (29 + (b))) :: [])
            refine V_iload X dX3_milesOut_42 0 rfl ?_
            refine C_iald X (N := 5) (29 + (b)) (by omega) (i15) rfl (by omega) (by decide) (cCell_row g X0 (by omega) _) dX3_milesOut_44 ?_
            refine V.topi (fun x5 ex5 => ?_)
            refine V_aload_n X dX3_milesOut_45 2 rfl ?_
            refine C_getf X fl_X3_9 23 (by decide) rfl rfl dX3_milesOut_46 ?_
            refine V_iload X dX3_milesOut_49 0 rfl ?_
            refine C_iald X (N := 5) 24 (by decide) (i15) rfl (by omega) (by decide) rfl dX3_milesOut_51 ?_
            refine V.topi (fun x6 ex6 => ?_)
            refine V_aload_n X dX3_milesOut_52 2 rfl ?_
            refine C_getf X fl_X3_9 23 (by decide) rfl rfl dX3_milesOut_53 ?_
            refine V_iload_n X dX3_milesOut_56 4 rfl ?_
            refine C_iald X (N := 5) 24 (by decide) (l) rfl (by omega) (by decide) rfl dX3_milesOut_57 ?_
            refine V.topi (fun x7 ex7 => ?_)
            refine V_isub X dX3_milesOut_58 (V.topi (fun w8 ew8 => ?_))
            refine V_mabs X E.room (Nat.le_refl _) (Nat.le_refl _) (by decide) ml_X3_49 st_J9_abs_0f7a4 rfl rfl (Nat.le_of_ble_eq_true rfl) dX3_milesOut_59 (V.topi (fun w9 _ => ?_))
            refine V_iadd X dX3_milesOut_62 (V.topi (fun w10 ew10 => ?_))
            refine V_aload_n X dX3_milesOut_63 2 rfl ?_
            refine C_getf X fl_X3_15 23 (by decide) rfl rfl dX3_milesOut_64 ?_
            refine V_iload X dX3_milesOut_67 0 rfl ?_
            refine C_iald X (N := 5) 25 (by decide) (i15) rfl (by omega) (by decide) rfl dX3_milesOut_69 ?_
            refine V.topi (fun x11 ex11 => ?_)
            refine V_aload_n X dX3_milesOut_70 2 rfl ?_
            refine C_getf X fl_X3_15 23 (by decide) rfl rfl dX3_milesOut_71 ?_
            refine V_iload_n X dX3_milesOut_74 4 rfl ?_
            refine C_iald X (N := 5) 25 (by decide) (l) rfl (by omega) (by decide) rfl dX3_milesOut_75 ?_
            refine V.topi (fun x12 ex12 => ?_)
            refine V_isub X dX3_milesOut_76 (V.topi (fun w13 ew13 => ?_))
            refine V_mabs X E.room (Nat.le_refl _) (Nat.le_refl _) (by decide) ml_X3_49 st_J9_abs_0f7a4 rfl rfl (Nat.le_of_ble_eq_true rfl) dX3_milesOut_77 (V.topi (fun w14 _ => ?_))
            refine V_iadd X dX3_milesOut_80 (V.topi (fun w15 ew15 => ?_))
            refine V_istore X [(5, .int (w15)), (4, .int (nI (i15))), (3, .int (x15_3)), (0, .ref (X0 + 23)), (1, .int (nI (b))), (2, .int (nI (l)))] dX3_milesOut_81 (by decide) rfl ?_
            refine V_iload_n X dX3_milesOut_83 2 rfl ?_
            refine V_iconst (v := (-1)) X dX3_milesOut_84 (by decide) ?_
            refine V_icmpeq X (tgt := 94) dX3_milesOut_85 (by decide) (fun h16 => ?_) (fun h16 => ?_)
            · -- 85 true
              refine V_iload X dX3_milesOut_94 0 rfl ?_
              refine V_istore_n X [(3, .int (w15)), (5, .int (w15)), (4, .int (nI (i15))), (0, .ref (X0 + 23)), (1, .int (nI (b))), (2, .int (nI (l)))] dX3_milesOut_96 (by decide) rfl ?_
              refine V_iinc X (nI (i15 + 1)) [(4, .int (nI (i15 + 1))), (3, .int (w15)), (5, .int (w15)), (0, .ref (X0 + 23)), (1, .int (nI (b))), (2, .int (nI (l)))] dX3_milesOut_97 2 rfl (zinc _) (by decide) rfl ?_
              refine V_goto (tgt := 15) X dX3_milesOut_100 (by decide) ?_
              exact V.sub [0, 1, 3, 4, 5] rfl (ih15 _ (by omega) (i15 + 1) w15 rfl (by omega))
            · -- 85 false
              refine V_iload X dX3_milesOut_88 0 rfl ?_
              refine V_iload_n X dX3_milesOut_90 2 rfl ?_
              refine V_icmpge X (tgt := 97) dX3_milesOut_91 (by decide) (fun h17 => ?_) (fun h17 => ?_)
              · -- 91 true
                refine V_iinc X (nI (i15 + 1)) [(4, .int (nI (i15 + 1))), (5, .int (w15)), (3, .int (x15_3)), (0, .ref (X0 + 23)), (1, .int (nI (b))), (2, .int (nI (l)))] dX3_milesOut_97 1 rfl (zinc _) (by decide) rfl ?_
                refine V_goto (tgt := 15) X dX3_milesOut_100 (by decide) ?_
                exact V.sub [0, 2, 3, 4, 5] rfl (ih15 _ (by omega) (i15 + 1) x15_3 rfl (by omega))
              · -- 91 false
                refine V_iload X dX3_milesOut_94 0 rfl ?_
                refine V_istore_n X [(3, .int (w15)), (5, .int (w15)), (4, .int (nI (i15))), (0, .ref (X0 + 23)), (1, .int (nI (b))), (2, .int (nI (l)))] dX3_milesOut_96 (by decide) rfl ?_
                refine V_iinc X (nI (i15 + 1)) [(4, .int (nI (i15 + 1))), (3, .int (w15)), (5, .int (w15)), (0, .ref (X0 + 23)), (1, .int (nI (b))), (2, .int (nI (l)))] dX3_milesOut_97 2 rfl (zinc _) (by decide) rfl ?_
                refine V_goto (tgt := 15) X dX3_milesOut_100 (by decide) ?_
                exact V.sub [0, 1, 3, 4, 5] rfl (ih15 _ (by omega) (i15 + 1) w15 rfl (by omega))
          · -- 30 false
            have zh4 := mt fr3.mpr (not_not_intro h4)
            refine V_goto (tgt := 97) X dX3_milesOut_33 (by decide) ?_
            refine V_iinc X (nI (i15 + 1)) [(4, .int (nI (i15 + 1))), (3, .int (x15_3)), (0, .ref (X0 + 23)), (1, .int (nI (b))), (2, .int (nI (l)))] dX3_milesOut_97 0 rfl (zinc _) (by decide) rfl ?_
            refine V_goto (tgt := 15) X dX3_milesOut_100 (by decide) ?_
            exact V.sub [0, 1, 2, 3, 4] rfl (ih15 _ (by omega) (i15 + 1) x15_3 rfl (by omega))
    exact L15 _ 0 (-1) rfl (by omega)
  · -- 1 false
    refine V_aload_n X dX3_milesOut_4 0 rfl ?_
    refine V_iload_n X dX3_milesOut_5 2 rfl ?_
    refine V_callV (rest := []) X E.room ml_X3_45 in_X3_milesHome (ci := 7) rfl se_X3_milesHome (C_recv (q := 23) (by decide) rfl) (by decide) (by decide) (k_X3_milesHome hX hI (l) (by omega)) rfl rfl (Nat.le_of_ble_eq_true rfl) ⟨Nat.le_refl _, Nat.le_refl _⟩ dX3_milesOut_6 (fun _ _ h => False.elim h) (fun v6 σ' hp6 => ?_)
    obtain ⟨hp6, rfl⟩ := hp6
    cases (hp6 : _ = some (Value.int (F 24 (l) + F 25 (l))))
    show V g κ 6 0 0 (t, cW g X0 F σ0) 9 [(0, .ref (X0 + 23)), (1, .int (nI (b))), (2, .int (nI (l)))] [.int (F 24 (l) + F 25 (l))]
    exact V_iret X E (Nat.zero_le _) (Nat.zero_le _) ⟨⟨_, rfl⟩, rfl⟩ dX3_milesOut_9
set_option maxRecDepth 100000 in
set_option maxHeartbeats 4000000 in
theorem k_X3_measure {g : zG} {t : Nat × Nat} {X0 : Nat} {σ0 : Nat → Option va_E} {F : Nat → Nat → Int32} (hX : g.2.1.size ≤ X0) {nP nS nA nC nT : Nat} (hI : cI nP nS nA nC nT F) (b : Nat) (hb : b < 32) : Ct g 12 yX3_measure cX3_measure 4 none 0 0 [.ref (X0 + 23), .int (nI (b))] (t, cW g X0 F σ0) (fun v σ' => pV v ∧ ∃ F' : Nat → Nat → Int32, σ' = (t, cW g X0 F' σ0) ∧ cRw sRo F F') zNo := by
  refine Ct.of (lv := [(0, .ref (X0 + 23)), (1, .int (nI (b)))]) (by decide) (Nat.le_of_ble_eq_true rfl) rfl ?_
  intro κ X E B _
  have X : zX g κ RX3 cX3_measure 4 := X
  obtain ⟨b1, b2, b3, b4, b5⟩ := hI.bnd
  refine V_aload_n X dX3_measure_0 0 rfl ?_
  refine C_getf X fl_X3_21 23 (by decide) rfl rfl dX3_measure_1 ?_
  refine V_iload_n X dX3_measure_4 1 rfl ?_
  refine V_iconst (v := (-1)) X dX3_measure_5 (by decide) ?_
  refine C_iast X (N := 32) 27 (by decide) hX (b) rfl (by omega) (by decide) (fun _ => rfl) dX3_measure_6 (fun F1 hF1 => ?_)
  have hJF1 := (cRw.rfl' : cRw sRo F F).set hF1 (zsRo (by omega))
  refine V_iconst (v := nI 0) X dX3_measure_7 (by decide) ?_
  refine V_istore_n X [(2, .int (nI (0))), (0, .ref (X0 + 23)), (1, .int (nI (b)))] dX3_measure_8 (by decide) rfl ?_
  have L9 : ∀ (n9 : Nat) (i9 : Nat) (G9 : Nat → Nat → Int32), n9 = nT - i9 → i9 ≤ nT → cRw sRo F G9 → V g κ 4 0 0 (t, cW g X0 G9 σ0) 9 [(2, .int (nI (i9))), (0, .ref (X0 + 23)), (1, .int (nI (b)))] [] := by
    intro n9
    induction n9 using Nat.strongRecOn with
    | ind n9 ih9 =>
      intro i9 G9 hn9 hi9 hJ9
      refine V_iload_n X dX3_measure_9 0 rfl ?_
      refine V_aload_n X dX3_measure_10 1 rfl ?_
      refine C_getfN (z := nI (nT)) X fl_X3_29 23 (by decide) rfl rfl (hI.mvR hJ9).f23_4 dX3_measure_11 ?_
      refine V_icmpgeN X (by omega) (by omega) (tgt := 96) dX3_measure_14 (by decide) (fun h2 => ?_) (fun h2 => ?_)
      · -- 14 true
        exact V_vret X E (Nat.zero_le _) (Nat.zero_le _) ⟨rfl, ⟨_, rfl, hJ9⟩⟩ dX3_measure_96
      · -- 14 false
        refine V_iload_n X dX3_measure_17 2 rfl ?_
        refine V_iload_n X dX3_measure_18 0 rfl ?_
        refine V_callSN (rest := []) X E.room ml_X3_37 st_X5_has (by omega) (by decide) (k_X5_has (σ := (t, cW g X0 G9 σ0)) (nI (b)) (nI (i9))) rfl rfl (Nat.le_of_ble_eq_true rfl) ⟨Nat.le_refl _, Nat.le_refl _⟩ dX3_measure_19 (fun _ _ h => False.elim h) (fun v19 σ' hp19 => ?_)
        obtain ⟨hp19, rfl⟩ := hp19
        obtain ⟨r3, rfl, hr3, fr3⟩ := hp19
        show V g κ 4 0 0 (t, cW g X0 G9 σ0) 22 [(2, .int (nI (i9))), (0, .ref (X0 + 23)), (1, .int (nI (b)))] [.int (r3)]
        refine V_ifne X (tgt := 28) dX3_measure_22 (by decide) (fun h4 => ?_) (fun h4 => ?_)
        · -- 22 true
          have zh4 := fr3.mp h4
          refine V_aload_n X dX3_measure_28 1 rfl ?_
          refine C_getf X fl_X3_26 23 (by decide) rfl rfl dX3_measure_29 ?_
          refine V_iload_n X dX3_measure_32 2 rfl ?_
          refine C_row X (b) rfl (by omega) dX3_measure_33 ?_
          show V g κ 4 0 0 (t, cW g X0 G9 σ0) 34 [(2, .int (nI (i9))), (0, .ref (X0 + 23)), (1, .int (nI (b)))] (.ref (X0 + (29 + (b))) :: [])
          refine V_iload_n X dX3_measure_34 0 rfl ?_
          refine V_aload_n X dX3_measure_35 1 rfl ?_
          refine V_iload_n X dX3_measure_36 2 rfl ?_
          refine V_iconst (v := nI 1) X dX3_measure_37 (by decide) ?_
          refine V_iload_n X dX3_measure_38 0 rfl ?_
          refine V_ishl1 X (by omega) dX3_measure_39 ?_
          refine V_iconst (v := (-1)) X dX3_measure_40 (by decide) ?_
          refine V_ixor X dX3_measure_41 (V.topi (fun w5 ew5 => ?_))
          refine V_iandL X (by omega) dX3_measure_42 (fun j6 hj6 ej6 => ?_)
          refine V_iload_n X dX3_measure_43 0 rfl ?_
          refine V_callV (rest := [.int (nI (i9)), .ref (X0 + (29 + (b)))]) X E.room ml_X3_41 in_X3_milesOut (ci := 7) rfl se_X3_milesOut (C_recv (q := 23) (by decide) rfl) (by decide) (by decide) (k_X3_milesOut hX (hI.mvR hJ9) (j6) (by omega) (i9) (by omega)) rfl rfl (Nat.le_of_ble_eq_true rfl) ⟨Nat.le_refl _, Nat.le_refl _⟩ dX3_measure_44 (fun _ _ h => False.elim h) (fun v44 σ' hp44 => ?_)
          obtain ⟨hp44, rfl⟩ := hp44
          obtain ⟨r7, rfl⟩ := hp44
          show V g κ 4 0 0 (t, cW g X0 G9 σ0) 47 [(2, .int (nI (i9))), (0, .ref (X0 + 23)), (1, .int (nI (b)))] [.int (r7), .int (nI (i9)), .ref (X0 + (29 + (b)))]
          refine C_iast X (N := 5) (29 + (b)) (by omega) hX (i9) rfl (by omega) (by decide) (cCell_row g X0 (by omega)) dX3_measure_47 (fun F8 hF8 => ?_)
          have hJF8 := (hJ9 : cRw sRo F G9).set hF8 (zsRo (by omega))
          refine V_aload_n X dX3_measure_48 1 rfl ?_
          refine C_getf X fl_X3_26 23 (by decide) rfl rfl dX3_measure_49 ?_
          refine V_iload_n X dX3_measure_52 2 rfl ?_
          refine C_row X (b) rfl (by omega) dX3_measure_53 ?_
          show V g κ 4 0 0 (t, cW g X0 F8 σ0) 54 [(2, .int (nI (i9))), (0, .ref (X0 + 23)), (1, .int (nI (b)))] (.ref (X0 + (29 + (b))) :: [])
          refine V_iload_n X dX3_measure_54 0 rfl ?_
          refine C_iald X (N := 5) (29 + (b)) (by omega) (i9) rfl (by omega) (by decide) (cCell_row g X0 (by omega) _) dX3_measure_55 ?_
          refine V.topi (fun x9 ex9 => ?_)
          refine V_aload_n X dX3_measure_56 1 rfl ?_
          refine V_iload_n X dX3_measure_57 0 rfl ?_
          refine V_callV (rest := [.int (x9)]) X E.room ml_X3_45 in_X3_milesHome (ci := 7) rfl se_X3_milesHome (C_recv (q := 23) (by decide) rfl) (by decide) (by decide) (k_X3_milesHome hX (hI.mvR hJF8) (i9) (by omega)) rfl rfl (Nat.le_of_ble_eq_true rfl) ⟨Nat.le_refl _, Nat.le_refl _⟩ dX3_measure_58 (fun _ _ h => False.elim h) (fun v58 σ' hp58 => ?_)
          obtain ⟨hp58, rfl⟩ := hp58
          cases (hp58 : _ = some (Value.int (F8 24 (i9) + F8 25 (i9))))
          show V g κ 4 0 0 (t, cW g X0 F8 σ0) 61 [(2, .int (nI (i9))), (0, .ref (X0 + 23)), (1, .int (nI (b)))] [.int (F8 24 (i9) + F8 25 (i9)), .int (x9)]
          refine V_iadd X dX3_measure_61 (V.topi (fun w10 ew10 => ?_))
          refine V_istore_n X [(3, .int (w10)), (2, .int (nI (i9))), (0, .ref (X0 + 23)), (1, .int (nI (b)))] dX3_measure_62 (by decide) rfl ?_
          refine V_aload_n X dX3_measure_63 2 rfl ?_
          refine C_getf X fl_X3_21 23 (by decide) rfl rfl dX3_measure_64 ?_
          refine V_iload_n X dX3_measure_67 3 rfl ?_
          refine C_iald X (N := 32) 27 (by decide) (b) rfl (by omega) (by decide) rfl dX3_measure_68 ?_
          refine V.topi (fun x11 ex11 => ?_)
          refine V_iconst (v := (-1)) X dX3_measure_69 (by decide) ?_
          refine V_icmpeq X (tgt := 83) dX3_measure_70 (by decide) (fun h12 => ?_) (fun h12 => ?_)
          · -- 70 true
            refine V_aload_n X dX3_measure_83 2 rfl ?_
            refine C_getf X fl_X3_21 23 (by decide) rfl rfl dX3_measure_84 ?_
            refine V_iload_n X dX3_measure_87 3 rfl ?_
            refine V_iload_n X dX3_measure_88 0 rfl ?_
            refine C_iast X (N := 32) 27 (by decide) hX (b) rfl (by omega) (by decide) (fun _ => rfl) dX3_measure_89 (fun F13 hF13 => ?_)
            have hJF13 := (hJF8 : cRw sRo F F8).set hF13 (zsRo (by omega))
            refine V_iinc X (nI (i9 + 1)) [(2, .int (nI (i9 + 1))), (3, .int (w10)), (0, .ref (X0 + 23)), (1, .int (nI (b)))] dX3_measure_90 1 rfl (zinc _) (by decide) rfl ?_
            refine V_goto (tgt := 9) X dX3_measure_93 (by decide) ?_
            exact V.sub [0, 2, 3] rfl (ih9 _ (by omega) (i9 + 1) F13 rfl (by omega) hJF13)
          · -- 70 false
            refine V_iload_n X dX3_measure_73 0 rfl ?_
            refine V_aload_n X dX3_measure_74 2 rfl ?_
            refine C_getf X fl_X3_21 23 (by decide) rfl rfl dX3_measure_75 ?_
            refine V_iload_n X dX3_measure_78 3 rfl ?_
            refine C_iald X (N := 32) 27 (by decide) (b) rfl (by omega) (by decide) rfl dX3_measure_79 ?_
            refine V.topi (fun x14 ex14 => ?_)
            refine V_icmpge X (tgt := 90) dX3_measure_80 (by decide) (fun h15 => ?_) (fun h15 => ?_)
            · -- 80 true
              refine V_iinc X (nI (i9 + 1)) [(2, .int (nI (i9 + 1))), (3, .int (w10)), (0, .ref (X0 + 23)), (1, .int (nI (b)))] dX3_measure_90 1 rfl (zinc _) (by decide) rfl ?_
              refine V_goto (tgt := 9) X dX3_measure_93 (by decide) ?_
              exact V.sub [0, 2, 3] rfl (ih9 _ (by omega) (i9 + 1) F8 rfl (by omega) hJF8)
            · -- 80 false
              refine V_aload_n X dX3_measure_83 2 rfl ?_
              refine C_getf X fl_X3_21 23 (by decide) rfl rfl dX3_measure_84 ?_
              refine V_iload_n X dX3_measure_87 3 rfl ?_
              refine V_iload_n X dX3_measure_88 0 rfl ?_
              refine C_iast X (N := 32) 27 (by decide) hX (b) rfl (by omega) (by decide) (fun _ => rfl) dX3_measure_89 (fun F16 hF16 => ?_)
              have hJF16 := (hJF8 : cRw sRo F F8).set hF16 (zsRo (by omega))
              refine V_iinc X (nI (i9 + 1)) [(2, .int (nI (i9 + 1))), (3, .int (w10)), (0, .ref (X0 + 23)), (1, .int (nI (b)))] dX3_measure_90 1 rfl (zinc _) (by decide) rfl ?_
              refine V_goto (tgt := 9) X dX3_measure_93 (by decide) ?_
              exact V.sub [0, 2, 3] rfl (ih9 _ (by omega) (i9 + 1) F16 rfl (by omega) hJF16)
        · -- 22 false
          have zh4 := mt fr3.mpr (not_not_intro h4)
          refine V_goto (tgt := 90) X dX3_measure_25 (by decide) ?_
          refine V_iinc X (nI (i9 + 1)) [(2, .int (nI (i9 + 1))), (0, .ref (X0 + 23)), (1, .int (nI (b)))] dX3_measure_90 0 rfl (zinc _) (by decide) rfl ?_
          refine V_goto (tgt := 9) X dX3_measure_93 (by decide) ?_
          exact V.sub [0, 1, 2] rfl (ih9 _ (by omega) (i9 + 1) G9 rfl (by omega) hJ9)
  exact L9 _ 0 F1 rfl (by omega) hJF1
set_option maxRecDepth 100000 in
set_option maxHeartbeats 4000000 in
theorem k_X3_addTown {g : zG} {t : Nat × Nat} {X0 : Nat} {σ0 : Nat → Option va_E} {F : Nat → Nat → Int32} (hX : g.2.1.size ≤ X0) {nP nS nA nC nT : Nat} (hI : cI nP nS nA nC nT F) (hb : nT < 5) (a1 a2 a3 : Int32) : Ct g 13 yX3_addTown cX3_addTown 6 (some FieldType.int) 0 0 [.ref (X0 + 23), .int (a1), .int (a2), .int (a3)] (t, cW g X0 F σ0) (fun v σ' => v = some (.int (nI nT)) ∧ ∃ F1 F' : Nat → Nat → Int32, σ' = (t, cW g X0 F' σ0) ∧ F1 = fset (fset (fset (fset F 24 nT a1) 25 nT a2) 26 nT a3) 23 4 (nI (nT + 1)) ∧ cRw sRo F1 F' ∧ cI nP nS nA nC (nT + 1) F') zNo := by
  refine Ct.of (lv := [(0, .ref (X0 + 23)), (1, .int (a1)), (2, .int (a2)), (3, .int (a3))]) (by decide) (Nat.le_of_ble_eq_true rfl) rfl ?_
  intro κ X E B _
  have X : zX g κ RX3 cX3_addTown 6 := X
  obtain ⟨b1, b2, b3, b4, b5⟩ := hI.bnd
  have h32 : 2 ^ (nT + 1) ≤ 32 := zp2 (n := 5) (by omega)
  have hle : 2 ^ nT ≤ 2 ^ (nT + 1) := zp2 (by omega)
  refine V_aload_n X dX3_addTown_0 0 rfl ?_
  refine C_getfN (z := nI (nT)) X fl_X3_29 23 (by decide) rfl rfl hI.f23_4 dX3_addTown_1 ?_
  refine V_istore X [(4, .int (nI (nT))), (0, .ref (X0 + 23)), (1, .int (a1)), (2, .int (a2)), (3, .int (a3))] dX3_addTown_4 (by decide) rfl ?_
  refine V_aload_n X dX3_addTown_6 1 rfl ?_
  refine C_getf X fl_X3_9 23 (by decide) rfl rfl dX3_addTown_7 ?_
  refine V_iload X dX3_addTown_10 0 rfl ?_
  refine V_iload_n X dX3_addTown_12 2 rfl ?_
  refine C_iast X (N := 5) 24 (by decide) hX (nT) rfl (by omega) (by decide) (fun _ => rfl) dX3_addTown_13 (fun F1 hF1 => ?_)
  have hIF1 := (hI).st hF1 rfl
  refine V_aload_n X dX3_addTown_14 1 rfl ?_
  refine C_getf X fl_X3_15 23 (by decide) rfl rfl dX3_addTown_15 ?_
  refine V_iload X dX3_addTown_18 0 rfl ?_
  refine V_iload_n X dX3_addTown_20 3 rfl ?_
  refine C_iast X (N := 5) 25 (by decide) hX (nT) rfl (by omega) (by decide) (fun _ => rfl) dX3_addTown_21 (fun F2 hF2 => ?_)
  have hIF2 := (hIF1).st hF2 rfl
  refine V_aload_n X dX3_addTown_22 1 rfl ?_
  refine C_getf X fl_X3_18 23 (by decide) rfl rfl dX3_addTown_23 ?_
  refine V_iload X dX3_addTown_26 0 rfl ?_
  refine V_iload_n X dX3_addTown_28 4 rfl ?_
  refine C_iast X (N := 5) 26 (by decide) hX (nT) rfl (by omega) (by decide) (fun _ => rfl) dX3_addTown_29 (fun F3 hF3 => ?_)
  have hIF3 := (hIF2).st hF3 rfl
  refine V_aload_n X dX3_addTown_30 1 rfl ?_
  refine V_dup X dX3_addTown_31 rfl ?_
  refine C_getfN (z := nI (nT)) X fl_X3_29 23 (by decide) rfl rfl hIF3.f23_4 dX3_addTown_32 ?_
  refine V_iconst (v := nI 1) X dX3_addTown_35 (by decide) ?_
  refine V_iaddN X dX3_addTown_36 ?_
  refine C_putf X fl_X3_29 zt_X3 23 (by decide) hX rfl (Nat.le_of_ble_eq_true rfl) rfl rfl rfl rfl rfl dX3_addTown_37 (fun F4 hF4 => ?_)
  have hIF4 := (hIF3).incT hF4 (by omega)
  refine V_iconst (v := nI 1) X dX3_addTown_40 (by decide) ?_
  refine V_iload X dX3_addTown_41 0 rfl ?_
  refine V_ishl1 X (by omega) dX3_addTown_43 ?_
  refine V_istore X [(5, .int (nI (2 ^ (nT)))), (4, .int (nI (nT))), (0, .ref (X0 + 23)), (1, .int (a1)), (2, .int (a2)), (3, .int (a3))] dX3_addTown_44 (by decide) rfl ?_
  have L46 : ∀ (n46 : Nat) (i46 : Nat) (G46 : Nat → Nat → Int32), n46 = 2 ^ (nT + 1) - i46 → i46 ≤ 2 ^ (nT + 1) → 2 ^ (nT) ≤ i46 → cRw sRo F4 G46 → V g κ 6 0 0 (t, cW g X0 G46 σ0) 46 [(5, .int (nI (i46))), (4, .int (nI (nT))), (0, .ref (X0 + 23)), (1, .int (a1)), (2, .int (a2)), (3, .int (a3))] [] := by
    intro n46
    induction n46 using Nat.strongRecOn with
    | ind n46 ih46 =>
      intro i46 G46 hn46 hi46 hl46 hJ46
      refine V_iload X dX3_addTown_46 0 rfl ?_
      refine V_iconst (v := nI 1) X dX3_addTown_48 (by decide) ?_
      refine V_aload_n X dX3_addTown_49 2 rfl ?_
      refine C_getfN (z := nI (nT + 1)) X fl_X3_29 23 (by decide) rfl rfl (hIF4.mvR hJ46).f23_4 dX3_addTown_50 ?_
      refine V_ishl1 X (by omega) dX3_addTown_53 ?_
      refine V_icmpgeN X (by omega) (by omega) (tgt := 69) dX3_addTown_54 (by decide) (fun h5 => ?_) (fun h5 => ?_)
      · -- 54 true
        refine V_iload X dX3_addTown_69 1 rfl ?_
        exact V_iret X E (Nat.zero_le _) (Nat.zero_le _) ⟨rfl, ⟨F4, G46, rfl, by rw [hF4, hF3, hF2, hF1], hJ46, (hIF4.mvR hJ46)⟩⟩ dX3_addTown_71
      · -- 54 false
        refine V_aload_n X dX3_addTown_57 2 rfl ?_
        refine V_iload X dX3_addTown_58 0 rfl ?_
        refine V_callV (rest := []) X E.room ml_X3_33 in_X3_measure (ci := 7) rfl se_X3_measure (C_recv (q := 23) (by decide) rfl) (by decide) (by decide) (k_X3_measure hX (hIF4.mvR hJ46) (i46) (by omega)) rfl rfl (Nat.le_of_ble_eq_true rfl) ⟨Nat.le_refl _, Nat.le_refl _⟩ dX3_addTown_60 (fun _ _ h => False.elim h) (fun v60 σ' hp60 => ?_)
        obtain ⟨hp60, F6, rfl, hJF6⟩ := hp60
        have hKF6 : cRw sRo F4 F6 := (hJ46.trans hJF6)
        cases (hp60 : _ = none)
        show V g κ 6 0 0 (t, cW g X0 F6 σ0) 63 [(5, .int (nI (i46))), (4, .int (nI (nT))), (0, .ref (X0 + 23)), (1, .int (a1)), (2, .int (a2)), (3, .int (a3))] []
        refine V_iinc X (nI (i46 + 1)) [(5, .int (nI (i46 + 1))), (4, .int (nI (nT))), (0, .ref (X0 + 23)), (1, .int (a1)), (2, .int (a2)), (3, .int (a3))] dX3_addTown_63 0 rfl (zinc _) (by decide) rfl ?_
        refine V_goto (tgt := 46) X dX3_addTown_66 (by decide) ?_
        exact V.sub [0, 1, 2, 3, 4, 5] rfl (ih46 _ (by omega) (i46 + 1) F6 rfl (by omega) (by omega) hKF6)
  exact L46 _ (2 ^ (nT)) F4 rfl (by omega) (by omega) cRw.rfl'
set_option maxRecDepth 100000 in
set_option maxHeartbeats 4000000 in
theorem k_X2_fillClashes {g : zG} {t : Nat × Nat} {X0 : Nat} {σ0 : Nat → Option va_E} {F : Nat → Nat → Int32} (hX : g.2.1.size ≤ X0) {nP nS nA nC nT : Nat} (hI : cI nP nS nA nC nT F) (a1 : Int32) : Ct g 12 yX2_fillClashes cX2_fillClashes 5 none 0 0 [.ref (X0 + 1), .int (a1), .ref (X0 + 15)] (t, cW g X0 F σ0) (qS pV g t X0 F σ0) zNo := by
  refine Ct.of (lv := [(0, .ref (X0 + 1)), (1, .int (a1)), (2, .ref (X0 + 15))]) (by decide) (Nat.le_of_ble_eq_true rfl) rfl ?_
  intro κ X E B _
  have X : zX g κ RX2 cX2_fillClashes 5 := X
  obtain ⟨b1, b2, b3, b4, b5⟩ := hI.bnd
  refine V_iconst (v := nI 0) X dX2_fillClashes_0 (by decide) ?_
  refine V_istore_n X [(3, .int (nI (0))), (0, .ref (X0 + 1)), (1, .int (a1)), (2, .ref (X0 + 15))] dX2_fillClashes_1 (by decide) rfl ?_
  have L2 : ∀ (n2 : Nat) (i2 : Nat) (G2 : Nat → Nat → Int32), n2 = 7 - i2 → i2 ≤ 7 → cJ F G2 → V g κ 5 0 0 (t, cW g X0 G2 σ0) 2 [(3, .int (nI (i2))), (0, .ref (X0 + 1)), (1, .int (a1)), (2, .ref (X0 + 15))] [] := by
    intro n2
    induction n2 using Nat.strongRecOn with
    | ind n2 ih2 =>
      intro i2 G2 hn2 hi2 hJ2
      refine V_iload_n X dX2_fillClashes_2 0 rfl ?_
      refine V_aload_n X dX2_fillClashes_3 3 rfl ?_
      refine C_alen (N := 7) (v := nI 7) X 15 (by decide) rfl (by decide) dX2_fillClashes_4 ?_
      refine V_icmpgeN X (by omega) (by omega) (tgt := 18) dX2_fillClashes_5 (by decide) (fun h1 => ?_) (fun h1 => ?_)
      · -- 5 true
        refine V_iconst (v := (-1)) X dX2_fillClashes_18 (by decide) ?_
        refine V_istore_n X [(3, .int (-1)), (0, .ref (X0 + 1)), (1, .int (a1)), (2, .ref (X0 + 15))] dX2_fillClashes_19 (by decide) rfl ?_
        refine V_iconst (v := nI 0) X dX2_fillClashes_20 (by decide) ?_
        refine V_istore X [(4, .int (nI (0))), (3, .int (-1)), (0, .ref (X0 + 1)), (1, .int (a1)), (2, .ref (X0 + 15))] dX2_fillClashes_21 (by decide) rfl ?_
        have L23 : ∀ (n23 : Nat) (i23 : Nat) (x23_3 : Int32) (G23 : Nat → Nat → Int32), n23 = nS - i23 → i23 ≤ nS → cJ F G23 → (x23_3 = -1 ∨ ∃ b, b < nS ∧ x23_3 = nI b) → V g κ 5 0 0 (t, cW g X0 G23 σ0) 23 [(4, .int (nI (i23))), (3, .int (x23_3)), (0, .ref (X0 + 1)), (1, .int (a1)), (2, .ref (X0 + 15))] [] := by
          intro n23
          induction n23 using Nat.strongRecOn with
          | ind n23 ih23 =>
            intro i23 x23_3 G23 hn23 hi23 hJ23 hv23_0
            refine V_iload X dX2_fillClashes_23 0 rfl ?_
            refine V_aload_n X dX2_fillClashes_25 2 rfl ?_
            refine C_getfN (z := nI (nS)) X fl_X2_31 1 (by decide) rfl rfl (hI.mv hJ23).f1_6 dX2_fillClashes_26 ?_
            refine V_icmpgeN X (by omega) (by omega) (tgt := 83) dX2_fillClashes_29 (by decide) (fun h2 => ?_) (fun h2 => ?_)
            · -- 29 true
              exact V_vret X E (Nat.zero_le _) (Nat.zero_le _) ⟨rfl, ⟨_, rfl, hJ23⟩⟩ dX2_fillClashes_83
            · -- 29 false
              refine V_iload_n X dX2_fillClashes_32 3 rfl ?_
              refine V_iload X dX2_fillClashes_33 0 rfl ?_
              refine V_callSN (rest := []) X E.room ml_X2_34 st_X5_has (by omega) (by decide) (k_X5_has (σ := (t, cW g X0 G23 σ0)) (a1) (nI (i23))) rfl rfl (Nat.le_of_ble_eq_true rfl) ⟨Nat.le_refl _, Nat.le_refl _⟩ dX2_fillClashes_35 (fun _ _ h => False.elim h) (fun v35 σ' hp35 => ?_)
              obtain ⟨hp35, rfl⟩ := hp35
              obtain ⟨r3, rfl, hr3, fr3⟩ := hp35
              show V g κ 5 0 0 (t, cW g X0 G23 σ0) 38 [(4, .int (nI (i23))), (3, .int (x23_3)), (0, .ref (X0 + 1)), (1, .int (a1)), (2, .ref (X0 + 15))] [.int (r3)]
              refine V_ifne X (tgt := 44) dX2_fillClashes_38 (by decide) (fun h4 => ?_) (fun h4 => ?_)
              · -- 38 true
                have zh4 := fr3.mp h4
                refine V_aload_n X dX2_fillClashes_44 2 rfl ?_
                refine V_aload_n X dX2_fillClashes_45 2 rfl ?_
                refine C_getf X fl_X2_21 1 (by decide) rfl rfl dX2_fillClashes_46 ?_
                refine V_iload X dX2_fillClashes_49 0 rfl ?_
                refine C_iald X (N := 6) 5 (by decide) (i23) rfl (by omega) (by decide) rfl dX2_fillClashes_51 ?_
                obtain ⟨m5, hm5, em5⟩ := (hI.mv hJ23).sp (i23) (by omega)
                rw [em5]
                refine V_aload_n X dX2_fillClashes_52 4 rfl ?_
                refine V_callV (rest := []) X E.room ml_X2_38 in_X2_clashTogether (ci := 6) rfl se_X2_clashTogether (C_recv (q := 1) (by decide) rfl) (by decide) (by decide) (k_X2_clashTogether hX (hI.mv hJ23) (nI (m5))) rfl rfl (Nat.le_of_ble_eq_true rfl) ⟨Nat.le_refl _, Nat.le_refl _⟩ dX2_fillClashes_53 (fun _ _ h => False.elim h) (fun v53 σ' hp53 => ?_)
                obtain ⟨hp53, F6, rfl, hJF6⟩ := hp53
                have hKF6 : cJ F F6 := (hJ23.trans hJF6)
                cases (hp53 : _ = none)
                show V g κ 5 0 0 (t, cW g X0 F6 σ0) 56 [(4, .int (nI (i23))), (3, .int (x23_3)), (0, .ref (X0 + 1)), (1, .int (a1)), (2, .ref (X0 + 15))] []
                refine V_iload_n X dX2_fillClashes_56 1 rfl ?_
                refine V_iconst (v := (-1)) X dX2_fillClashes_57 (by decide) ?_
                refine V_icmpeq X (tgt := 74) dX2_fillClashes_58 (by decide) (fun h7 => ?_) (fun h7 => ?_)
                · -- 58 true
                  refine V_iload X dX2_fillClashes_74 0 rfl ?_
                  refine V_istore_n X [(3, .int (nI (i23))), (4, .int (nI (i23))), (0, .ref (X0 + 1)), (1, .int (a1)), (2, .ref (X0 + 15))] dX2_fillClashes_76 (by decide) rfl ?_
                  refine V_iinc X (nI (i23 + 1)) [(4, .int (nI (i23 + 1))), (3, .int (nI (i23))), (0, .ref (X0 + 1)), (1, .int (a1)), (2, .ref (X0 + 15))] dX2_fillClashes_77 1 rfl (zinc _) (by decide) rfl ?_
                  refine V_goto (tgt := 23) X dX2_fillClashes_80 (by decide) ?_
                  exact V.sub [0, 1, 2, 3, 4] rfl (ih23 _ (by omega) (i23 + 1) (nI (i23)) F6 rfl (by omega) hKF6 (by first | exact hv23_0 | exact Or.inr ⟨_, by omega, rfl⟩))
                · -- 58 false
                  refine V_aload_n X dX2_fillClashes_61 2 rfl ?_
                  refine V_iload_n X dX2_fillClashes_62 1 rfl ?_
                  refine V_aload_n X dX2_fillClashes_63 2 rfl ?_
                  refine C_getf X fl_X2_21 1 (by decide) rfl rfl dX2_fillClashes_64 ?_
                  refine V_iload X dX2_fillClashes_67 0 rfl ?_
                  refine C_iald X (N := 6) 5 (by decide) (i23) rfl (by omega) (by decide) rfl dX2_fillClashes_69 ?_
                  obtain ⟨m8, hm8, em8⟩ := (hI.mv hKF6).sp (i23) (by omega)
                  rw [em8]
                  refine V_aload_n X dX2_fillClashes_70 4 rfl ?_
                  obtain ⟨b9, hb9, rfl⟩ := hv23_0.resolve_left (by assumption)
                  refine V_callV (rest := []) X E.room ml_X2_42 in_X2_clashInTurn (ci := 6) rfl se_X2_clashInTurn (C_recv (q := 1) (by decide) rfl) (by decide) (by decide) (k_X2_clashInTurn hX (hI.mv hKF6) (b9) (by omega) (nI (m8))) rfl rfl (Nat.le_of_ble_eq_true rfl) ⟨Nat.le_refl _, Nat.le_refl _⟩ dX2_fillClashes_71 (fun _ _ h => False.elim h) (fun v71 σ' hp71 => ?_)
                  obtain ⟨hp71, F9, rfl, hJF9⟩ := hp71
                  have hKF9 : cJ F F9 := (hKF6.trans hJF9)
                  cases (hp71 : _ = none)
                  show V g κ 5 0 0 (t, cW g X0 F9 σ0) 74 [(4, .int (nI (i23))), (3, .int (nI (b9))), (0, .ref (X0 + 1)), (1, .int (a1)), (2, .ref (X0 + 15))] []
                  refine V_iload X dX2_fillClashes_74 0 rfl ?_
                  refine V_istore_n X [(3, .int (nI (i23))), (4, .int (nI (i23))), (0, .ref (X0 + 1)), (1, .int (a1)), (2, .ref (X0 + 15))] dX2_fillClashes_76 (by decide) rfl ?_
                  refine V_iinc X (nI (i23 + 1)) [(4, .int (nI (i23 + 1))), (3, .int (nI (i23))), (0, .ref (X0 + 1)), (1, .int (a1)), (2, .ref (X0 + 15))] dX2_fillClashes_77 1 rfl (zinc _) (by decide) rfl ?_
                  refine V_goto (tgt := 23) X dX2_fillClashes_80 (by decide) ?_
                  exact V.sub [0, 1, 2, 3, 4] rfl (ih23 _ (by omega) (i23 + 1) (nI (i23)) F9 rfl (by omega) hKF9 (by first | exact hv23_0 | exact Or.inr ⟨_, by omega, rfl⟩))
              · -- 38 false
                have zh4 := mt fr3.mpr (not_not_intro h4)
                refine V_goto (tgt := 77) X dX2_fillClashes_41 (by decide) ?_
                refine V_iinc X (nI (i23 + 1)) [(4, .int (nI (i23 + 1))), (3, .int (x23_3)), (0, .ref (X0 + 1)), (1, .int (a1)), (2, .ref (X0 + 15))] dX2_fillClashes_77 0 rfl (zinc _) (by decide) rfl ?_
                refine V_goto (tgt := 23) X dX2_fillClashes_80 (by decide) ?_
                exact V.sub [0, 1, 2, 3, 4] rfl (ih23 _ (by omega) (i23 + 1) x23_3 G23 rfl (by omega) hJ23 (by first | exact hv23_0 | exact Or.inr ⟨_, by omega, rfl⟩))
        exact L23 _ 0 (-1) G2 rfl (by omega) hJ2 (Or.inl rfl)
      · -- 5 false
        refine V_aload_n X dX2_fillClashes_8 3 rfl ?_
        refine V_iload_n X dX2_fillClashes_9 0 rfl ?_
        refine V_iconst (v := nI 0) X dX2_fillClashes_10 (by decide) ?_
        refine C_iast X (N := 7) 15 (by decide) hX (i2) rfl (by omega) (by decide) (fun _ => rfl) dX2_fillClashes_11 (fun F10 hF10 => ?_)
        have hJF10 := (hJ2 : cJ F G2).set hF10 (zscr (by omega))
        refine V_iinc X (nI (i2 + 1)) [(3, .int (nI (i2 + 1))), (0, .ref (X0 + 1)), (1, .int (a1)), (2, .ref (X0 + 15))] dX2_fillClashes_12 0 rfl (zinc _) (by decide) rfl ?_
        refine V_goto (tgt := 2) X dX2_fillClashes_15 (by decide) ?_
        exact V.sub [0, 1, 2, 3] rfl (ih2 _ (by omega) (i2 + 1) F10 rfl (by omega) hJF10)
  exact L2 _ 0 F rfl (by omega) cJ.rfl'
set_option maxRecDepth 100000 in
set_option maxHeartbeats 4000000 in
theorem k_X0_clashesOf {g : zG} {t : Nat × Nat} {X0 : Nat} {σ0 : Nat → Option va_E} {F : Nat → Nat → Int32} (hX : g.2.1.size ≤ X0) {nP nS nA nC nT : Nat} (hI : cI nP nS nA nC nT F) (b : Nat) (hb : b < 7) : Ct g 13 yX0_clashesOf cX0_clashesOf 3 (some FieldType.int) 0 0 [.ref (X0 + 12), .int (nI (b)), .ref (X0 + 1)] (t, cW g X0 F σ0) (qS pI g t X0 F σ0) zNo := by
  refine Ct.of (lv := [(0, .ref (X0 + 12)), (1, .int (nI (b))), (2, .ref (X0 + 1))]) (by decide) (Nat.le_of_ble_eq_true rfl) rfl ?_
  intro κ X E B _
  have X : zX g κ RX0 cX0_clashesOf 3 := X
  obtain ⟨b1, b2, b3, b4, b5⟩ := hI.bnd
  refine V_aload_n X dX0_clashesOf_0 2 rfl ?_
  refine V_aload_n X dX0_clashesOf_1 2 rfl ?_
  refine V_callV (rest := [.ref (X0 + 1)]) X E.room ml_X0_31 in_X2_allScenes (ci := 6) rfl se_X2_allScenes (C_recv (q := 1) (by decide) rfl) (by decide) (by decide) (k_X2_allScenes hX hI) rfl rfl (Nat.le_of_ble_eq_true rfl) ⟨Nat.le_refl _, Nat.le_refl _⟩ dX0_clashesOf_2 (fun _ _ h => False.elim h) (fun v2 σ' hp2 => ?_)
  obtain ⟨hp2, rfl⟩ := hp2
  cases (hp2 : _ = some (Value.int (nI (2 ^ nS - 1))))
  show V g κ 3 0 0 (t, cW g X0 F σ0) 5 [(0, .ref (X0 + 12)), (1, .int (nI (b))), (2, .ref (X0 + 1))] [.int (nI (2 ^ nS - 1)), .ref (X0 + 1)]
  refine V_aload_n X dX0_clashesOf_5 0 rfl ?_
  refine C_getf X fl_X0_18 12 (by decide) rfl rfl dX0_clashesOf_6 ?_
  refine V_callV (rest := []) X E.room ml_X0_90 in_X2_fillClashes (ci := 6) rfl se_X2_fillClashes (C_recv (q := 1) (by decide) rfl) (by decide) (by decide) (k_X2_fillClashes hX hI (nI (2 ^ nS - 1))) rfl rfl (Nat.le_of_ble_eq_true rfl) ⟨Nat.le_refl _, Nat.le_refl _⟩ dX0_clashesOf_9 (fun _ _ h => False.elim h) (fun v9 σ' hp9 => ?_)
  obtain ⟨hp9, F1, rfl, hJF1⟩ := hp9
  cases (hp9 : _ = none)
  show V g κ 3 0 0 (t, cW g X0 F1 σ0) 12 [(0, .ref (X0 + 12)), (1, .int (nI (b))), (2, .ref (X0 + 1))] []
  refine V_aload_n X dX0_clashesOf_12 0 rfl ?_
  refine C_getf X fl_X0_18 12 (by decide) rfl rfl dX0_clashesOf_13 ?_
  refine V_iload_n X dX0_clashesOf_16 1 rfl ?_
  refine C_iald X (N := 7) 15 (by decide) (b) rfl (by omega) (by decide) rfl dX0_clashesOf_17 ?_
  refine V.topi (fun x2 ex2 => ?_)
  exact V_iret X E (Nat.zero_le _) (Nat.zero_le _) ⟨⟨_, rfl⟩, ⟨_, rfl, hJF1⟩⟩ dX0_clashesOf_18
set_option maxRecDepth 100000 in
set_option maxHeartbeats 4000000 in
theorem k_X0_forget {g : zG} {t : Nat × Nat} {X0 : Nat} {σ0 : Nat → Option va_E} {F : Nat → Nat → Int32} (hX : g.2.1.size ≤ X0) {nP nS nA nC nT : Nat} (hI : cI nP nS nA nC nT F)  : Ct g 10 yX0_forget cX0_forget 1 none 0 0 [.ref (X0 + 12)] (t, cW g X0 F σ0) (fun v σ' => v = none ∧ σ' = (t, cW g X0 (fset F 12 3 (nI 0)) σ0)) zNo := by
  refine Ct.of (lv := [(0, .ref (X0 + 12))]) (by decide) (Nat.le_of_ble_eq_true rfl) rfl ?_
  intro κ X E B _
  have X : zX g κ RX0 cX0_forget 1 := X
  obtain ⟨b1, b2, b3, b4, b5⟩ := hI.bnd
  refine V_aload_n X dX0_forget_0 0 rfl ?_
  refine V_iconst (v := nI 0) X dX0_forget_1 (by decide) ?_
  refine C_putf X fl_X0_27 zt_X0 12 (by decide) hX rfl (Nat.le_of_ble_eq_true rfl) rfl rfl rfl rfl rfl dX0_forget_2 (fun F1 hF1 => ?_)
  exact V_vret X E (Nat.zero_le _) (Nat.zero_le _) ⟨rfl, by rw [hF1]⟩ dX0_forget_5
set_option maxRecDepth 100000 in
set_option maxHeartbeats 4000000 in
theorem k_X0_orderByNumber {g : zG} {t : Nat × Nat} {X0 : Nat} {σ0 : Nat → Option va_E} {F : Nat → Nat → Int32} (hX : g.2.1.size ≤ X0) {nP nS nA nC nT : Nat} (hI : cI nP nS nA nC nT F) (a1 : Int32) : Ct g 11 yX0_orderByNumber cX0_orderByNumber 3 none 0 0 [.ref (X0 + 12), .int (a1)] (t, cW g X0 F σ0) (qC pV g t X0 F σ0) zNo := by
  refine Ct.of (lv := [(0, .ref (X0 + 12)), (1, .int (a1))]) (by decide) (Nat.le_of_ble_eq_true rfl) rfl ?_
  intro κ X E B _
  have X : zX g κ RX0 cX0_orderByNumber 3 := X
  obtain ⟨b1, b2, b3, b4, b5⟩ := hI.bnd
  refine V_aload_n X dX0_orderByNumber_0 0 rfl ?_
  refine V_iconst (v := nI 0) X dX0_orderByNumber_1 (by decide) ?_
  refine C_putf X fl_X0_108 zt_X0 12 (by decide) hX rfl (Nat.le_of_ble_eq_true rfl) rfl rfl rfl rfl rfl dX0_orderByNumber_2 (fun F1 hF1 => ?_)
  have hJF1 := (cJ.rfl' : cJ F F).set hF1 rfl
  refine V_iconst (v := nI 0) X dX0_orderByNumber_5 (by decide) ?_
  refine V_istore_n X [(2, .int (nI (0))), (0, .ref (X0 + 12)), (1, .int (a1))] dX0_orderByNumber_6 (by decide) rfl ?_
  have L7 : ∀ (n7 : Nat) (i7 : Nat) (G7 : Nat → Nat → Int32), n7 = 7 - i7 → i7 ≤ 7 → cJ F G7 → cOb i7 G7 → V g κ 3 0 0 (t, cW g X0 G7 σ0) 7 [(2, .int (nI (i7))), (0, .ref (X0 + 12)), (1, .int (a1))] [] := by
    intro n7
    induction n7 using Nat.strongRecOn with
    | ind n7 ih7 =>
      intro i7 G7 hn7 hi7 hJ7 hv7_0
      refine V_iload_n X dX0_orderByNumber_7 0 rfl ?_
      refine V_bipush (v := nI 7) X dX0_orderByNumber_8 (by decide) ?_
      refine V_icmpgeN X (by omega) (by omega) (tgt := 47) dX0_orderByNumber_10 (by decide) (fun h2 => ?_) (fun h2 => ?_)
      · -- 10 true
        exact V_vret X E (Nat.zero_le _) (Nat.zero_le _) ⟨rfl, ⟨_, rfl, hJ7, hv7_0.mono hi7⟩⟩ dX0_orderByNumber_47
      · -- 10 false
        refine V_iload_n X dX0_orderByNumber_13 2 rfl ?_
        refine V_iload_n X dX0_orderByNumber_14 0 rfl ?_
        refine V_callSN (rest := []) X E.room ml_X0_86 st_X5_has (by omega) (by decide) (k_X5_has (σ := (t, cW g X0 G7 σ0)) (a1) (nI (i7))) rfl rfl (Nat.le_of_ble_eq_true rfl) ⟨Nat.le_refl _, Nat.le_refl _⟩ dX0_orderByNumber_15 (fun _ _ h => False.elim h) (fun v15 σ' hp15 => ?_)
        obtain ⟨hp15, rfl⟩ := hp15
        obtain ⟨r3, rfl, hr3, fr3⟩ := hp15
        show V g κ 3 0 0 (t, cW g X0 G7 σ0) 18 [(2, .int (nI (i7))), (0, .ref (X0 + 12)), (1, .int (a1))] [.int (r3)]
        refine V_ifeq X (tgt := 41) dX0_orderByNumber_18 (by decide) (fun h4 => ?_) (fun h4 => ?_)
        · -- 18 true
          have zh4 := mt fr3.mpr (not_not_intro h4)
          refine V_iinc X (nI (i7 + 1)) [(2, .int (nI (i7 + 1))), (0, .ref (X0 + 12)), (1, .int (a1))] dX0_orderByNumber_41 0 rfl (zinc _) (by decide) rfl ?_
          refine V_goto (tgt := 7) X dX0_orderByNumber_44 (by decide) ?_
          exact V.sub [0, 1, 2] rfl (ih7 _ (by omega) (i7 + 1) G7 rfl (by omega) hJ7 (hv7_0.mono (Nat.le_succ _)))
        · -- 18 false
          have zh4 := fr3.mp h4
          refine V_aload_n X dX0_orderByNumber_21 1 rfl ?_
          refine C_getf X fl_X0_21 12 (by decide) rfl rfl dX0_orderByNumber_22 ?_
          refine V_aload_n X dX0_orderByNumber_25 1 rfl ?_
          obtain ⟨m5, hm5, em5, pm5⟩ := hv7_0
          refine C_getfN (z := nI m5) X fl_X0_108 12 (by decide) rfl rfl em5 dX0_orderByNumber_26 ?_
          refine V_iload_n X dX0_orderByNumber_29 0 rfl ?_
          refine C_iast X (N := 7) 16 (by decide) hX (m5) rfl (by omega) (by decide) (fun _ => rfl) dX0_orderByNumber_30 (fun F6 hF6 => ?_)
          have hJF6 := (hJ7 : cJ F G7).set hF6 (zscr (by omega))
          refine V_aload_n X dX0_orderByNumber_31 1 rfl ?_
          refine V_dup X dX0_orderByNumber_32 rfl ?_
          refine C_getfN (z := nI m5) X fl_X0_108 12 (by decide) rfl rfl (by rw [hF6, fset_ne (Or.inl (by decide))]; exact em5) dX0_orderByNumber_33 ?_
          refine V_iconst (v := nI 1) X dX0_orderByNumber_36 (by decide) ?_
          refine V_iaddN X dX0_orderByNumber_37 ?_
          refine C_putf X fl_X0_108 zt_X0 12 (by decide) hX rfl (Nat.le_of_ble_eq_true rfl) rfl rfl rfl rfl rfl dX0_orderByNumber_38 (fun F7 hF7 => ?_)
          have hJF7 := (hJF6 : cJ F F6).set hF7 rfl
          refine V_iinc X (nI (i7 + 1)) [(2, .int (nI (i7 + 1))), (0, .ref (X0 + 12)), (1, .int (a1))] dX0_orderByNumber_41 0 rfl (zinc _) (by decide) rfl ?_
          refine V_goto (tgt := 7) X dX0_orderByNumber_44 (by decide) ?_
          exact V.sub [0, 1, 2] rfl (ih7 _ (by omega) (i7 + 1) F7 rfl (by omega) hJF7 (cOb.step hm5 pm5 hF6 (by omega) hF7))
  exact L7 _ 0 F1 rfl (by omega) hJF1 (cOb.zero hF1)
set_option maxRecDepth 100000 in
set_option maxHeartbeats 4000000 in
theorem k_X0_orderByChoice {g : zG} {t : Nat × Nat} {X0 : Nat} {σ0 : Nat → Option va_E} {F : Nat → Nat → Int32} (hX : g.2.1.size ≤ X0) {nP nS nA nC nT : Nat} (hI : cI nP nS nA nC nT F) (a1 : Int32) : Ct g 11 yX0_orderByChoice cX0_orderByChoice 4 none 0 0 [.ref (X0 + 12), .int (a1)] (t, cW g X0 F σ0) (qC pV g t X0 F σ0) zNo := by
  refine Ct.of (lv := [(0, .ref (X0 + 12)), (1, .int (a1))]) (by decide) (Nat.le_of_ble_eq_true rfl) rfl ?_
  intro κ X E B _
  have X : zX g κ RX0 cX0_orderByChoice 4 := X
  obtain ⟨b1, b2, b3, b4, b5⟩ := hI.bnd
  refine V_aload_n X dX0_orderByChoice_0 0 rfl ?_
  refine V_iconst (v := nI 0) X dX0_orderByChoice_1 (by decide) ?_
  refine C_putf X fl_X0_108 zt_X0 12 (by decide) hX rfl (Nat.le_of_ble_eq_true rfl) rfl rfl rfl rfl rfl dX0_orderByChoice_2 (fun F1 hF1 => ?_)
  have hJF1 := (cJ.rfl' : cJ F F).set hF1 rfl
  refine V_iconst (v := nI 0) X dX0_orderByChoice_5 (by decide) ?_
  refine V_istore_n X [(2, .int (nI (0))), (0, .ref (X0 + 12)), (1, .int (a1))] dX0_orderByChoice_6 (by decide) rfl ?_
  have L7 : ∀ (n7 : Nat) (i7 : Nat) (G7 : Nat → Nat → Int32), n7 = 6 - i7 → i7 ≤ 6 → cJ F G7 → cOc i7 0 G7 → V g κ 4 0 0 (t, cW g X0 G7 σ0) 7 [(2, .int (nI (i7))), (0, .ref (X0 + 12)), (1, .int (a1))] [] := by
    intro n7
    induction n7 using Nat.strongRecOn with
    | ind n7 ih7 =>
      intro i7 G7 hn7 hi7 hJ7 hv7_0
      refine V_iload_n X dX0_orderByChoice_7 0 rfl ?_
      refine V_iconst (v := nI 5) X dX0_orderByChoice_8 (by decide) ?_
      refine V_icmpgtN X (by omega) (by omega) (tgt := 73) dX0_orderByChoice_9 (by decide) (fun h2 => ?_) (fun h2 => ?_)
      · -- 9 true
        exact V_vret X E (Nat.zero_le _) (Nat.zero_le _) ⟨rfl, ⟨_, rfl, hJ7, hv7_0.done⟩⟩ dX0_orderByChoice_73
      · -- 9 false
        refine V_iconst (v := nI 0) X dX0_orderByChoice_12 (by decide) ?_
        refine V_istore_n X [(3, .int (nI (0))), (2, .int (nI (i7))), (0, .ref (X0 + 12)), (1, .int (a1))] dX0_orderByChoice_13 (by decide) rfl ?_
        have L14 : ∀ (n14 : Nat) (i14 : Nat) (G14 : Nat → Nat → Int32), n14 = 7 - i14 → i14 ≤ 7 → cJ F G14 → cOc i7 i14 G14 → V g κ 4 0 0 (t, cW g X0 G14 σ0) 14 [(3, .int (nI (i14))), (2, .int (nI (i7))), (0, .ref (X0 + 12)), (1, .int (a1))] [] := by
          intro n14
          induction n14 using Nat.strongRecOn with
          | ind n14 ih14 =>
            intro i14 G14 hn14 hi14 hJ14 hv14_0
            refine V_iload_n X dX0_orderByChoice_14 0 rfl ?_
            refine V_bipush (v := nI 7) X dX0_orderByChoice_15 (by decide) ?_
            refine V_icmpgeN X (by omega) (by omega) (tgt := 67) dX0_orderByChoice_17 (by decide) (fun h3 => ?_) (fun h3 => ?_)
            · -- 17 true
              refine V_iinc X (nI (i7 + 1)) [(2, .int (nI (i7 + 1))), (3, .int (nI (i14))), (0, .ref (X0 + 12)), (1, .int (a1))] dX0_orderByChoice_67 1 rfl (zinc _) (by decide) rfl ?_
              refine V_goto (tgt := 7) X dX0_orderByChoice_70 (by decide) ?_
              exact V.sub [0, 2, 3] rfl (ih7 _ (by omega) (i7 + 1) G14 rfl (by omega) hJ14 (hv14_0.next' (by omega)))
            · -- 17 false
              refine V_iload_n X dX0_orderByChoice_20 3 rfl ?_
              refine V_iload_n X dX0_orderByChoice_21 0 rfl ?_
              refine V_callSN (rest := []) X E.room ml_X0_86 st_X5_has (by omega) (by decide) (k_X5_has (σ := (t, cW g X0 G14 σ0)) (a1) (nI (i14))) rfl rfl (Nat.le_of_ble_eq_true rfl) ⟨Nat.le_refl _, Nat.le_refl _⟩ dX0_orderByChoice_22 (fun _ _ h => False.elim h) (fun v22 σ' hp22 => ?_)
              obtain ⟨hp22, rfl⟩ := hp22
              obtain ⟨r4, rfl, hr4, fr4⟩ := hp22
              show V g κ 4 0 0 (t, cW g X0 G14 σ0) 25 [(3, .int (nI (i14))), (2, .int (nI (i7))), (0, .ref (X0 + 12)), (1, .int (a1))] [.int (r4)]
              refine V_ifeq X (tgt := 61) dX0_orderByChoice_25 (by decide) (fun h5 => ?_) (fun h5 => ?_)
              · -- 25 true
                have zh5 := mt fr4.mpr (not_not_intro h5)
                refine V_iinc X (nI (i14 + 1)) [(3, .int (nI (i14 + 1))), (2, .int (nI (i7))), (0, .ref (X0 + 12)), (1, .int (a1))] dX0_orderByChoice_61 0 rfl (zinc _) (by decide) rfl ?_
                refine V_goto (tgt := 14) X dX0_orderByChoice_64 (by decide) ?_
                exact V.sub [0, 1, 2, 3] rfl (ih14 _ (by omega) (i14 + 1) G14 rfl (by omega) hJ14 (hv14_0.skip))
              · -- 25 false
                have zh5 := fr4.mp h5
                refine V_aload_n X dX0_orderByChoice_28 2 rfl ?_
                refine C_getf X fl_X0_15 12 (by decide) rfl rfl dX0_orderByChoice_29 ?_
                refine V_iload_n X dX0_orderByChoice_32 0 rfl ?_
                refine C_iald X (N := 7) 14 (by decide) (i14) rfl (by omega) (by decide) rfl dX0_orderByChoice_33 ?_
                refine V.topi (fun x6 ex6 => ?_)
                refine V_callS (rest := []) X E.room ml_X0_77 st_J6_bitCount_0f7a4 (by decide) (by decide) (k_J6_bitCount_0f7a4 (σ := (t, cW g X0 G14 σ0)) (x6)) rfl rfl (Nat.le_of_ble_eq_true rfl) ⟨Nat.le_refl _, Nat.le_refl _⟩ dX0_orderByChoice_34 (fun _ _ h => False.elim h) (fun v9 σ' hp9 => ?_)
                obtain ⟨hp9, rfl⟩ := hp9
                cases (hp9 : _ = some (Value.int (zbc (x6))))
                show V g κ 4 0 0 (t, cW g X0 G14 σ0) 37 [(3, .int (nI (i14))), (2, .int (nI (i7))), (0, .ref (X0 + 12)), (1, .int (a1))] [.int (zbc (x6))]
                refine V_iload_n X dX0_orderByChoice_37 1 rfl ?_
                refine V_icmpne X (tgt := 61) dX0_orderByChoice_38 (by decide) (fun h7 => ?_) (fun h7 => ?_)
                · -- 38 true
                  refine V_iinc X (nI (i14 + 1)) [(3, .int (nI (i14 + 1))), (2, .int (nI (i7))), (0, .ref (X0 + 12)), (1, .int (a1))] dX0_orderByChoice_61 0 rfl (zinc _) (by decide) rfl ?_
                  refine V_goto (tgt := 14) X dX0_orderByChoice_64 (by decide) ?_
                  exact V.sub [0, 1, 2, 3] rfl (ih14 _ (by omega) (i14 + 1) G14 rfl (by omega) hJ14 (hv14_0.skip))
                · -- 38 false
                  refine V_aload_n X dX0_orderByChoice_41 2 rfl ?_
                  refine C_getf X fl_X0_21 12 (by decide) rfl rfl dX0_orderByChoice_42 ?_
                  refine V_aload_n X dX0_orderByChoice_45 2 rfl ?_
                  obtain ⟨m8, hm8, em8, pm8⟩ := hv14_0
                  have hbc : zbc (G14 14 i14) = nI i7 := by rw [← ex6]; assumption
                  have hm7 : m8 < 7 := cOc.lt hm8 (by omega) (by omega) hbc
                  refine C_getfN (z := nI m8) X fl_X0_108 12 (by decide) rfl rfl em8 dX0_orderByChoice_46 ?_
                  refine V_iload_n X dX0_orderByChoice_49 0 rfl ?_
                  refine C_iast X (N := 7) 16 (by decide) hX (m8) rfl (by omega) (by decide) (fun _ => rfl) dX0_orderByChoice_50 (fun F9 hF9 => ?_)
                  have hJF9 := (hJ14 : cJ F G14).set hF9 (zscr (by omega))
                  refine V_aload_n X dX0_orderByChoice_51 2 rfl ?_
                  refine V_dup X dX0_orderByChoice_52 rfl ?_
                  refine C_getfN (z := nI m8) X fl_X0_108 12 (by decide) rfl rfl (by rw [hF9, fset_ne (Or.inl (by decide))]; exact em8) dX0_orderByChoice_53 ?_
                  refine V_iconst (v := nI 1) X dX0_orderByChoice_56 (by decide) ?_
                  refine V_iaddN X dX0_orderByChoice_57 ?_
                  refine C_putf X fl_X0_108 zt_X0 12 (by decide) hX rfl (Nat.le_of_ble_eq_true rfl) rfl rfl rfl rfl rfl dX0_orderByChoice_58 (fun F10 hF10 => ?_)
                  have hJF10 := (hJF9 : cJ F F9).set hF10 rfl
                  refine V_iinc X (nI (i14 + 1)) [(3, .int (nI (i14 + 1))), (2, .int (nI (i7))), (0, .ref (X0 + 12)), (1, .int (a1))] dX0_orderByChoice_61 0 rfl (zinc _) (by decide) rfl ?_
                  refine V_goto (tgt := 14) X dX0_orderByChoice_64 (by decide) ?_
                  exact V.sub [0, 1, 2, 3] rfl (ih14 _ (by omega) (i14 + 1) F10 rfl (by omega) hJF10 (cOc.step hm8 pm8 hF9 (by omega) hF10 (by omega) hbc))
        exact L14 _ 0 G7 rfl (by omega) hJ7 (hv7_0)
  exact L7 _ 0 F1 rfl (by omega) hJF1 (cOc.zero hF1)
set_option maxRecDepth 100000 in
set_option maxHeartbeats 4000000 in
theorem k_X0_prepare {g : zG} {t : Nat × Nat} {X0 : Nat} {σ0 : Nat → Option va_E} {F : Nat → Nat → Int32} (hX : g.2.1.size ≤ X0) {nP nS nA nC nT : Nat} (hI : cI nP nS nA nC nT F) (a3 : Int32) : Ct g 13 yX0_prepare cX0_prepare 5 none 0 0 [.ref (X0 + 12), .ref (X0 + 1), .ref (X0 + 7), .int (a3)] (t, cW g X0 F σ0) (qC pV g t X0 F σ0) zNo := by
  refine Ct.of (lv := [(0, .ref (X0 + 12)), (1, .ref (X0 + 1)), (2, .ref (X0 + 7)), (3, .int (a3))]) (by decide) (Nat.le_of_ble_eq_true rfl) rfl ?_
  intro κ X E B _
  have X : zX g κ RX0 cX0_prepare 5 := X
  obtain ⟨b1, b2, b3, b4, b5⟩ := hI.bnd
  refine V_aload_n X dX0_prepare_0 1 rfl ?_
  refine V_iload_n X dX0_prepare_1 3 rfl ?_
  refine V_aload_n X dX0_prepare_2 0 rfl ?_
  refine C_getf X fl_X0_18 12 (by decide) rfl rfl dX0_prepare_3 ?_
  refine V_callV (rest := []) X E.room ml_X0_90 in_X2_fillClashes (ci := 6) rfl se_X2_fillClashes (C_recv (q := 1) (by decide) rfl) (by decide) (by decide) (k_X2_fillClashes hX hI (a3)) rfl rfl (Nat.le_of_ble_eq_true rfl) ⟨Nat.le_refl _, Nat.le_refl _⟩ dX0_prepare_6 (fun _ _ h => False.elim h) (fun v6 σ' hp6 => ?_)
  obtain ⟨hp6, F1, rfl, hJF1⟩ := hp6
  cases (hp6 : _ = none)
  show V g κ 5 0 0 (t, cW g X0 F1 σ0) 9 [(0, .ref (X0 + 12)), (1, .ref (X0 + 1)), (2, .ref (X0 + 7)), (3, .int (a3))] []
  refine V_iconst (v := nI 0) X dX0_prepare_9 (by decide) ?_
  refine V_istore X [(4, .int (nI (0))), (0, .ref (X0 + 12)), (1, .ref (X0 + 1)), (2, .ref (X0 + 7)), (3, .int (a3))] dX0_prepare_10 (by decide) rfl ?_
  have L12 : ∀ (n12 : Nat) (i12 : Nat) (G12 : Nat → Nat → Int32), n12 = nP - i12 → i12 ≤ nP → cJ F G12 → V g κ 5 0 0 (t, cW g X0 G12 σ0) 12 [(4, .int (nI (i12))), (0, .ref (X0 + 12)), (1, .ref (X0 + 1)), (2, .ref (X0 + 7)), (3, .int (a3))] [] := by
    intro n12
    induction n12 using Nat.strongRecOn with
    | ind n12 ih12 =>
      intro i12 G12 hn12 hi12 hJ12
      refine V_iload X dX0_prepare_12 0 rfl ?_
      refine V_aload_n X dX0_prepare_14 2 rfl ?_
      refine C_getfN (z := nI (nP)) X fl_X0_94 1 (by decide) rfl rfl (hI.mv hJ12).f1_5 dX0_prepare_15 ?_
      refine V_icmpgeN X (by omega) (by omega) (tgt := 47) dX0_prepare_18 (by decide) (fun h2 => ?_) (fun h2 => ?_)
      · -- 18 true
        refine V_aload_n X dX0_prepare_47 1 rfl ?_
        refine V_aload_n X dX0_prepare_48 2 rfl ?_
        refine V_iload_n X dX0_prepare_49 4 rfl ?_
        refine V_callV (rest := [.ref (X0 + 12)]) X E.room ml_X0_56 in_X2_partsOf (ci := 6) rfl se_X2_partsOf (C_recv (q := 1) (by decide) rfl) (by decide) (by decide) (k_X2_partsOf hX (hI.mv hJ12) (a3)) rfl rfl (Nat.le_of_ble_eq_true rfl) ⟨Nat.le_refl _, Nat.le_refl _⟩ dX0_prepare_50 (fun _ _ h => False.elim h) (fun v50 σ' hp50 => ?_)
        obtain ⟨hp50, rfl⟩ := hp50
        obtain ⟨r3, rfl, fr3⟩ := hp50
        show V g κ 5 0 0 (t, cW g X0 G12 σ0) 53 [(4, .int (nI (i12))), (0, .ref (X0 + 12)), (1, .ref (X0 + 1)), (2, .ref (X0 + 7)), (3, .int (a3))] [.int (r3), .ref (X0 + 12)]
        refine V_callV (rest := []) X E.room ml_X0_105 in_X0_orderByChoice (ci := 4) rfl se_X0_orderByChoice (C_recv (q := 12) (by decide) rfl) (by decide) (by decide) (k_X0_orderByChoice hX (hI.mv hJ12) (r3)) rfl rfl (Nat.le_of_ble_eq_true rfl) ⟨Nat.le_refl _, Nat.le_refl _⟩ dX0_prepare_53 (fun _ _ h => False.elim h) (fun v53 σ' hp53 => ?_)
        obtain ⟨hp53, F4, rfl, hJF4, hOF4⟩ := hp53
        have hKF4 : cJ F F4 := (hJ12 : cJ F G12).trans hJF4
        cases (hp53 : _ = none)
        show V g κ 5 0 0 (t, cW g X0 F4 σ0) 56 [(4, .int (nI (i12))), (0, .ref (X0 + 12)), (1, .ref (X0 + 1)), (2, .ref (X0 + 7)), (3, .int (a3))] []
        exact V_vret X E (Nat.zero_le _) (Nat.zero_le _) ⟨rfl, ⟨_, rfl, hKF4, hOF4⟩⟩ dX0_prepare_56
      · -- 18 false
        refine V_aload_n X dX0_prepare_21 1 rfl ?_
        refine C_getf X fl_X0_15 12 (by decide) rfl rfl dX0_prepare_22 ?_
        refine V_iload X dX0_prepare_25 0 rfl ?_
        refine V_aload_n X dX0_prepare_27 3 rfl ?_
        refine V_iconst (v := nI 1) X dX0_prepare_28 (by decide) ?_
        refine V_aload_n X dX0_prepare_29 2 rfl ?_
        refine C_getf X fl_X0_97 1 (by decide) rfl rfl dX0_prepare_30 ?_
        refine V_iload X dX0_prepare_33 0 rfl ?_
        refine C_iald X (N := 7) 2 (by decide) (i12) rfl (by omega) (by decide) rfl dX0_prepare_35 ?_
        refine V.topi (fun x5 ex5 => ?_)
        refine V_ishl X dX0_prepare_36 (V.topi (fun w6 ew6 => ?_))
        refine V_callV (rest := [.int (nI (i12)), .ref (X0 + 14)]) X E.room ml_X0_100 in_X1_ableOfAny (ci := 5) rfl se_X1_ableOfAny (C_recv (q := 7) (by decide) rfl) (by decide) (by decide) (k_X1_ableOfAny hX (hI.mv hJ12) (w6)) rfl rfl (Nat.le_of_ble_eq_true rfl) ⟨Nat.le_refl _, Nat.le_refl _⟩ dX0_prepare_37 (fun _ _ h => False.elim h) (fun v37 σ' hp37 => ?_)
        obtain ⟨hp37, rfl⟩ := hp37
        obtain ⟨r7, rfl, fr7⟩ := hp37
        show V g κ 5 0 0 (t, cW g X0 G12 σ0) 40 [(4, .int (nI (i12))), (0, .ref (X0 + 12)), (1, .ref (X0 + 1)), (2, .ref (X0 + 7)), (3, .int (a3))] [.int (r7), .int (nI (i12)), .ref (X0 + 14)]
        refine C_iast X (N := 7) 14 (by decide) hX (i12) rfl (by omega) (by decide) (fun _ => rfl) dX0_prepare_40 (fun F8 hF8 => ?_)
        have hJF8 := (hJ12 : cJ F G12).set hF8 (zscr (by omega))
        refine V_iinc X (nI (i12 + 1)) [(4, .int (nI (i12 + 1))), (0, .ref (X0 + 12)), (1, .ref (X0 + 1)), (2, .ref (X0 + 7)), (3, .int (a3))] dX0_prepare_41 0 rfl (zinc _) (by decide) rfl ?_
        refine V_goto (tgt := 12) X dX0_prepare_44 (by decide) ?_
        exact V.sub [0, 1, 2, 3, 4] rfl (ih12 _ (by omega) (i12 + 1) F8 rfl (by omega) hJF8)
  exact L12 _ 0 F1 rfl (by omega) hJF1
