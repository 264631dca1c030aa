set_option maxRecDepth 100000 in
set_option maxHeartbeats 4000000 in
theorem k_X12_partsOf {g : zG} {t : Nat × Nat} {ad N : Nat → Nat} {S : Int64} {σ0 : Nat → Option va_E} {F : Nat → Nat → Int32} (hK : rK g ad N) (hI : rI N F)  (a1 : Int32) : Ct g 13 yX12_partsOf cX12_partsOf 4 (some FieldType.int) 0 0 [.ref (ad (0)), .int (a1)] (t, rO g ad N S F σ0) (fun v σ' => (∃ m, v = some (.int (nI m)) ∧ pOf N F a1 (N 2) m) ∧ σ' = (t, rO g ad N S F σ0)) zNo := by
  refine Ct.of (lv := [(0, .ref (ad (0))), (1, .int (a1))]) (by decide) (Nat.le_of_ble_eq_true rfl) rfl ?_
  intro κ X E B _
  have X : zX g κ RX12 cX12_partsOf 4 := X
  obtain ⟨b0, b1, b2, b3, b4⟩ := hI.bnd
  refine V_iconst (v := nI 0) X dX12_partsOf_0 (by decide) ?_
  refine V_istore_n X [(2, .int (nI (0))), (0, .ref (ad (0))), (1, .int (a1))] dX12_partsOf_1 (by decide) rfl ?_
  refine V_iconst (v := nI 0) X dX12_partsOf_2 (by decide) ?_
  refine V_istore_n X [(3, .int (nI (0))), (2, .int (nI (0))), (0, .ref (ad (0))), (1, .int (a1))] dX12_partsOf_3 (by decide) rfl ?_
  have L4 : ∀ (n4 : Nat) (i4 : Nat) (y4_2 : Nat), n4 = N 2 - i4 → i4 ≤ N 2 → pOf N F a1 i4 y4_2 → V g κ 4 (0) (0) (t, rO g ad N S F σ0) 4 [(3, .int (nI (i4))), (2, .int (nI (y4_2))), (0, .ref (ad (0))), (1, .int (a1))] [] := by
    intro n4
    induction n4 using Nat.strongRecOn with
    | ind n4 ih4 =>
      intro i4 y4_2 hn4 hi4 hy4_2
      refine V_iload_n X dX12_partsOf_4 0 rfl ?_
      refine V_aload_n X dX12_partsOf_5 2 rfl ?_
      refine R_getf X fl_X12_19 hK (0) (rlv (by omega)) rfl rfl dX12_partsOf_6 ?_
      refine V_callV (rest := [.int (nI (i4))]) X E.room ml_X12_42 in_Jx4a65c_size_8abf5 (ci := 3) rfl se_Jx4a65c_size_8abf5 (rO_list hK (i := 2) (by decide)) (by omega) (by decide) (r_size hK 2 (by decide)) rfl rfl (Nat.le_of_ble_eq_true rfl) ⟨by omega, by omega⟩ dX12_partsOf_9 (fun _ _ h => False.elim h) (fun v1 σ' hp2 => ?_)
      obtain ⟨hp2, rfl⟩ := hp2
      cases (hp2 : _ = some (Value.int (nI (N 2))))
      show V g κ 4 (0) (0) (t, rO g ad N S F σ0) 12 [(3, .int (nI (i4))), (2, .int (nI (y4_2))), (0, .ref (ad (0))), (1, .int (a1))] [.int (nI (N 2)), .int (nI (i4))]
      refine V_icmpgeN X (by omega) (by omega) (tgt := 50) dX12_partsOf_12 (by decide) (fun h3 => ?_) (fun h3 => ?_)
      · -- 12 true
        refine V_iload_n X dX12_partsOf_50 1 rfl ?_
        exact V_iret X E (by omega) (by omega) ⟨⟨_, rfl, by have e : i4 = N 2 := (by omega); rw [← e]; exact hy4_2⟩, rfl⟩ dX12_partsOf_51
      · -- 12 false
        refine V_iload_n X dX12_partsOf_15 1 rfl ?_
        refine V_iload_n X dX12_partsOf_16 3 rfl ?_
        refine V_iload_n X dX12_partsOf_17 0 rfl ?_
        refine V_callS (rest := [.int (nI (y4_2))]) X E.room ml_X12_159 st_X12_isIn (by omega) (by decide) (k_X12_isIn (σ := (t, rO g ad N S F σ0)) (a1) (nI (i4))) rfl rfl (Nat.le_of_ble_eq_true rfl) ⟨by omega, by omega⟩ dX12_partsOf_18 (fun _ _ h => False.elim h) (fun v18 σ' hp18 => ?_)
        obtain ⟨hp18, rfl⟩ := hp18
        rcases hp18 with ⟨rfl, z4⟩ | ⟨rfl, z4⟩
        · -- yes
          show V g κ 4 (0) (0) (t, rO g ad N S F σ0) 21 [(3, .int (nI (i4))), (2, .int (nI (y4_2))), (0, .ref (ad (0))), (1, .int (a1))] [.int (nI (1)), .int (nI (y4_2))]
          refine V_ifeqN X (by omega) (tgt := 41) dX12_partsOf_21 (by decide) (fun h5 => absurd h5 (by omega)) (fun h5 => ?_)
          refine V_aload_n X dX12_partsOf_24 2 rfl ?_
          refine R_getf X fl_X12_19 hK (0) (rlv (by omega)) rfl rfl dX12_partsOf_25 ?_
          refine V_iload_n X dX12_partsOf_28 0 rfl ?_
          refine V_callV (rest := [.int (nI (y4_2))]) X E.room ml_X12_97 in_Jx4a65c_get_915e3 (ci := 3) rfl se_Jx4a65c_get_915e3 (rO_list hK (i := 2) (by decide)) (by omega) (by decide) (r_get hK 2 (by decide) (j := i4) (by omega) (by omega)) rfl rfl (Nat.le_of_ble_eq_true rfl) ⟨by omega, by omega⟩ dX12_partsOf_29 (fun _ _ h => False.elim h) (fun v6 σ' hp7 => ?_)
          obtain ⟨hp7, rfl⟩ := hp7
          cases (hp7 : _ = some (Value.ref (ad (26 + (i4)))))
          show V g κ 4 (0) (0) (t, rO g ad N S F σ0) 32 [(3, .int (nI (i4))), (2, .int (nI (y4_2))), (0, .ref (ad (0))), (1, .int (a1))] [.ref (ad (26 + (i4))), .int (nI (y4_2))]
          refine V_cast X (C := RX10) rfl cl_X12_85 (R_recv hK (q := 26 + (i4)) (rlv (by omega)) (rCell_scene (by omega))) dX12_partsOf_32 ?_
          obtain ⟨m8, hm8, em8⟩ := hI.sp (i4) (by omega)
          have gm8 : m8 < 128 := Nat.lt_of_lt_of_le hm8 (zp2 (n := 7) (by omega))
          refine R_getfN (z := nI (m8)) X fl_X12_88 hK (26 + (i4)) (rlv (by omega)) (rCell_scene (by omega)) rfl em8 dX12_partsOf_35 ?_
          refine V_goto (tgt := 42) X dX12_partsOf_38 (by decide) ?_
          refine V_iorN X dX12_partsOf_42 ?_
          refine V_istore_n X [(2, .int (nI ((y4_2) ||| (m8)))), (3, .int (nI (i4))), (0, .ref (ad (0))), (1, .int (a1))] dX12_partsOf_43 (by decide) rfl ?_
          refine V_iinc X (nI (i4 + 1)) [(3, .int (nI (i4 + 1))), (2, .int (nI ((y4_2) ||| (m8)))), (0, .ref (ad (0))), (1, .int (a1))] dX12_partsOf_44 1 rfl (zinc _) (by decide) rfl ?_
          refine V_goto (tgt := 4) X dX12_partsOf_47 (by decide) ?_
          exact V.sub [0, 1, 2, 3] rfl (ih4 _ (by omega) (i4 + 1) ((y4_2) ||| (m8)) rfl (by omega) (hy4_2.yes hm8 gm8 em8))
        · -- no
          show V g κ 4 (0) (0) (t, rO g ad N S F σ0) 21 [(3, .int (nI (i4))), (2, .int (nI (y4_2))), (0, .ref (ad (0))), (1, .int (a1))] [.int (nI (0)), .int (nI (y4_2))]
          refine V_ifeqN X (by omega) (tgt := 41) dX12_partsOf_21 (by decide) (fun h9 => ?_) (fun h9 => absurd h9 (by omega))
          refine V_iconst (v := nI 0) X dX12_partsOf_41 (by decide) ?_
          refine V_iorN X dX12_partsOf_42 ?_
          refine V_istore_n X [(2, .int (nI ((y4_2) ||| (0)))), (3, .int (nI (i4))), (0, .ref (ad (0))), (1, .int (a1))] dX12_partsOf_43 (by decide) rfl ?_
          refine V_iinc X (nI (i4 + 1)) [(3, .int (nI (i4 + 1))), (2, .int (nI ((y4_2) ||| (0)))), (0, .ref (ad (0))), (1, .int (a1))] dX12_partsOf_44 1 rfl (zinc _) (by decide) rfl ?_
          refine V_goto (tgt := 4) X dX12_partsOf_47 (by decide) ?_
          exact V.sub [0, 1, 2, 3] rfl (ih4 _ (by omega) (i4 + 1) ((y4_2) ||| (0)) rfl (by omega) (hy4_2.no z4))
  exact L4 _ (0) (0) rfl (by omega) (pOf.zero)
set_option maxRecDepth 100000 in
set_option maxHeartbeats 4000000 in
theorem k_X12_needs {g : zG} {t : Nat × Nat} {ad N : Nat → Nat} {S : Int64} {σ0 : Nat → Option va_E} {F : Nat → Nat → Int32} (hK : rK g ad N) (hI : rI N F) (a1 : Int32) : Ct g 24 yX12_needs cX12_needs 4 (some FieldType.int) 0 0 [.ref (ad (0)), .int (a1)] (t, rO g ad N S F σ0) (qNeed g t ad N S σ0 F a1) zNo := by
  refine Ct.of (lv := [(0, .ref (ad (0))), (1, .int (a1))]) (by decide) (Nat.le_of_ble_eq_true rfl) rfl ?_
  intro κ X E B _
  have X : zX g κ RX12 cX12_needs 4 := X
  obtain ⟨b0, b1, b2, b3, b4⟩ := hI.bnd
  refine V_aload_n X dX12_needs_0 0 rfl ?_
  refine V_iload_n X dX12_needs_1 1 rfl ?_
  refine V_callV (rest := []) X E.room ml_X12_175 in_X12_clash (ci := 16) rfl se_X12_clash (R_recv hK (q := 0) (rlv (by omega)) rfl) (by omega) (by decide) (k_X12_clash hK hI (a1)) rfl rfl (Nat.le_of_ble_eq_true rfl) ⟨by omega, by omega⟩ dX12_needs_2 (fun _ _ h => False.elim h) (fun v2 σ' hp2 => ?_)
  obtain ⟨hp2, F1, rfl, hJF1⟩ := hp2
  have hKF1 : rJ F F1 := (rJ.rfl' : rJ F F).trans hJF1
  cases (hp2 : _ = none)
  show V g κ 4 (0) (0) (t, rO g ad N S F1 σ0) 5 [(0, .ref (ad (0))), (1, .int (a1))] []
  refine V_aload_n X dX12_needs_5 0 rfl ?_
  refine V_iload_n X dX12_needs_6 1 rfl ?_
  refine V_callV (rest := []) X E.room ml_X12_179 in_X12_partsOf (ci := 16) rfl se_X12_partsOf (R_recv hK (q := 0) (rlv (by omega)) rfl) (by omega) (by decide) (k_X12_partsOf hK (hI.mv hKF1) (a1)) rfl rfl (Nat.le_of_ble_eq_true rfl) ⟨by omega, by omega⟩ dX12_needs_7 (fun _ _ h => False.elim h) (fun v7 σ' hp7 => ?_)
  obtain ⟨hp7, rfl⟩ := hp7
  obtain ⟨m2, rfl, hm2⟩ := hp7
  have gm2 : m2 < 128 := Nat.lt_of_lt_of_le hm2.1 (zp2 (n := 7) (by omega))
  show V g κ 4 (0) (0) (t, rO g ad N S F1 σ0) 10 [(0, .ref (ad (0))), (1, .int (a1))] [.int (nI (m2))]
  refine V_istore_n X [(2, .int (nI (m2))), (0, .ref (ad (0))), (1, .int (a1))] dX12_needs_10 (by decide) rfl ?_
  refine V_aload_n X dX12_needs_11 1 rfl ?_
  refine V_iconst (v := nI 0) X dX12_needs_12 (by decide) ?_
  refine V_iload_n X dX12_needs_13 0 rfl ?_
  refine V_iconst (v := nI 0) X dX12_needs_14 (by decide) ?_
  refine V_aload_n X dX12_needs_15 1 rfl ?_
  refine R_getf X fl_X12_16 hK (0) (rlv (by omega)) rfl rfl dX12_needs_16 ?_
  refine V_callV (rest := [.int (nI (0)), .int (nI (m2)), .int (nI (0)), .ref (ad (0))]) X E.room ml_X12_42 in_Jx4a65c_size_8abf5 (ci := 3) rfl se_Jx4a65c_size_8abf5 (rO_list hK (i := 1) (by decide)) (by omega) (by decide) (r_size hK 1 (by decide)) rfl rfl (Nat.le_of_ble_eq_true rfl) ⟨by omega, by omega⟩ dX12_needs_19 (fun _ _ h => False.elim h) (fun v3 σ' hp4 => ?_)
  obtain ⟨hp4, rfl⟩ := hp4
  cases (hp4 : _ = some (Value.int (nI (N 1))))
  show V g κ 4 (0) (0) (t, rO g ad N S F1 σ0) 22 [(2, .int (nI (m2))), (0, .ref (ad (0))), (1, .int (a1))] [.int (nI (N 1)), .int (nI (0)), .int (nI (m2)), .int (nI (0)), .ref (ad (0))]
  have hI9 : rI N F1 := hI.mv hKF1
  refine V_callV (rest := []) X E.room ml_X12_166 in_X12_fills (ci := 16) rfl se_X12_fills (R_recv hK (q := 0) (rlv (by omega)) rfl) (by omega) (by decide) (k_X12_fills hK (N 0) hI9 0 (by omega) (nI (m2)) (nI (0)) (nI (N 1))) rfl rfl (Nat.le_of_ble_eq_true rfl) ⟨by omega, by omega⟩ dX12_needs_22 (fun _ _ h => False.elim h) (fun v22 σ' hp22 => ?_)
  obtain ⟨F5, rfl, hwF5, hpF5⟩ := hp22
  have hJF5 : zRw 0 F1 F5 := (zRw.rfl' : zRw 0 F1 F1).tr0 hwF5
  rcases hpF5 with ⟨rfl, cF5, cF5o⟩ | ⟨rfl, cF5⟩
  · -- filled
    show V g κ 4 (0) (0) (t, rO g ad N S F5 σ0) 25 [(2, .int (nI (m2))), (0, .ref (ad (0))), (1, .int (a1))] [.int (nI (1))]
    refine V_ifneN X (by omega) (tgt := 30) dX12_needs_25 (by decide) (fun h6 => ?_) (fun h6 => absurd h6 (by omega))
    refine V_iconst (v := nI 0) X dX12_needs_30 (by decide) ?_
    refine V_istore_n X [(3, .int (nI (0))), (2, .int (nI (m2))), (0, .ref (ad (0))), (1, .int (a1))] dX12_needs_31 (by decide) rfl ?_
    have L32 : ∀ (n32 : Nat) (i32 : Nat) (G32 : Nat → Nat → Int32), n32 = N 1 - i32 → i32 ≤ N 1 → zRw 0 F1 G32 → V g κ 4 (0) (0) (t, rO g ad N S G32 σ0) 32 [(3, .int (nI (i32))), (2, .int (nI (m2))), (0, .ref (ad (0))), (1, .int (a1))] [] := by
      intro n32
      induction n32 using Nat.strongRecOn with
      | ind n32 ih32 =>
        intro i32 G32 hn32 hi32 hJ32
        refine V_iload_n X dX12_needs_32 0 rfl ?_
        refine V_aload_n X dX12_needs_33 2 rfl ?_
        refine R_getf X fl_X12_16 hK (0) (rlv (by omega)) rfl rfl dX12_needs_34 ?_
        refine V_callV (rest := [.int (nI (i32))]) X E.room ml_X12_42 in_Jx4a65c_size_8abf5 (ci := 3) rfl se_Jx4a65c_size_8abf5 (rO_list hK (i := 1) (by decide)) (by omega) (by decide) (r_size hK 1 (by decide)) rfl rfl (Nat.le_of_ble_eq_true rfl) ⟨by omega, by omega⟩ dX12_needs_37 (fun _ _ h => False.elim h) (fun v7 σ' hp8 => ?_)
        obtain ⟨hp8, rfl⟩ := hp8
        cases (hp8 : _ = some (Value.int (nI (N 1))))
        show V g κ 4 (0) (0) (t, rO g ad N S G32 σ0) 40 [(3, .int (nI (i32))), (2, .int (nI (m2))), (0, .ref (ad (0))), (1, .int (a1))] [.int (nI (N 1)), .int (nI (i32))]
        refine V_icmpgeN X (by omega) (by omega) (tgt := 62) dX12_needs_40 (by decide) (fun h9 => ?_) (fun h9 => ?_)
        · -- 40 true
          refine V_aload_n X dX12_needs_62 2 rfl ?_
          refine V_iconst (v := nI 0) X dX12_needs_63 (by decide) ?_
          refine V_iload_n X dX12_needs_64 1 rfl ?_
          refine V_iconst (v := nI 0) X dX12_needs_65 (by decide) ?_
          refine V_aload_n X dX12_needs_66 2 rfl ?_
          refine R_getf X fl_X12_16 hK (0) (rlv (by omega)) rfl rfl dX12_needs_67 ?_
          refine V_callV (rest := [.int (nI (0)), .int (nI (m2)), .int (nI (0)), .ref (ad (0))]) X E.room ml_X12_42 in_Jx4a65c_size_8abf5 (ci := 3) rfl se_Jx4a65c_size_8abf5 (rO_list hK (i := 1) (by decide)) (by omega) (by decide) (r_size hK 1 (by decide)) rfl rfl (Nat.le_of_ble_eq_true rfl) ⟨by omega, by omega⟩ dX12_needs_70 (fun _ _ h => False.elim h) (fun v10 σ' hp11 => ?_)
          obtain ⟨hp11, rfl⟩ := hp11
          cases (hp11 : _ = some (Value.int (nI (N 1))))
          show V g κ 4 (0) (0) (t, rO g ad N S G32 σ0) 73 [(3, .int (nI (i32))), (2, .int (nI (m2))), (0, .ref (ad (0))), (1, .int (a1))] [.int (nI (N 1)), .int (nI (0)), .int (nI (m2)), .int (nI (0)), .ref (ad (0))]
          refine V_callV (rest := []) X E.room ml_X12_166 in_X12_fills (ci := 16) rfl se_X12_fills (R_recv hK (q := 0) (rlv (by omega)) rfl) (by omega) (by decide) (k_X12_fills hK (N 0) (hI9.mv (hJ32).j) 0 (by omega) (nI (m2)) (nI (0)) (nI (N 1))) rfl rfl (Nat.le_of_ble_eq_true rfl) ⟨by omega, by omega⟩ dX12_needs_73 (fun _ _ h => False.elim h) (fun v73 σ' hp73 => ?_)
          obtain ⟨F12, rfl, hwF12, hpF12⟩ := hp73
          have hJF12 : zRw 0 F1 F12 := (hJ32 : zRw 0 F1 G32).tr0 hwF12
          rcases hpF12 with ⟨rfl, cF12, cF12o⟩ | ⟨rfl, cF12⟩
          · -- filled
            show V g κ 4 (0) (0) (t, rO g ad N S F12 σ0) 76 [(3, .int (nI (i32))), (2, .int (nI (m2))), (0, .ref (ad (0))), (1, .int (a1))] [.int (nI (1))]
            refine V_pop X dX12_needs_76 rfl ?_
            refine V_aload_n X dX12_needs_77 2 rfl ?_
            refine R_getf X fl_X12_16 hK (0) (rlv (by omega)) rfl rfl dX12_needs_78 ?_
            refine V_callV (rest := []) X E.room ml_X12_42 in_Jx4a65c_size_8abf5 (ci := 3) rfl se_Jx4a65c_size_8abf5 (rO_list hK (i := 1) (by decide)) (by omega) (by decide) (r_size hK 1 (by decide)) rfl rfl (Nat.le_of_ble_eq_true rfl) ⟨by omega, by omega⟩ dX12_needs_81 (fun _ _ h => False.elim h) (fun v13 σ' hp14 => ?_)
            obtain ⟨hp14, rfl⟩ := hp14
            cases (hp14 : _ = some (Value.int (nI (N 1))))
            show V g κ 4 (0) (0) (t, rO g ad N S F12 σ0) 84 [(3, .int (nI (i32))), (2, .int (nI (m2))), (0, .ref (ad (0))), (1, .int (a1))] [.int (nI (N 1))]
            exact V_iret X E (by omega) (by omega) ⟨_, rfl, (hKF1 : rJ F F1).trans (hJF12).j, Or.inr ⟨_, by omega, rfl, zRow.of (by omega) (by omega) hm2 (fun s hs => congrFun ((hJF12).1 (26 + s) (by omega)) 0) (fun p hp => cF12o p (Nat.zero_le _) hp)⟩⟩ dX12_needs_84
          · exact absurd (fCan_0 (hJ32) cF5) cF12
        · -- 40 false
          refine V_aload_n X dX12_needs_43 2 rfl ?_
          refine V_iconst (v := nI 0) X dX12_needs_44 (by decide) ?_
          refine V_iload_n X dX12_needs_45 1 rfl ?_
          refine V_iconst (v := nI 0) X dX12_needs_46 (by decide) ?_
          refine V_iload_n X dX12_needs_47 0 rfl ?_
          refine V_callV (rest := []) X E.room ml_X12_166 in_X12_fills (ci := 16) rfl se_X12_fills (R_recv hK (q := 0) (rlv (by omega)) rfl) (by omega) (by decide) (k_X12_fills hK (N 0) (hI9.mv (hJ32).j) 0 (by omega) (nI (m2)) (nI (0)) (nI (i32))) rfl rfl (Nat.le_of_ble_eq_true rfl) ⟨by omega, by omega⟩ dX12_needs_48 (fun _ _ h => False.elim h) (fun v48 σ' hp48 => ?_)
          obtain ⟨F15, rfl, hwF15, hpF15⟩ := hp48
          have hJF15 : zRw 0 F1 F15 := (hJ32 : zRw 0 F1 G32).tr0 hwF15
          rcases hpF15 with ⟨rfl, cF15, cF15o⟩ | ⟨rfl, cF15⟩
          · -- filled
            show V g κ 4 (0) (0) (t, rO g ad N S F15 σ0) 51 [(3, .int (nI (i32))), (2, .int (nI (m2))), (0, .ref (ad (0))), (1, .int (a1))] [.int (nI (1))]
            refine V_ifeqN X (by omega) (tgt := 56) dX12_needs_51 (by decide) (fun h16 => absurd h16 (by omega)) (fun h16 => ?_)
            refine V_iload_n X dX12_needs_54 0 rfl ?_
            exact V_iret X E (by omega) (by omega) ⟨_, rfl, (hKF1 : rJ F F1).trans (hJF15).j, Or.inr ⟨_, by omega, rfl, zRow.of (by omega) (by omega) hm2 (fun s hs => congrFun ((hJF15).1 (26 + s) (by omega)) 0) (fun p hp => cF15o p (Nat.zero_le _) hp)⟩⟩ dX12_needs_55
          · -- not
            show V g κ 4 (0) (0) (t, rO g ad N S F15 σ0) 51 [(3, .int (nI (i32))), (2, .int (nI (m2))), (0, .ref (ad (0))), (1, .int (a1))] [.int (nI (0))]
            refine V_ifeqN X (by omega) (tgt := 56) dX12_needs_51 (by decide) (fun h17 => ?_) (fun h17 => absurd h17 (by omega))
            refine V_iinc X (nI (i32 + 1)) [(3, .int (nI (i32 + 1))), (2, .int (nI (m2))), (0, .ref (ad (0))), (1, .int (a1))] dX12_needs_56 0 rfl (zinc _) (by decide) rfl ?_
            refine V_goto (tgt := 32) X dX12_needs_59 (by decide) ?_
            exact V.sub [0, 1, 2, 3] rfl (ih32 _ (by omega) (i32 + 1) F15 rfl (by omega) hJF15)
    exact L32 _ (0) F5 rfl (by omega) hJF5
  · -- not
    show V g κ 4 (0) (0) (t, rO g ad N S F5 σ0) 25 [(2, .int (nI (m2))), (0, .ref (ad (0))), (1, .int (a1))] [.int (nI (0))]
    refine V_ifneN X (by omega) (tgt := 30) dX12_needs_25 (by decide) (fun h18 => absurd h18 (by omega)) (fun h18 => ?_)
    refine V_iconst (v := (-1)) X dX12_needs_28 (by decide) ?_
    exact V_iret X E (by omega) (by omega) ⟨_, rfl, (hKF1 : rJ F F1).trans (hJF5).j, Or.inl rfl⟩ dX12_needs_29
set_option maxRecDepth 100000 in
set_option maxHeartbeats 4000000 in
theorem k_X12_isCast {g : zG} {t : Nat × Nat} {ad N : Nat → Nat} {S : Int64} {σ0 : Nat → Option va_E} {F : Nat → Nat → Int32} (hK : rK g ad N) (hI : rI N F)  : Ct g 25 yX12_isCast cX12_isCast 2 (some FieldType.boolean) 0 0 [.ref (ad (0))] (t, rO g ad N S F σ0) (qCast g t ad N S σ0 F) zNo := by
  refine Ct.of (lv := [(0, .ref (ad (0)))]) (by decide) (Nat.le_of_ble_eq_true rfl) rfl ?_
  intro κ X E B _
  have X : zX g κ RX12 cX12_isCast 2 := X
  obtain ⟨b0, b1, b2, b3, b4⟩ := hI.bnd
  refine V_aload_n X dX12_isCast_0 0 rfl ?_
  refine R_getf X fl_X12_70 hK (0) (rlv (by omega)) rfl rfl dX12_isCast_1 (V.topi (fun x1 ex1 => ?_))
  refine V_ifne X (tgt := 55) dX12_isCast_4 (by decide) (fun h2 => ?_) (fun h2 => ?_)
  · -- 4 true
    refine V_aload_n X dX12_isCast_55 0 rfl ?_
    refine R_getf X fl_X12_188 hK (0) (rlv (by omega)) rfl rfl dX12_isCast_56 (V.topi (fun x3 ex3 => ?_))
    refine V_iconst (v := (-1)) X dX12_isCast_59 (by decide) ?_
    refine V_icmpeq X (tgt := 67) dX12_isCast_60 (by decide) (fun h4 => ?_) (fun h4 => ?_)
    · -- 60 true
      refine V_iconst (v := nI 0) X dX12_isCast_67 (by decide) ?_
      exact V_zret X E (by first | rfl | decide | exact zbool (by assumption)) (by omega) (by omega) ⟨_, rfl, rC.rfl', hI, Or.inr rfl⟩ dX12_isCast_68
    · -- 60 false
      have hne : F 0 12 ≠ -1 := fun q => h4 (ex3.trans q)
      have hkn : F 0 11 ≠ 0 := fun q => h2 (ex1.trans q)
      refine V_iconst (v := nI 1) X dX12_isCast_63 (by decide) ?_
      refine V_goto (tgt := 68) X dX12_isCast_64 (by decide) ?_
      exact V_zret X E (by first | rfl | decide | exact zbool (by assumption)) (by omega) (by omega) ⟨_, rfl, rC.rfl', hI, Or.inl ⟨rfl, hI.2.2.2 hkn hne⟩⟩ dX12_isCast_68
  · -- 4 false
    refine V_aload_n X dX12_isCast_7 0 rfl ?_
    refine V_aload_n X dX12_isCast_8 0 rfl ?_
    refine V_aload_n X dX12_isCast_9 0 rfl ?_
    refine V_callV (rest := [.ref (ad (0)), .ref (ad (0))]) X E.room ml_X12_182 in_X12_all (ci := 16) rfl se_X12_all (R_recv hK (q := 0) (rlv (by omega)) rfl) (by omega) (by decide) (k_X12_all hK hI) rfl rfl (Nat.le_of_ble_eq_true rfl) ⟨by omega, by omega⟩ dX12_isCast_10 (fun _ _ h => False.elim h) (fun v10 σ' hp10 => ?_)
    obtain ⟨hp10, rfl⟩ := hp10
    cases (hp10 : _ = some (Value.int (nI (2 ^ N 2 - 1))))
    show V g κ 2 (0) (0) (t, rO g ad N S F σ0) 13 [(0, .ref (ad (0)))] [.int (nI (2 ^ N 2 - 1)), .ref (ad (0)), .ref (ad (0))]
    refine V_callV (rest := [.ref (ad (0))]) X E.room ml_X12_185 in_X12_needs (ci := 16) rfl se_X12_needs (R_recv hK (q := 0) (rlv (by omega)) rfl) (by omega) (by decide) (k_X12_needs hK hI (nI (2 ^ N 2 - 1))) rfl rfl (Nat.le_of_ble_eq_true rfl) ⟨by omega, by omega⟩ dX12_isCast_13 (fun _ _ h => False.elim h) (fun v13 σ' hp13 => ?_)
    obtain ⟨F5, rfl, hJF5, hp13⟩ := hp13
    have hKF5 : rJ F F5 := (rJ.rfl' : rJ F F).trans hJF5
    obtain ⟨r6, rfl, hrr6⟩ : ∃ r, v13 = some (Value.int r) ∧ (¬ r = -1 → zRow N F5 (nI (2 ^ N 2 - 1))) := by rcases hp13 with h | ⟨k, -, h, h2⟩; exact ⟨_, h, fun q => absurd rfl q⟩; exact ⟨_, h, fun _ => h2⟩
    show V g κ 2 (0) (0) (t, rO g ad N S F5 σ0) 16 [(0, .ref (ad (0)))] [.int (r6), .ref (ad (0))]
    refine R_putf X fl_X12_188 zt_X12 hK (0) (rlv (by omega)) (by omega) rfl (Nat.le_of_ble_eq_true rfl) rfl rfl rfl rfl rfl dX12_isCast_16 (fun F7 hF7 => ?_)
    have uF7 : F5 0 11 = 0 := ((hKF5 : rJ F F5) 0 11 rfl).trans (by rw [← ex1]; exact h2)
    have hIF7 : rI N F7 := (hI.mv hKF5).dk hF7 uF7 (Or.inr ⟨rfl, rfl⟩)
    have vF7 : F7 0 11 = 0 := by rw [hF7, fset_ne (Or.inr (by decide))]; exact uF7
    have wF7 : F7 0 12 = r6 := by rw [hF7, fset_eq]
    refine V_iconst (v := nI 0) X dX12_isCast_19 (by decide) ?_
    refine V_istore_n X [(1, .int (nI (0))), (0, .ref (ad (0)))] dX12_isCast_20 (by decide) rfl ?_
    have L21 : ∀ (n21 : Nat) (i21 : Nat) (G21 : Nat → Nat → Int32), n21 = N 0 - i21 → i21 ≤ N 0 → zCs F7 G21 → (∀ p, p < i21 → G21 11 p = F7 12 p) → V g κ 2 (0) (0) (t, rO g ad N S G21 σ0) 21 [(1, .int (nI (i21))), (0, .ref (ad (0)))] [] := by
      intro n21
      induction n21 using Nat.strongRecOn with
      | ind n21 ih21 =>
        intro i21 G21 hn21 hi21 hJ21 hv21_0
        refine V_iload_n X dX12_isCast_21 0 rfl ?_
        refine V_aload_n X dX12_isCast_22 1 rfl ?_
        refine R_getf X fl_X12_10 hK (0) (rlv (by omega)) rfl rfl dX12_isCast_23 ?_
        refine V_callV (rest := [.int (nI (i21))]) X E.room ml_X12_42 in_Jx4a65c_size_8abf5 (ci := 3) rfl se_Jx4a65c_size_8abf5 (rO_list hK (i := 0) (by decide)) (by omega) (by decide) (r_size hK 0 (by decide)) rfl rfl (Nat.le_of_ble_eq_true rfl) ⟨by omega, by omega⟩ dX12_isCast_26 (fun _ _ h => False.elim h) (fun v8 σ' hp9 => ?_)
        obtain ⟨hp9, rfl⟩ := hp9
        cases (hp9 : _ = some (Value.int (nI (N 0))))
        show V g κ 2 (0) (0) (t, rO g ad N S G21 σ0) 29 [(1, .int (nI (i21))), (0, .ref (ad (0)))] [.int (nI (N 0)), .int (nI (i21))]
        refine V_icmpgeN X (by omega) (by omega) (tgt := 50) dX12_isCast_29 (by decide) (fun h10 => ?_) (fun h10 => ?_)
        · -- 29 true
          refine V_aload_n X dX12_isCast_50 1 rfl ?_
          refine V_iconst (v := nI 1) X dX12_isCast_51 (by decide) ?_
          refine R_putf X fl_X12_70 zt_X12 hK (0) (rlv (by omega)) (by omega) rfl (Nat.le_of_ble_eq_true rfl) rfl rfl rfl rfl rfl dX12_isCast_52 (fun F11 hF11 => ?_)
          have hIG : rI N G21 := hIF7.dkr vF7 hJ21
          have eG : G21 0 12 = r6 := (congrFun ((hJ21 : zCs F7 G21) 0 (by decide)) 12).trans wF7
          have hcG : ¬ r6 = -1 → rCast N G21 := fun q => rCast.of (hI.mv hKF5) (hrr6 q) (fun p hp => (hv21_0 p (by omega)).trans (by rw [hF7, fset_ne (Or.inl (by decide))])) (fun s hs => (congrFun ((hJ21 : zCs F7 G21) (26 + s) (by omega)) 0).trans (by rw [hF7, fset_ne (Or.inl (by omega))]))
          have hIL : rI N F11 := hIG.known hF11 (fun q => hcG (by rw [← eG]; exact q))
          have hCL : ¬ r6 = -1 → rCast N F11 := fun q => (hcG q).mv (fun p => by rw [hF11, fset_ne (Or.inl (by decide))]) (fun s _ => by rw [hF11, fset_ne (Or.inl (by omega))])
          have eL : F11 0 12 = r6 := by rw [hF11, fset_ne (Or.inr (by decide))]; exact eG
          have rL : rC F F11 := fun k j h1 h2 h4 => by rw [hF11, fset_ne (by omega), congrFun ((hJ21 : zCs F7 G21) k h1) j, hF7, fset_ne (by omega)]; exact (hKF5 : rJ F F5) k j h2
          refine V_aload_n X dX12_isCast_55 1 rfl ?_
          refine R_getf X fl_X12_188 hK (0) (rlv (by omega)) rfl rfl dX12_isCast_56 (V.topi (fun x12 ex12 => ?_))
          refine V_iconst (v := (-1)) X dX12_isCast_59 (by decide) ?_
          refine V_icmpeq X (tgt := 67) dX12_isCast_60 (by decide) (fun h13 => ?_) (fun h13 => ?_)
          · -- 60 true
            refine V_iconst (v := nI 0) X dX12_isCast_67 (by decide) ?_
            exact V_zret X E (by first | rfl | decide | exact zbool (by assumption)) (by omega) (by omega) ⟨_, rfl, rL, hIL, Or.inr rfl⟩ dX12_isCast_68
          · -- 60 false
            have hne : ¬ r6 = -1 := fun q => h13 (ex12.trans (eL.trans q))
            refine V_iconst (v := nI 1) X dX12_isCast_63 (by decide) ?_
            refine V_goto (tgt := 68) X dX12_isCast_64 (by decide) ?_
            exact V_zret X E (by first | rfl | decide | exact zbool (by assumption)) (by omega) (by omega) ⟨_, rfl, rL, hIL, Or.inl ⟨rfl, hCL hne⟩⟩ dX12_isCast_68
        · -- 29 false
          refine V_aload_n X dX12_isCast_32 1 rfl ?_
          refine R_getf X fl_X12_28 hK (0) (rlv (by omega)) rfl rfl dX12_isCast_33 ?_
          refine V_iload_n X dX12_isCast_36 0 rfl ?_
          refine V_aload_n X dX12_isCast_37 1 rfl ?_
          refine R_getf X fl_X12_32 hK (0) (rlv (by omega)) rfl rfl dX12_isCast_38 ?_
          refine V_iload_n X dX12_isCast_41 0 rfl ?_
          refine R_iald X hK (12) (by omega) (i21) rfl (by omega) dX12_isCast_42 ?_
          refine V.topi (fun x14 ex14 => ?_)
          have fx14 : x14 = F7 12 (i21) := ex14.trans (congrFun ((hJ21 : zCs F7 G21) 12 (by decide)) _)
          refine R_iast X hK (11) (by omega) (i21) rfl (by omega) dX12_isCast_43 (fun F15 hF15 => ?_)
          have hJF15 : zCs F7 F15 := (hJ21 : zCs F7 G21).set hF15
          refine V_iinc X (nI (i21 + 1)) [(1, .int (nI (i21 + 1))), (0, .ref (ad (0)))] dX12_isCast_44 0 rfl (zinc _) (by decide) rfl ?_
          refine V_goto (tgt := 21) X dX12_isCast_47 (by decide) ?_
          exact V.sub [0, 1] rfl (ih21 _ (by omega) (i21 + 1) F15 rfl (by omega) hJF15 (fun p hp => by by_cases e : p = i21; (subst e; rw [hF15, fset_eq]; exact fx14); (rw [hF15, fset_ne (Or.inr e)]; exact hv21_0 p (by omega))))
    exact L21 _ (0) F7 rfl (by omega) zCs.rfl' (fun p hp => absurd hp (Nat.not_lt_zero p))
