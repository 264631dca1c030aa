set_option maxRecDepth 100000 in
set_option maxHeartbeats 4000000 in
theorem k_X5_hasN {g : zG} {σ : zS}  (a1 : Int32) (a2 : Int32) : Ct g 10 yX5_has cX5_has 2 (some FieldType.boolean) 0 0 [.int (a1), .int (a2)] σ (qR (fun v => ∃ x : Int32, v = some (.int x) ∧ (x = 0 ∨ x = 1) ∧ (¬ x = 0 ↔ zIn a1 a2)) σ) zNo := by
  refine Ct.of (lv := [(0, .int (a1)), (1, .int (a2))]) (by decide) (Nat.le_of_ble_eq_true rfl) rfl ?_
  intro κ X E B _
  have X : zX g κ RX5 cX5_has 2 := X
  refine V_iload_n X dX5_has_0 0 rfl ?_
  refine V_iload_n X dX5_has_1 1 rfl ?_
  refine V_ishr X dX5_has_2 (V.topi (fun w1 ew1 => ?_))
  refine V_iconst (v := nI 1) X dX5_has_3 (by decide) ?_
  refine V_iand X dX5_has_4 (V.topi (fun w2 ew2 => ?_))
  refine V_ifeq X (tgt := 12) dX5_has_5 (by decide) (fun h3 => ?_) (fun h3 => ?_)
  · -- 5 true
    refine V_iconst (v := nI 0) X dX5_has_12 (by decide) ?_
    exact V_zret X E (zbool z01_0) (Nat.zero_le _) (Nat.zero_le _) ⟨⟨_, rfl, z01_0, ⟨fun q => absurd nI_0 q, fun q => by subst_vars; exact absurd q (zIn_z (by first | assumption | exact Eq.symm (by assumption)))⟩⟩, rfl⟩ dX5_has_13
  · -- 5 false
    refine V_iconst (v := nI 1) X dX5_has_8 (by decide) ?_
    refine V_goto (tgt := 13) X dX5_has_9 (by decide) ?_
    exact V_zret X E (zbool z01_1) (Nat.zero_le _) (Nat.zero_le _) ⟨⟨_, rfl, z01_1, ⟨fun _ => by subst_vars; exact zIn_ne (by assumption), fun _ => by decide⟩⟩, rfl⟩ dX5_has_13
set_option maxRecDepth 100000 in
set_option maxHeartbeats 4000000 in
theorem k_X1_ableOfAnyN {g : zG} {t : Nat × Nat} {X0 : Nat} {σ0 : Nat → Option va_E} {F : Nat → Nat → Int32} (hX : g.2.1.size ≤ X0) {nP nS nA nC nT : Nat} (hI : cI nP nS nA nC nT F)  (a1 : Int32) : Ct g 11 yX1_ableOfAny cX1_ableOfAny 4 (some FieldType.int) 0 0 [.ref (X0 + 7), .int (a1)] (t, cW g X0 F σ0) (qR (fun v => ∃ x : Int32, v = some (.int x) ∧ zMk x (fun q => q < nA ∧ mAb F a1 q)) (t, cW g X0 F σ0)) zNo := by
  refine Ct.of (lv := [(0, .ref (X0 + 7)), (1, .int (a1))]) (by decide) (Nat.le_of_ble_eq_true rfl) rfl ?_
  intro κ X E B _
  have X : zX g κ RX1 cX1_ableOfAny 4 := X
  obtain ⟨b1, b2, b3, b4, b5⟩ := hI.bnd
  refine V_iconst (v := nI 0) X dX1_ableOfAny_0 (by decide) ?_
  refine V_istore_n X [(2, .int (nI (0))), (0, .ref (X0 + 7)), (1, .int (a1))] dX1_ableOfAny_1 (by decide) rfl ?_
  refine V_iconst (v := nI 0) X dX1_ableOfAny_2 (by decide) ?_
  refine V_istore_n X [(3, .int (nI (0))), (2, .int (nI (0))), (0, .ref (X0 + 7)), (1, .int (a1))] dX1_ableOfAny_3 (by decide) rfl ?_
  have L4 : ∀ (n4 : Nat) (i4 : Nat) (x4_2 : Int32), n4 = nA - i4 → i4 ≤ nA → zMk x4_2 (fun q => q < i4 ∧ mAb F a1 q) → V g κ 4 0 0 (t, cW g X0 F σ0) 4 [(3, .int (nI (i4))), (2, .int (x4_2)), (0, .ref (X0 + 7)), (1, .int (a1))] [] := by
    intro n4
    induction n4 using Nat.strongRecOn with
    | ind n4 ih4 =>
      intro i4 x4_2 hn4 hi4 hv4_0
      refine V_iload_n X dX1_ableOfAny_4 0 rfl ?_
      refine V_aload_n X dX1_ableOfAny_5 2 rfl ?_
      refine C_getfN (z := nI (nA)) X fl_X1_24 7 (by decide) rfl rfl hI.f7_4 dX1_ableOfAny_6 ?_
      refine V_icmpgeN X (by omega) (by omega) (tgt := 46) dX1_ableOfAny_9 (by decide) (fun h1 => ?_) (fun h1 => ?_)
      · -- 9 true
        refine V_iload_n X dX1_ableOfAny_46 1 rfl ?_
        exact V_iret X E (Nat.zero_le _) (Nat.zero_le _) ⟨⟨_, rfl, (by rw [← show i4 = nA by omega]; exact hv4_0)⟩, rfl⟩ dX1_ableOfAny_47
      · -- 9 false
        refine V_aload_n X dX1_ableOfAny_12 2 rfl ?_
        refine C_getf X fl_X1_28 7 (by decide) rfl rfl dX1_ableOfAny_13 (V.topi (fun x2 ex2 => ?_))
        refine V_iload_n X dX1_ableOfAny_16 0 rfl ?_
        refine V_callSN (rest := []) X E.room ml_X1_37 st_X5_has (by omega) (by decide) (k_X5_hasN (σ := (t, cW g X0 F σ0)) (x2) (nI (i4))) rfl rfl (Nat.le_of_ble_eq_true rfl) ⟨Nat.le_refl _, Nat.le_refl _⟩ dX1_ableOfAny_17 (fun _ _ h => False.elim h) (fun v17 σ' hp17 => ?_)
        obtain ⟨hp17, rfl⟩ := hp17
        obtain ⟨r3, rfl, hr3, fr3⟩ := hp17
        show V g κ 4 0 0 (t, cW g X0 F σ0) 20 [(3, .int (nI (i4))), (2, .int (x4_2)), (0, .ref (X0 + 7)), (1, .int (a1))] [.int (r3)]
        refine V_ifne X (tgt := 40) dX1_ableOfAny_20 (by decide) (fun h4 => ?_) (fun h4 => ?_)
        · -- 20 true
          have zh4 := fr3.mp h4
          refine V_iinc X (nI (i4 + 1)) [(3, .int (nI (i4 + 1))), (2, .int (x4_2)), (0, .ref (X0 + 7)), (1, .int (a1))] dX1_ableOfAny_40 0 rfl (zinc _) (by decide) rfl ?_
          refine V_goto (tgt := 4) X dX1_ableOfAny_43 (by decide) ?_
          exact V.sub [0, 1, 2, 3] rfl (ih4 _ (by omega) (i4 + 1) x4_2 rfl (by omega) (by subst_vars; first | exact abl_yes hv4_0 ⟨by assumption, by assumption⟩ (by omega) | exact abl_no hv4_0 (fun q => q.1 (by assumption)) | exact abl_no hv4_0 (fun q => q.2 (by first | assumption | exact Eq.symm (by assumption)))))
        · -- 20 false
          have zh4 := mt fr3.mpr (not_not_intro h4)
          refine V_aload_n X dX1_ableOfAny_23 2 rfl ?_
          refine C_getf X fl_X1_9 7 (by decide) rfl rfl dX1_ableOfAny_24 ?_
          refine V_iload_n X dX1_ableOfAny_27 0 rfl ?_
          refine C_iald X (N := 5) 8 (by decide) (i4) rfl (by omega) (by decide) rfl dX1_ableOfAny_28 ?_
          refine V.topi (fun x5 ex5 => ?_)
          refine V_iload_n X dX1_ableOfAny_29 3 rfl ?_
          refine V_iand X dX1_ableOfAny_30 (V.topi (fun w6 ew6 => ?_))
          refine V_ifeq X (tgt := 40) dX1_ableOfAny_31 (by decide) (fun h7 => ?_) (fun h7 => ?_)
          · -- 31 true
            refine V_iinc X (nI (i4 + 1)) [(3, .int (nI (i4 + 1))), (2, .int (x4_2)), (0, .ref (X0 + 7)), (1, .int (a1))] dX1_ableOfAny_40 0 rfl (zinc _) (by decide) rfl ?_
            refine V_goto (tgt := 4) X dX1_ableOfAny_43 (by decide) ?_
            exact V.sub [0, 1, 2, 3] rfl (ih4 _ (by omega) (i4 + 1) x4_2 rfl (by omega) (by subst_vars; first | exact abl_yes hv4_0 ⟨by assumption, by assumption⟩ (by omega) | exact abl_no hv4_0 (fun q => q.1 (by assumption)) | exact abl_no hv4_0 (fun q => q.2 (by first | assumption | exact Eq.symm (by assumption)))))
          · -- 31 false
            refine V_iload_n X dX1_ableOfAny_34 1 rfl ?_
            refine V_iconst (v := nI 1) X dX1_ableOfAny_35 (by decide) ?_
            refine V_iload_n X dX1_ableOfAny_36 0 rfl ?_
            refine V_ishl1 X (by omega) dX1_ableOfAny_37 ?_
            refine V_ior X dX1_ableOfAny_38 (V.topi (fun w8 ew8 => ?_))
            refine V_istore_n X [(2, .int (w8)), (3, .int (nI (i4))), (0, .ref (X0 + 7)), (1, .int (a1))] dX1_ableOfAny_39 (by decide) rfl ?_
            refine V_iinc X (nI (i4 + 1)) [(3, .int (nI (i4 + 1))), (2, .int (w8)), (0, .ref (X0 + 7)), (1, .int (a1))] dX1_ableOfAny_40 1 rfl (zinc _) (by decide) rfl ?_
            refine V_goto (tgt := 4) X dX1_ableOfAny_43 (by decide) ?_
            exact V.sub [0, 1, 2, 3] rfl (ih4 _ (by omega) (i4 + 1) w8 rfl (by omega) (by subst_vars; first | exact abl_yes hv4_0 ⟨by assumption, by assumption⟩ (by omega) | exact abl_no hv4_0 (fun q => q.1 (by assumption)) | exact abl_no hv4_0 (fun q => q.2 (by first | assumption | exact Eq.symm (by assumption)))))
  exact L4 _ 0 (nI (0)) rfl (by omega) (abl_0)
set_option maxRecDepth 100000 in
set_option maxHeartbeats 4000000 in
theorem k_X2_partsOfN {g : zG} {t : Nat × Nat} {X0 : Nat} {σ0 : Nat → Option va_E} {F : Nat → Nat → Int32} (hX : g.2.1.size ≤ X0) {nP nS nA nC nT : Nat} (hI : cI nP nS nA nC nT F)  (a1 : Int32) : Ct g 11 yX2_partsOf cX2_partsOf 4 (some FieldType.int) 0 0 [.ref (X0 + 1), .int (a1)] (t, cW g X0 F σ0) (qR (fun v => ∃ x : Int32, v = some (.int x) ∧ zMk x (mDu (F 5) a1 nS)) (t, cW g X0 F σ0)) zNo := by
  refine Ct.of (lv := [(0, .ref (X0 + 1)), (1, .int (a1))]) (by decide) (Nat.le_of_ble_eq_true rfl) rfl ?_
  intro κ X E B _
  have X : zX g κ RX2 cX2_partsOf 4 := X
  obtain ⟨b1, b2, b3, b4, b5⟩ := hI.bnd
  refine V_iconst (v := nI 0) X dX2_partsOf_0 (by decide) ?_
  refine V_istore_n X [(2, .int (nI (0))), (0, .ref (X0 + 1)), (1, .int (a1))] dX2_partsOf_1 (by decide) rfl ?_
  refine V_iconst (v := nI 0) X dX2_partsOf_2 (by decide) ?_
  refine V_istore_n X [(3, .int (nI (0))), (2, .int (nI (0))), (0, .ref (X0 + 1)), (1, .int (a1))] dX2_partsOf_3 (by decide) rfl ?_
  have L4 : ∀ (n4 : Nat) (i4 : Nat) (x4_2 : Int32), n4 = nS - i4 → i4 ≤ nS → zMk x4_2 (mDu (F 5) a1 i4) → V g κ 4 0 0 (t, cW g X0 F σ0) 4 [(3, .int (nI (i4))), (2, .int (x4_2)), (0, .ref (X0 + 1)), (1, .int (a1))] [] := by
    intro n4
    induction n4 using Nat.strongRecOn with
    | ind n4 ih4 =>
      intro i4 x4_2 hn4 hi4 hv4_0
      refine V_iload_n X dX2_partsOf_4 0 rfl ?_
      refine V_aload_n X dX2_partsOf_5 2 rfl ?_
      refine C_getfN (z := nI (nS)) X fl_X2_31 1 (by decide) rfl rfl hI.f1_6 dX2_partsOf_6 ?_
      refine V_icmpgeN X (by omega) (by omega) (tgt := 35) dX2_partsOf_9 (by decide) (fun h1 => ?_) (fun h1 => ?_)
      · -- 9 true
        refine V_iload_n X dX2_partsOf_35 1 rfl ?_
        exact V_iret X E (Nat.zero_le _) (Nat.zero_le _) ⟨⟨_, rfl, (by rw [← show i4 = nS by omega]; exact hv4_0)⟩, rfl⟩ dX2_partsOf_36
      · -- 9 false
        refine V_iload_n X dX2_partsOf_12 3 rfl ?_
        refine V_iload_n X dX2_partsOf_13 0 rfl ?_
        refine V_callSN (rest := []) X E.room ml_X2_34 st_X5_has (by omega) (by decide) (k_X5_hasN (σ := (t, cW g X0 F σ0)) (a1) (nI (i4))) rfl rfl (Nat.le_of_ble_eq_true rfl) ⟨Nat.le_refl _, Nat.le_refl _⟩ dX2_partsOf_14 (fun _ _ h => False.elim h) (fun v14 σ' hp14 => ?_)
        obtain ⟨hp14, rfl⟩ := hp14
        obtain ⟨r2, rfl, hr2, fr2⟩ := hp14
        show V g κ 4 0 0 (t, cW g X0 F σ0) 17 [(3, .int (nI (i4))), (2, .int (x4_2)), (0, .ref (X0 + 1)), (1, .int (a1))] [.int (r2)]
        refine V_ifeq X (tgt := 29) dX2_partsOf_17 (by decide) (fun h3 => ?_) (fun h3 => ?_)
        · -- 17 true
          have zh3 := mt fr2.mpr (not_not_intro h3)
          refine V_iinc X (nI (i4 + 1)) [(3, .int (nI (i4 + 1))), (2, .int (x4_2)), (0, .ref (X0 + 1)), (1, .int (a1))] dX2_partsOf_29 0 rfl (zinc _) (by decide) rfl ?_
          refine V_goto (tgt := 4) X dX2_partsOf_32 (by decide) ?_
          exact V.sub [0, 1, 2, 3] rfl (ih4 _ (by omega) (i4 + 1) x4_2 rfl (by omega) (by subst_vars; first | exact mDu_yes hv4_0 (by assumption) (by assumption) (by assumption) | exact mDu_no hv4_0 (by assumption)))
        · -- 17 false
          have zh3 := fr2.mp h3
          refine V_iload_n X dX2_partsOf_20 1 rfl ?_
          refine V_aload_n X dX2_partsOf_21 2 rfl ?_
          refine C_getf X fl_X2_21 1 (by decide) rfl rfl dX2_partsOf_22 ?_
          refine V_iload_n X dX2_partsOf_25 0 rfl ?_
          refine C_iald X (N := 6) 5 (by decide) (i4) rfl (by omega) (by decide) rfl dX2_partsOf_26 ?_
          obtain ⟨m4, hm4, em4⟩ := hI.sp (i4) (by omega)
          rw [em4]
          refine V_ior X dX2_partsOf_27 (V.topi (fun w5 ew5 => ?_))
          refine V_istore_n X [(2, .int (w5)), (3, .int (nI (i4))), (0, .ref (X0 + 1)), (1, .int (a1))] dX2_partsOf_28 (by decide) rfl ?_
          refine V_iinc X (nI (i4 + 1)) [(3, .int (nI (i4 + 1))), (2, .int (w5)), (0, .ref (X0 + 1)), (1, .int (a1))] dX2_partsOf_29 1 rfl (zinc _) (by decide) rfl ?_
          refine V_goto (tgt := 4) X dX2_partsOf_32 (by decide) ?_
          exact V.sub [0, 1, 2, 3] rfl (ih4 _ (by omega) (i4 + 1) w5 rfl (by omega) (by subst_vars; first | exact mDu_yes hv4_0 (by assumption) (by assumption) (by assumption) | exact mDu_no hv4_0 (by assumption)))
  exact L4 _ 0 (nI (0)) rfl (by omega) (mDu_0)
