/-- a player can play something of a set of voices -/
def mAb (F : Nat → Nat → Int32) (a : Int32) (i : Nat) : Prop := ¬ zIn (F 7 5) (nI i) ∧ ¬ F 8 i &&& a = 0
set_option maxRecDepth 100000 in
set_option maxHeartbeats 4000000 in
theorem k_X5_has {g : zG} {σ : zS}  (a1 : Int32) (a2 : Int32) : Ct g 10 yX5_has cX5_has 2 (some FieldType.boolean) 0 0 [.int (a1), .int (a2)] σ (qR (fun v => ∃ x : Int32, v = some (.int x) ∧ (x = 0 ∨ x = 1) ∧ (¬ x = 0 ↔ zIn a1 a2)) σ) zNo := by
  refine Ct.of (lv := [(0, .int (a1)), (1, .int (a2))]) (by decide) (Nat.le_of_ble_eq_true rfl) rfl ?_
  intro κ X E B _
  have X : zX g κ RX5 cX5_has 2 := X
  refine V_iload_n X dX5_has_0 0 rfl ?_
  refine V_iload_n X dX5_has_1 1 rfl ?_
  refine V_ishr X dX5_has_2 (V.topi (fun w1 ew1 => ?_))
  refine V_iconst (v := nI 1) X dX5_has_3 (by decide) ?_
  refine V_iand X dX5_has_4 (V.topi (fun w2 ew2 => ?_))
  refine V_ifeq X (tgt := 12) dX5_has_5 (by decide) (fun h3 => ?_) (fun h3 => ?_)
  · -- 5 true
    refine V_iconst (v := nI 0) X dX5_has_12 (by decide) ?_
    exact V_zret X E (zbool z01_0) (Nat.zero_le _) (Nat.zero_le _) ⟨⟨_, rfl, z01_0, ⟨fun q => absurd nI_0 q, fun q => by subst_vars; exact absurd q (zIn_z (by first | assumption | exact Eq.symm (by assumption)))⟩⟩, rfl⟩ dX5_has_13
  · -- 5 false
    refine V_iconst (v := nI 1) X dX5_has_8 (by decide) ?_
    refine V_goto (tgt := 13) X dX5_has_9 (by decide) ?_
    exact V_zret X E (zbool z01_1) (Nat.zero_le _) (Nat.zero_le _) ⟨⟨_, rfl, z01_1, ⟨fun _ => by subst_vars; exact zIn_ne (by assumption), fun _ => by decide⟩⟩, rfl⟩ dX5_has_13
set_option maxRecDepth 100000 in
set_option maxHeartbeats 4000000 in
theorem k_J6_bitCount_0f7a4 {g : zG} {σ : zS}  (a1 : Int32) : Ct g 10 yJ6_bitCount_0f7a4 cJ6_bitCount_0f7a4 1 (some FieldType.int) 0 0 [.int (a1)] σ (qR (fun v => v = some (.int (zbc a1))) σ) zNo := by
  refine Ct.of (lv := [(0, .int (a1))]) (by decide) (Nat.le_of_ble_eq_true rfl) rfl ?_
  intro κ X E B _
  have X : zX g κ RJ6 cJ6_bitCount_0f7a4 1 := X
  refine V_iload_n X dJ6_bitCount_0f7a4_0 0 rfl ?_
  refine V_iload_n X dJ6_bitCount_0f7a4_1 0 rfl ?_
  refine V_iconst (v := nI 1) X dJ6_bitCount_0f7a4_2 (by decide) ?_
  refine V_iushr X dJ6_bitCount_0f7a4_3 (V.topi (fun w1 ew1 => ?_))
  refine V_ldcw X cn_J6_265 dJ6_bitCount_0f7a4_4 (V.topi (fun w2 ew2 => ?_))
  refine V_iand X dJ6_bitCount_0f7a4_7 (V.topi (fun w3 ew3 => ?_))
  refine V_isub X dJ6_bitCount_0f7a4_8 (V.topi (fun w4 ew4 => ?_))
  refine V_istore_n X [(0, .int (w4))] dJ6_bitCount_0f7a4_9 (by decide) rfl ?_
  refine V_iload_n X dJ6_bitCount_0f7a4_10 0 rfl ?_
  refine V_ldcw X cn_J6_266 dJ6_bitCount_0f7a4_11 (V.topi (fun w5 ew5 => ?_))
  refine V_iand X dJ6_bitCount_0f7a4_14 (V.topi (fun w6 ew6 => ?_))
  refine V_iload_n X dJ6_bitCount_0f7a4_15 0 rfl ?_
  refine V_iconst (v := nI 2) X dJ6_bitCount_0f7a4_16 (by decide) ?_
  refine V_iushr X dJ6_bitCount_0f7a4_17 (V.topi (fun w7 ew7 => ?_))
  refine V_ldcw X cn_J6_266 dJ6_bitCount_0f7a4_18 (V.topi (fun w8 ew8 => ?_))
  refine V_iand X dJ6_bitCount_0f7a4_21 (V.topi (fun w9 ew9 => ?_))
  refine V_iadd X dJ6_bitCount_0f7a4_22 (V.topi (fun w10 ew10 => ?_))
  refine V_istore_n X [(0, .int (w10))] dJ6_bitCount_0f7a4_23 (by decide) rfl ?_
  refine V_iload_n X dJ6_bitCount_0f7a4_24 0 rfl ?_
  refine V_iload_n X dJ6_bitCount_0f7a4_25 0 rfl ?_
  refine V_iconst (v := nI 4) X dJ6_bitCount_0f7a4_26 (by decide) ?_
  refine V_iushr X dJ6_bitCount_0f7a4_27 (V.topi (fun w11 ew11 => ?_))
  refine V_iadd X dJ6_bitCount_0f7a4_28 (V.topi (fun w12 ew12 => ?_))
  refine V_ldcw X cn_J6_267 dJ6_bitCount_0f7a4_29 (V.topi (fun w13 ew13 => ?_))
  refine V_iand X dJ6_bitCount_0f7a4_32 (V.topi (fun w14 ew14 => ?_))
  refine V_istore_n X [(0, .int (w14))] dJ6_bitCount_0f7a4_33 (by decide) rfl ?_
  refine V_iload_n X dJ6_bitCount_0f7a4_34 0 rfl ?_
  refine V_iload_n X dJ6_bitCount_0f7a4_35 0 rfl ?_
  refine V_bipush (v := nI 8) X dJ6_bitCount_0f7a4_36 (by decide) ?_
  refine V_iushr X dJ6_bitCount_0f7a4_38 (V.topi (fun w15 ew15 => ?_))
  refine V_iadd X dJ6_bitCount_0f7a4_39 (V.topi (fun w16 ew16 => ?_))
  refine V_istore_n X [(0, .int (w16))] dJ6_bitCount_0f7a4_40 (by decide) rfl ?_
  refine V_iload_n X dJ6_bitCount_0f7a4_41 0 rfl ?_
  refine V_iload_n X dJ6_bitCount_0f7a4_42 0 rfl ?_
  refine V_bipush (v := nI 16) X dJ6_bitCount_0f7a4_43 (by decide) ?_
  refine V_iushr X dJ6_bitCount_0f7a4_45 (V.topi (fun w17 ew17 => ?_))
  refine V_iadd X dJ6_bitCount_0f7a4_46 (V.topi (fun w18 ew18 => ?_))
  refine V_istore_n X [(0, .int (w18))] dJ6_bitCount_0f7a4_47 (by decide) rfl ?_
  refine V_iload_n X dJ6_bitCount_0f7a4_48 0 rfl ?_
  refine V_bipush (v := nI 63) X dJ6_bitCount_0f7a4_49 (by decide) ?_
  refine V_iand X dJ6_bitCount_0f7a4_51 (V.topi (fun w19 ew19 => ?_))
  exact V_iret X E (Nat.zero_le _) (Nat.zero_le _) ⟨(by subst_vars; rfl), rfl⟩ dJ6_bitCount_0f7a4_52
set_option maxRecDepth 100000 in
set_option maxHeartbeats 4000000 in
theorem k_X1_countWell {g : zG} {t : Nat × Nat} {X0 : Nat} {σ0 : Nat → Option va_E} {F : Nat → Nat → Int32} (hX : g.2.1.size ≤ X0) {nP nS nA nC nT : Nat} (hI : cI nP nS nA nC nT F)  : Ct g 11 yX1_countWell cX1_countWell 1 (some FieldType.int) 0 0 [.ref (X0 + 7)] (t, cW g X0 F σ0) (qR (fun v => v = some (.int (nI nA - zbc (F 7 5)))) (t, cW g X0 F σ0)) zNo := by
  refine Ct.of (lv := [(0, .ref (X0 + 7))]) (by decide) (Nat.le_of_ble_eq_true rfl) rfl ?_
  intro κ X E B _
  have X : zX g κ RX1 cX1_countWell 1 := X
  obtain ⟨b1, b2, b3, b4, b5⟩ := hI.bnd
  refine V_aload_n X dX1_countWell_0 0 rfl ?_
  refine C_getfN (z := nI (nA)) X fl_X1_24 7 (by decide) rfl rfl hI.f7_4 dX1_countWell_1 ?_
  refine V_aload_n X dX1_countWell_4 0 rfl ?_
  refine C_getf X fl_X1_28 7 (by decide) rfl rfl dX1_countWell_5 (V.topi (fun x1 ex1 => ?_))
  refine V_callS (rest := [.int (nI (nA))]) X E.room ml_X1_31 st_J6_bitCount_0f7a4 (by omega) (by decide) (k_J6_bitCount_0f7a4 (σ := (t, cW g X0 F σ0)) (x1)) rfl rfl (Nat.le_of_ble_eq_true rfl) ⟨Nat.le_refl _, Nat.le_refl _⟩ dX1_countWell_8 (fun _ _ h => False.elim h) (fun v8 σ' hp8 => ?_)
  obtain ⟨hp8, rfl⟩ := hp8
  cases (hp8 : _ = some (Value.int (zbc (x1))))
  show V g κ 1 0 0 (t, cW g X0 F σ0) 11 [(0, .ref (X0 + 7))] [.int (zbc (x1)), .int (nI (nA))]
  refine V_isub X dX1_countWell_11 (V.topi (fun w2 ew2 => ?_))
  exact V_iret X E (Nat.zero_le _) (Nat.zero_le _) ⟨(by subst_vars; rfl), rfl⟩ dX1_countWell_12
set_option maxRecDepth 100000 in
set_option maxHeartbeats 4000000 in
theorem k_X1_ableOfAny {g : zG} {t : Nat × Nat} {X0 : Nat} {σ0 : Nat → Option va_E} {F : Nat → Nat → Int32} (hX : g.2.1.size ≤ X0) {nP nS nA nC nT : Nat} (hI : cI nP nS nA nC nT F)  (a1 : Int32) : Ct g 11 yX1_ableOfAny cX1_ableOfAny 4 (some FieldType.int) 0 0 [.ref (X0 + 7), .int (a1)] (t, cW g X0 F σ0) (qR (fun v => ∃ x : Int32, v = some (.int x) ∧ zMk x (fun q => q < nA ∧ mAb F a1 q)) (t, cW g X0 F σ0)) zNo := by
  refine Ct.of (lv := [(0, .ref (X0 + 7)), (1, .int (a1))]) (by decide) (Nat.le_of_ble_eq_true rfl) rfl ?_
  intro κ X E B _
  have X : zX g κ RX1 cX1_ableOfAny 4 := X
  obtain ⟨b1, b2, b3, b4, b5⟩ := hI.bnd
  refine V_iconst (v := nI 0) X dX1_ableOfAny_0 (by decide) ?_
  refine V_istore_n X [(2, .int (nI (0))), (0, .ref (X0 + 7)), (1, .int (a1))] dX1_ableOfAny_1 (by decide) rfl ?_
  refine V_iconst (v := nI 0) X dX1_ableOfAny_2 (by decide) ?_
  refine V_istore_n X [(3, .int (nI (0))), (2, .int (nI (0))), (0, .ref (X0 + 7)), (1, .int (a1))] dX1_ableOfAny_3 (by decide) rfl ?_
  have L4 : ∀ (n4 : Nat) (i4 : Nat) (x4_2 : Int32), n4 = nA - i4 → i4 ≤ nA → zMk x4_2 (fun q => q < i4 ∧ mAb F a1 q) → V g κ 4 0 0 (t, cW g X0 F σ0) 4 [(3, .int (nI (i4))), (2, .int (x4_2)), (0, .ref (X0 + 7)), (1, .int (a1))] [] := by
    intro n4
    induction n4 using Nat.strongRecOn with
    | ind n4 ih4 =>
      intro i4 x4_2 hn4 hi4 hv4_0
      refine V_iload_n X dX1_ableOfAny_4 0 rfl ?_
      refine V_aload_n X dX1_ableOfAny_5 2 rfl ?_
      refine C_getfN (z := nI (nA)) X fl_X1_24 7 (by decide) rfl rfl hI.f7_4 dX1_ableOfAny_6 ?_
      refine V_icmpgeN X (by omega) (by omega) (tgt := 46) dX1_ableOfAny_9 (by decide) (fun h1 => ?_) (fun h1 => ?_)
      · -- 9 true
        refine V_iload_n X dX1_ableOfAny_46 1 rfl ?_
        exact V_iret X E (Nat.zero_le _) (Nat.zero_le _) ⟨⟨_, rfl, (by rw [← show i4 = nA by omega]; exact hv4_0)⟩, rfl⟩ dX1_ableOfAny_47
      · -- 9 false
        refine V_aload_n X dX1_ableOfAny_12 2 rfl ?_
        refine C_getf X fl_X1_28 7 (by decide) rfl rfl dX1_ableOfAny_13 (V.topi (fun x2 ex2 => ?_))
        refine V_iload_n X dX1_ableOfAny_16 0 rfl ?_
        refine V_callSN (rest := []) X E.room ml_X1_37 st_X5_has (by omega) (by decide) (k_X5_has (σ := (t, cW g X0 F σ0)) (x2) (nI (i4))) rfl rfl (Nat.le_of_ble_eq_true rfl) ⟨Nat.le_refl _, Nat.le_refl _⟩ dX1_ableOfAny_17 (fun _ _ h => False.elim h) (fun v17 σ' hp17 => ?_)
        obtain ⟨hp17, rfl⟩ := hp17
        obtain ⟨r3, rfl, hr3, fr3⟩ := hp17
        show V g κ 4 0 0 (t, cW g X0 F σ0) 20 [(3, .int (nI (i4))), (2, .int (x4_2)), (0, .ref (X0 + 7)), (1, .int (a1))] [.int (r3)]
        refine V_ifne X (tgt := 40) dX1_ableOfAny_20 (by decide) (fun h4 => ?_) (fun h4 => ?_)
        · -- 20 true
          have zh4 := fr3.mp h4
          refine V_iinc X (nI (i4 + 1)) [(3, .int (nI (i4 + 1))), (2, .int (x4_2)), (0, .ref (X0 + 7)), (1, .int (a1))] dX1_ableOfAny_40 0 rfl (zinc _) (by decide) rfl ?_
          refine V_goto (tgt := 4) X dX1_ableOfAny_43 (by decide) ?_
          exact V.sub [0, 1, 2, 3] rfl (ih4 _ (by omega) (i4 + 1) x4_2 rfl (by omega) (by subst_vars; first | exact abl_yes hv4_0 ⟨by assumption, by assumption⟩ (by omega) | exact abl_no hv4_0 (fun q => q.1 (by assumption)) | exact abl_no hv4_0 (fun q => q.2 (by first | assumption | exact Eq.symm (by assumption)))))
        · -- 20 false
          have zh4 := mt fr3.mpr (not_not_intro h4)
          refine V_aload_n X dX1_ableOfAny_23 2 rfl ?_
          refine C_getf X fl_X1_9 7 (by decide) rfl rfl dX1_ableOfAny_24 ?_
          refine V_iload_n X dX1_ableOfAny_27 0 rfl ?_
          refine C_iald X (N := 5) 8 (by decide) (i4) rfl (by omega) (by decide) rfl dX1_ableOfAny_28 ?_
          refine V.topi (fun x5 ex5 => ?_)
          refine V_iload_n X dX1_ableOfAny_29 3 rfl ?_
          refine V_iand X dX1_ableOfAny_30 (V.topi (fun w6 ew6 => ?_))
          refine V_ifeq X (tgt := 40) dX1_ableOfAny_31 (by decide) (fun h7 => ?_) (fun h7 => ?_)
          · -- 31 true
            refine V_iinc X (nI (i4 + 1)) [(3, .int (nI (i4 + 1))), (2, .int (x4_2)), (0, .ref (X0 + 7)), (1, .int (a1))] dX1_ableOfAny_40 0 rfl (zinc _) (by decide) rfl ?_
            refine V_goto (tgt := 4) X dX1_ableOfAny_43 (by decide) ?_
            exact V.sub [0, 1, 2, 3] rfl (ih4 _ (by omega) (i4 + 1) x4_2 rfl (by omega) (by subst_vars; first | exact abl_yes hv4_0 ⟨by assumption, by assumption⟩ (by omega) | exact abl_no hv4_0 (fun q => q.1 (by assumption)) | exact abl_no hv4_0 (fun q => q.2 (by first | assumption | exact Eq.symm (by assumption)))))
          · -- 31 false
            refine V_iload_n X dX1_ableOfAny_34 1 rfl ?_
            refine V_iconst (v := nI 1) X dX1_ableOfAny_35 (by decide) ?_
            refine V_iload_n X dX1_ableOfAny_36 0 rfl ?_
            refine V_ishl1 X (by omega) dX1_ableOfAny_37 ?_
            refine V_ior X dX1_ableOfAny_38 (V.topi (fun w8 ew8 => ?_))
            refine V_istore_n X [(2, .int (w8)), (3, .int (nI (i4))), (0, .ref (X0 + 7)), (1, .int (a1))] dX1_ableOfAny_39 (by decide) rfl ?_
            refine V_iinc X (nI (i4 + 1)) [(3, .int (nI (i4 + 1))), (2, .int (w8)), (0, .ref (X0 + 7)), (1, .int (a1))] dX1_ableOfAny_40 1 rfl (zinc _) (by decide) rfl ?_
            refine V_goto (tgt := 4) X dX1_ableOfAny_43 (by decide) ?_
            exact V.sub [0, 1, 2, 3] rfl (ih4 _ (by omega) (i4 + 1) w8 rfl (by omega) (by subst_vars; first | exact abl_yes hv4_0 ⟨by assumption, by assumption⟩ (by omega) | exact abl_no hv4_0 (fun q => q.1 (by assumption)) | exact abl_no hv4_0 (fun q => q.2 (by first | assumption | exact Eq.symm (by assumption)))))
  exact L4 _ 0 (nI (0)) rfl (by omega) (abl_0)
set_option maxRecDepth 100000 in
set_option maxHeartbeats 4000000 in
theorem k_X1_allPurses {g : zG} {t : Nat × Nat} {X0 : Nat} {σ0 : Nat → Option va_E} {F : Nat → Nat → Int32} (hX : g.2.1.size ≤ X0) {nP nS nA nC nT : Nat} (hI : cI nP nS nA nC nT F)  : Ct g 10 yX1_allPurses cX1_allPurses 3 (some FieldType.int) 0 0 [.ref (X0 + 7)] (t, cW g X0 F σ0) (qR (fun v => v = some (.int (zsm (F 11) nA))) (t, cW g X0 F σ0)) zNo := by
  refine Ct.of (lv := [(0, .ref (X0 + 7))]) (by decide) (Nat.le_of_ble_eq_true rfl) rfl ?_
  intro κ X E B _
  have X : zX g κ RX1 cX1_allPurses 3 := X
  obtain ⟨b1, b2, b3, b4, b5⟩ := hI.bnd
  refine V_iconst (v := nI 0) X dX1_allPurses_0 (by decide) ?_
  refine V_istore_n X [(1, .int (nI (0))), (0, .ref (X0 + 7))] dX1_allPurses_1 (by decide) rfl ?_
  refine V_iconst (v := nI 0) X dX1_allPurses_2 (by decide) ?_
  refine V_istore_n X [(2, .int (nI (0))), (1, .int (nI (0))), (0, .ref (X0 + 7))] dX1_allPurses_3 (by decide) rfl ?_
  have L4 : ∀ (n4 : Nat) (i4 : Nat) (x4_1 : Int32), n4 = nA - i4 → i4 ≤ nA → x4_1 = zsm (F 11) i4 → V g κ 3 0 0 (t, cW g X0 F σ0) 4 [(2, .int (nI (i4))), (1, .int (x4_1)), (0, .ref (X0 + 7))] [] := by
    intro n4
    induction n4 using Nat.strongRecOn with
    | ind n4 ih4 =>
      intro i4 x4_1 hn4 hi4 hv4_0
      refine V_iload_n X dX1_allPurses_4 0 rfl ?_
      refine V_aload_n X dX1_allPurses_5 2 rfl ?_
      refine C_getfN (z := nI (nA)) X fl_X1_24 7 (by decide) rfl rfl hI.f7_4 dX1_allPurses_6 ?_
      refine V_icmpgeN X (by omega) (by omega) (tgt := 27) dX1_allPurses_9 (by decide) (fun h1 => ?_) (fun h1 => ?_)
      · -- 9 true
        refine V_iload_n X dX1_allPurses_27 1 rfl ?_
        exact V_iret X E (Nat.zero_le _) (Nat.zero_le _) ⟨(congrArg (fun z => some (Value.int z)) (by rw [← show i4 = nA by omega]; exact hv4_0)), rfl⟩ dX1_allPurses_28
      · -- 9 false
        refine V_iload_n X dX1_allPurses_12 1 rfl ?_
        refine V_aload_n X dX1_allPurses_13 2 rfl ?_
        refine C_getf X fl_X1_21 7 (by decide) rfl rfl dX1_allPurses_14 ?_
        refine V_iload_n X dX1_allPurses_17 0 rfl ?_
        refine C_iald X (N := 5) 11 (by decide) (i4) rfl (by omega) (by decide) rfl dX1_allPurses_18 ?_
        refine V.topi (fun x2 ex2 => ?_)
        refine V_iadd X dX1_allPurses_19 (V.topi (fun w3 ew3 => ?_))
        refine V_istore_n X [(1, .int (w3)), (2, .int (nI (i4))), (0, .ref (X0 + 7))] dX1_allPurses_20 (by decide) rfl ?_
        refine V_iinc X (nI (i4 + 1)) [(2, .int (nI (i4 + 1))), (1, .int (w3)), (0, .ref (X0 + 7))] dX1_allPurses_21 1 rfl (zinc _) (by decide) rfl ?_
        refine V_goto (tgt := 4) X dX1_allPurses_24 (by decide) ?_
        exact V.sub [0, 1, 2] rfl (ih4 _ (by omega) (i4 + 1) w3 rfl (by omega) (zsm_s hv4_0 ew3 ex2))
  exact L4 _ 0 (nI (0)) rfl (by omega) (rfl)
set_option maxRecDepth 100000 in
set_option maxHeartbeats 4000000 in
theorem k_X1_hasDebt {g : zG} {t : Nat × Nat} {X0 : Nat} {σ0 : Nat → Option va_E} {F : Nat → Nat → Int32} (hX : g.2.1.size ≤ X0) {nP nS nA nC nT : Nat} (hI : cI nP nS nA nC nT F)  : Ct g 10 yX1_hasDebt cX1_hasDebt 2 (some FieldType.boolean) 0 0 [.ref (X0 + 7)] (t, cW g X0 F σ0) (qR (fun v => ∃ x : Int32, v = some (.int x) ∧ (x = 0 ∨ x = 1) ∧ (¬ x = 0 ↔ ∃ i, i < nA ∧ F 11 i < 0)) (t, cW g X0 F σ0)) zNo := by
  refine Ct.of (lv := [(0, .ref (X0 + 7))]) (by decide) (Nat.le_of_ble_eq_true rfl) rfl ?_
  intro κ X E B _
  have X : zX g κ RX1 cX1_hasDebt 2 := X
  obtain ⟨b1, b2, b3, b4, b5⟩ := hI.bnd
  refine V_iconst (v := nI 0) X dX1_hasDebt_0 (by decide) ?_
  refine V_istore_n X [(1, .int (nI (0))), (0, .ref (X0 + 7))] dX1_hasDebt_1 (by decide) rfl ?_
  have L2 : ∀ (n2 : Nat) (i2 : Nat), n2 = nA - i2 → i2 ≤ nA → (∀ j, j < i2 → ¬ F 11 j < 0) → V g κ 2 0 0 (t, cW g X0 F σ0) 2 [(1, .int (nI (i2))), (0, .ref (X0 + 7))] [] := by
    intro n2
    induction n2 using Nat.strongRecOn with
    | ind n2 ih2 =>
      intro i2 hn2 hi2 hv2_0
      refine V_iload_n X dX1_hasDebt_2 0 rfl ?_
      refine V_aload_n X dX1_hasDebt_3 1 rfl ?_
      refine C_getfN (z := nI (nA)) X fl_X1_24 7 (by decide) rfl rfl hI.f7_4 dX1_hasDebt_4 ?_
      refine V_icmpgeN X (by omega) (by omega) (tgt := 27) dX1_hasDebt_7 (by decide) (fun h1 => ?_) (fun h1 => ?_)
      · -- 7 true
        refine V_iconst (v := nI 0) X dX1_hasDebt_27 (by decide) ?_
        exact V_zret X E (zbool z01_0) (Nat.zero_le _) (Nat.zero_le _) ⟨⟨_, rfl, z01_0, ⟨fun q => absurd nI_0 q, fun ⟨i, hi, z⟩ => absurd z (hv2_0 i (by omega))⟩⟩, rfl⟩ dX1_hasDebt_28
      · -- 7 false
        refine V_aload_n X dX1_hasDebt_10 1 rfl ?_
        refine C_getf X fl_X1_21 7 (by decide) rfl rfl dX1_hasDebt_11 ?_
        refine V_iload_n X dX1_hasDebt_14 0 rfl ?_
        refine C_iald X (N := 5) 11 (by decide) (i2) rfl (by omega) (by decide) rfl dX1_hasDebt_15 ?_
        refine V.topi (fun x2 ex2 => ?_)
        refine V_ifge X (tgt := 21) dX1_hasDebt_16 (by decide) (fun h3 => ?_) (fun h3 => ?_)
        · -- 16 true
          refine V_iinc X (nI (i2 + 1)) [(1, .int (nI (i2 + 1))), (0, .ref (X0 + 7))] dX1_hasDebt_21 0 rfl (zinc _) (by decide) rfl ?_
          refine V_goto (tgt := 2) X dX1_hasDebt_24 (by decide) ?_
          exact V.sub [0, 1] rfl (ih2 _ (by omega) (i2 + 1) rfl (by omega) (zal_s (P := fun j => F 11 j < 0) hv2_0 (Int32.not_lt.mpr (by rw [← ex2]; exact h3))))
        · -- 16 false
          refine V_iconst (v := nI 1) X dX1_hasDebt_19 (by decide) ?_
          exact V_zret X E (zbool z01_1) (Nat.zero_le _) (Nat.zero_le _) ⟨⟨_, rfl, z01_1, ⟨fun _ => ⟨i2, by omega, by rw [← ex2]; exact Int32.not_le.mp h3⟩, fun _ => by decide⟩⟩, rfl⟩ dX1_hasDebt_20
  exact L2 _ 0 rfl (by omega) (fun j hj => absurd hj (Nat.not_lt_zero j))
set_option maxRecDepth 100000 in
set_option maxHeartbeats 4000000 in
theorem k_X2_allScenes {g : zG} {t : Nat × Nat} {X0 : Nat} {σ0 : Nat → Option va_E} {F : Nat → Nat → Int32} (hX : g.2.1.size ≤ X0) {nP nS nA nC nT : Nat} (hI : cI nP nS nA nC nT F)  : Ct g 10 yX2_allScenes cX2_allScenes 1 (some FieldType.int) 0 0 [.ref (X0 + 1)] (t, cW g X0 F σ0) (qR (fun v => v = some (.int (nI (2 ^ nS - 1)))) (t, cW g X0 F σ0)) zNo := by
  refine Ct.of (lv := [(0, .ref (X0 + 1))]) (by decide) (Nat.le_of_ble_eq_true rfl) rfl ?_
  intro κ X E B _
  have X : zX g κ RX2 cX2_allScenes 1 := X
  obtain ⟨b1, b2, b3, b4, b5⟩ := hI.bnd
  have hpw : 1 ≤ 2 ^ nS := Nat.one_le_two_pow
  refine V_iconst (v := nI 1) X dX2_allScenes_0 (by decide) ?_
  refine V_aload_n X dX2_allScenes_1 0 rfl ?_
  refine C_getfN (z := nI (nS)) X fl_X2_31 1 (by decide) rfl rfl hI.f1_6 dX2_allScenes_2 ?_
  refine V_ishl1 X (by omega) dX2_allScenes_5 ?_
  refine V_iconst (v := nI 1) X dX2_allScenes_6 (by decide) ?_
  refine V_isubN X (by omega) dX2_allScenes_7 ?_
  exact V_iret X E (Nat.zero_le _) (Nat.zero_le _) ⟨rfl, rfl⟩ dX2_allScenes_8
set_option maxRecDepth 100000 in
set_option maxHeartbeats 4000000 in
theorem k_X2_scenesWith {g : zG} {t : Nat × Nat} {X0 : Nat} {σ0 : Nat → Option va_E} {F : Nat → Nat → Int32} (hX : g.2.1.size ≤ X0) {nP nS nA nC nT : Nat} (hI : cI nP nS nA nC nT F)  (a1 : Int32) : Ct g 11 yX2_scenesWith cX2_scenesWith 4 (some FieldType.int) 0 0 [.ref (X0 + 1), .int (a1)] (t, cW g X0 F σ0) (qR (fun v => ∃ x : Int32, v = some (.int x) ∧ zMk x (fun q => q < nS ∧ zIn (F 5 q) a1)) (t, cW g X0 F σ0)) zNo := by
  refine Ct.of (lv := [(0, .ref (X0 + 1)), (1, .int (a1))]) (by decide) (Nat.le_of_ble_eq_true rfl) rfl ?_
  intro κ X E B _
  have X : zX g κ RX2 cX2_scenesWith 4 := X
  obtain ⟨b1, b2, b3, b4, b5⟩ := hI.bnd
  refine V_iconst (v := nI 0) X dX2_scenesWith_0 (by decide) ?_
  refine V_istore_n X [(2, .int (nI (0))), (0, .ref (X0 + 1)), (1, .int (a1))] dX2_scenesWith_1 (by decide) rfl ?_
  refine V_iconst (v := nI 0) X dX2_scenesWith_2 (by decide) ?_
  refine V_istore_n X [(3, .int (nI (0))), (2, .int (nI (0))), (0, .ref (X0 + 1)), (1, .int (a1))] dX2_scenesWith_3 (by decide) rfl ?_
  have L4 : ∀ (n4 : Nat) (i4 : Nat) (x4_2 : Int32), n4 = nS - i4 → i4 ≤ nS → zMk x4_2 (fun q => q < i4 ∧ zIn (F 5 q) a1) → V g κ 4 0 0 (t, cW g X0 F σ0) 4 [(3, .int (nI (i4))), (2, .int (x4_2)), (0, .ref (X0 + 1)), (1, .int (a1))] [] := by
    intro n4
    induction n4 using Nat.strongRecOn with
    | ind n4 ih4 =>
      intro i4 x4_2 hn4 hi4 hv4_0
      refine V_iload_n X dX2_scenesWith_4 0 rfl ?_
      refine V_aload_n X dX2_scenesWith_5 2 rfl ?_
      refine C_getfN (z := nI (nS)) X fl_X2_31 1 (by decide) rfl rfl hI.f1_6 dX2_scenesWith_6 ?_
      refine V_icmpgeN X (by omega) (by omega) (tgt := 37) dX2_scenesWith_9 (by decide) (fun h1 => ?_) (fun h1 => ?_)
      · -- 9 true
        refine V_iload_n X dX2_scenesWith_37 1 rfl ?_
        exact V_iret X E (Nat.zero_le _) (Nat.zero_le _) ⟨⟨_, rfl, (by rw [← show i4 = nS by omega]; exact hv4_0)⟩, rfl⟩ dX2_scenesWith_38
      · -- 9 false
        refine V_aload_n X dX2_scenesWith_12 2 rfl ?_
        refine C_getf X fl_X2_21 1 (by decide) rfl rfl dX2_scenesWith_13 ?_
        refine V_iload_n X dX2_scenesWith_16 0 rfl ?_
        refine C_iald X (N := 6) 5 (by decide) (i4) rfl (by omega) (by decide) rfl dX2_scenesWith_17 ?_
        refine V.topi (fun x2 ex2 => ?_)
        refine V_iload_n X dX2_scenesWith_18 3 rfl ?_
        refine V_callSN (rest := []) X E.room ml_X2_34 st_X5_has (by omega) (by decide) (k_X5_has (σ := (t, cW g X0 F σ0)) (x2) (a1)) rfl rfl (Nat.le_of_ble_eq_true rfl) ⟨Nat.le_refl _, Nat.le_refl _⟩ dX2_scenesWith_19 (fun _ _ h => False.elim h) (fun v19 σ' hp19 => ?_)
        obtain ⟨hp19, rfl⟩ := hp19
        obtain ⟨r3, rfl, hr3, fr3⟩ := hp19
        show V g κ 4 0 0 (t, cW g X0 F σ0) 22 [(3, .int (nI (i4))), (2, .int (x4_2)), (0, .ref (X0 + 1)), (1, .int (a1))] [.int (r3)]
        refine V_ifeq X (tgt := 31) dX2_scenesWith_22 (by decide) (fun h4 => ?_) (fun h4 => ?_)
        · -- 22 true
          have zh4 := mt fr3.mpr (not_not_intro h4)
          refine V_iinc X (nI (i4 + 1)) [(3, .int (nI (i4 + 1))), (2, .int (x4_2)), (0, .ref (X0 + 1)), (1, .int (a1))] dX2_scenesWith_31 0 rfl (zinc _) (by decide) rfl ?_
          refine V_goto (tgt := 4) X dX2_scenesWith_34 (by decide) ?_
          exact V.sub [0, 1, 2, 3] rfl (ih4 _ (by omega) (i4 + 1) x4_2 rfl (by omega) (by subst_vars; first | exact abl_yes hv4_0 (by assumption) (by omega) | exact abl_no hv4_0 (by assumption)))
        · -- 22 false
          have zh4 := fr3.mp h4
          refine V_iload_n X dX2_scenesWith_25 1 rfl ?_
          refine V_iconst (v := nI 1) X dX2_scenesWith_26 (by decide) ?_
          refine V_iload_n X dX2_scenesWith_27 0 rfl ?_
          refine V_ishl1 X (by omega) dX2_scenesWith_28 ?_
          refine V_ior X dX2_scenesWith_29 (V.topi (fun w5 ew5 => ?_))
          refine V_istore_n X [(2, .int (w5)), (3, .int (nI (i4))), (0, .ref (X0 + 1)), (1, .int (a1))] dX2_scenesWith_30 (by decide) rfl ?_
          refine V_iinc X (nI (i4 + 1)) [(3, .int (nI (i4 + 1))), (2, .int (w5)), (0, .ref (X0 + 1)), (1, .int (a1))] dX2_scenesWith_31 1 rfl (zinc _) (by decide) rfl ?_
          refine V_goto (tgt := 4) X dX2_scenesWith_34 (by decide) ?_
          exact V.sub [0, 1, 2, 3] rfl (ih4 _ (by omega) (i4 + 1) w5 rfl (by omega) (by subst_vars; first | exact abl_yes hv4_0 (by assumption) (by omega) | exact abl_no hv4_0 (by assumption)))
  exact L4 _ 0 (nI (0)) rfl (by omega) (abl_0 (P := fun q => zIn (F 5 q) a1))
set_option maxRecDepth 100000 in
set_option maxHeartbeats 4000000 in
theorem k_X2_partsOf {g : zG} {t : Nat × Nat} {X0 : Nat} {σ0 : Nat → Option va_E} {F : Nat → Nat → Int32} (hX : g.2.1.size ≤ X0) {nP nS nA nC nT : Nat} (hI : cI nP nS nA nC nT F)  (a1 : Int32) : Ct g 11 yX2_partsOf cX2_partsOf 4 (some FieldType.int) 0 0 [.ref (X0 + 1), .int (a1)] (t, cW g X0 F σ0) (qR (fun v => ∃ x : Int32, v = some (.int x) ∧ zMk x (mDu (F 5) a1 nS)) (t, cW g X0 F σ0)) zNo := by
  refine Ct.of (lv := [(0, .ref (X0 + 1)), (1, .int (a1))]) (by decide) (Nat.le_of_ble_eq_true rfl) rfl ?_
  intro κ X E B _
  have X : zX g κ RX2 cX2_partsOf 4 := X
  obtain ⟨b1, b2, b3, b4, b5⟩ := hI.bnd
  refine V_iconst (v := nI 0) X dX2_partsOf_0 (by decide) ?_
  refine V_istore_n X [(2, .int (nI (0))), (0, .ref (X0 + 1)), (1, .int (a1))] dX2_partsOf_1 (by decide) rfl ?_
  refine V_iconst (v := nI 0) X dX2_partsOf_2 (by decide) ?_
  refine V_istore_n X [(3, .int (nI (0))), (2, .int (nI (0))), (0, .ref (X0 + 1)), (1, .int (a1))] dX2_partsOf_3 (by decide) rfl ?_
  have L4 : ∀ (n4 : Nat) (i4 : Nat) (x4_2 : Int32), n4 = nS - i4 → i4 ≤ nS → zMk x4_2 (mDu (F 5) a1 i4) → V g κ 4 0 0 (t, cW g X0 F σ0) 4 [(3, .int (nI (i4))), (2, .int (x4_2)), (0, .ref (X0 + 1)), (1, .int (a1))] [] := by
    intro n4
    induction n4 using Nat.strongRecOn with
    | ind n4 ih4 =>
      intro i4 x4_2 hn4 hi4 hv4_0
      refine V_iload_n X dX2_partsOf_4 0 rfl ?_
      refine V_aload_n X dX2_partsOf_5 2 rfl ?_
      refine C_getfN (z := nI (nS)) X fl_X2_31 1 (by decide) rfl rfl hI.f1_6 dX2_partsOf_6 ?_
      refine V_icmpgeN X (by omega) (by omega) (tgt := 35) dX2_partsOf_9 (by decide) (fun h1 => ?_) (fun h1 => ?_)
      · -- 9 true
        refine V_iload_n X dX2_partsOf_35 1 rfl ?_
        exact V_iret X E (Nat.zero_le _) (Nat.zero_le _) ⟨⟨_, rfl, (by rw [← show i4 = nS by omega]; exact hv4_0)⟩, rfl⟩ dX2_partsOf_36
      · -- 9 false
        refine V_iload_n X dX2_partsOf_12 3 rfl ?_
        refine V_iload_n X dX2_partsOf_13 0 rfl ?_
        refine V_callSN (rest := []) X E.room ml_X2_34 st_X5_has (by omega) (by decide) (k_X5_has (σ := (t, cW g X0 F σ0)) (a1) (nI (i4))) rfl rfl (Nat.le_of_ble_eq_true rfl) ⟨Nat.le_refl _, Nat.le_refl _⟩ dX2_partsOf_14 (fun _ _ h => False.elim h) (fun v14 σ' hp14 => ?_)
        obtain ⟨hp14, rfl⟩ := hp14
        obtain ⟨r2, rfl, hr2, fr2⟩ := hp14
        show V g κ 4 0 0 (t, cW g X0 F σ0) 17 [(3, .int (nI (i4))), (2, .int (x4_2)), (0, .ref (X0 + 1)), (1, .int (a1))] [.int (r2)]
        refine V_ifeq X (tgt := 29) dX2_partsOf_17 (by decide) (fun h3 => ?_) (fun h3 => ?_)
        · -- 17 true
          have zh3 := mt fr2.mpr (not_not_intro h3)
          refine V_iinc X (nI (i4 + 1)) [(3, .int (nI (i4 + 1))), (2, .int (x4_2)), (0, .ref (X0 + 1)), (1, .int (a1))] dX2_partsOf_29 0 rfl (zinc _) (by decide) rfl ?_
          refine V_goto (tgt := 4) X dX2_partsOf_32 (by decide) ?_
          exact V.sub [0, 1, 2, 3] rfl (ih4 _ (by omega) (i4 + 1) x4_2 rfl (by omega) (by subst_vars; first | exact mDu_yes hv4_0 (by assumption) (by assumption) (by assumption) | exact mDu_no hv4_0 (by assumption)))
        · -- 17 false
          have zh3 := fr2.mp h3
          refine V_iload_n X dX2_partsOf_20 1 rfl ?_
          refine V_aload_n X dX2_partsOf_21 2 rfl ?_
          refine C_getf X fl_X2_21 1 (by decide) rfl rfl dX2_partsOf_22 ?_
          refine V_iload_n X dX2_partsOf_25 0 rfl ?_
          refine C_iald X (N := 6) 5 (by decide) (i4) rfl (by omega) (by decide) rfl dX2_partsOf_26 ?_
          obtain ⟨m4, hm4, em4⟩ := hI.sp (i4) (by omega)
          rw [em4]
          refine V_ior X dX2_partsOf_27 (V.topi (fun w5 ew5 => ?_))
          refine V_istore_n X [(2, .int (w5)), (3, .int (nI (i4))), (0, .ref (X0 + 1)), (1, .int (a1))] dX2_partsOf_28 (by decide) rfl ?_
          refine V_iinc X (nI (i4 + 1)) [(3, .int (nI (i4 + 1))), (2, .int (w5)), (0, .ref (X0 + 1)), (1, .int (a1))] dX2_partsOf_29 1 rfl (zinc _) (by decide) rfl ?_
          refine V_goto (tgt := 4) X dX2_partsOf_32 (by decide) ?_
          exact V.sub [0, 1, 2, 3] rfl (ih4 _ (by omega) (i4 + 1) w5 rfl (by omega) (by subst_vars; first | exact mDu_yes hv4_0 (by assumption) (by assumption) (by assumption) | exact mDu_no hv4_0 (by assumption)))
  exact L4 _ 0 (nI (0)) rfl (by omega) (mDu_0)
