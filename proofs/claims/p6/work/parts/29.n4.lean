set_option maxRecDepth 100000 in
set_option maxHeartbeats 4000000 in
theorem k_J6_numberOfTrailingZeros_0f7a4 {g : zG} {σ : zS} (m : Nat) (hm : m < 128) (h0 : m ≠ 0) : Ct g 10 yJ6_numberOfTrailingZeros_0f7a4 cJ6_numberOfTrailingZeros_0f7a4 2 (some FieldType.int) 0 0 [.int (nI (m))] σ (qR (fun v => v = some (.int (nI (zctz m)))) σ) zNo := by
  refine Ct.of (lv := [(0, .int (nI (m)))]) (by decide) (Nat.le_of_ble_eq_true rfl) rfl ?_
  intro κ X E B _
  have X : zX g κ RJ6 cJ6_numberOfTrailingZeros_0f7a4 2 := X
  refine V_iload_n X dJ6_numberOfTrailingZeros_0f7a4_0 0 rfl ?_
  refine V_iconst (v := (-1)) X dJ6_numberOfTrailingZeros_0f7a4_1 (by decide) ?_
  refine V_ixor X dJ6_numberOfTrailingZeros_0f7a4_2 ?_
  refine V_iload_n X dJ6_numberOfTrailingZeros_0f7a4_3 0 rfl ?_
  refine V_iconst (v := nI 1) X dJ6_numberOfTrailingZeros_0f7a4_4 (by decide) ?_
  refine V_isub X dJ6_numberOfTrailingZeros_0f7a4_5 ?_
  refine V_iand X dJ6_numberOfTrailingZeros_0f7a4_6 ?_
  refine V_istore_n X [(0, .int (((nI (m)) ^^^ (-1)) &&& ((nI (m)) - (nI (1)))))] dJ6_numberOfTrailingZeros_0f7a4_7 (by decide) rfl ?_
  refine V_iload_n X dJ6_numberOfTrailingZeros_0f7a4_8 0 rfl ?_
  refine V_ifgt X (tgt := 17) dJ6_numberOfTrailingZeros_0f7a4_9 (by decide) (fun h1 => ?_) (fun h1 => ?_)
  · -- 9 true
    refine V_iconst (v := nI 1) X dJ6_numberOfTrailingZeros_0f7a4_17 (by decide) ?_
    refine V_istore_n X [(1, .int (nI (1))), (0, .int (((nI (m)) ^^^ (-1)) &&& ((nI (m)) - (nI (1)))))] dJ6_numberOfTrailingZeros_0f7a4_18 (by decide) rfl ?_
    refine V_iload_n X dJ6_numberOfTrailingZeros_0f7a4_19 1 rfl ?_
    refine V_ldcw X cn_J6_264 dJ6_numberOfTrailingZeros_0f7a4_20 ?_
    refine V_icmple X (tgt := 34) dJ6_numberOfTrailingZeros_0f7a4_23 (by decide) (fun h2 => ?_) (fun h2 => absurd h2 (fun _ => (zntz1 m hm h0).2.2 (Int32.not_le.mp (by assumption))))
    refine V_iload_n X dJ6_numberOfTrailingZeros_0f7a4_34 1 rfl ?_
    refine V_sipush (v := nI 256) X dJ6_numberOfTrailingZeros_0f7a4_35 (by decide) ?_
    refine V_icmple X (tgt := 49) dJ6_numberOfTrailingZeros_0f7a4_38 (by decide) (fun h3 => ?_) (fun h3 => absurd h3 (fun _ => (zntz1 m hm h0).2.1 (Int32.not_le.mp (by assumption))))
    refine V_iload_n X dJ6_numberOfTrailingZeros_0f7a4_49 1 rfl ?_
    refine V_bipush (v := nI 16) X dJ6_numberOfTrailingZeros_0f7a4_50 (by decide) ?_
    refine V_icmple X (tgt := 62) dJ6_numberOfTrailingZeros_0f7a4_52 (by decide) (fun h4 => ?_) (fun h4 => ?_)
    · -- 52 true
      refine V_iload_n X dJ6_numberOfTrailingZeros_0f7a4_62 1 rfl ?_
      refine V_iconst (v := nI 4) X dJ6_numberOfTrailingZeros_0f7a4_63 (by decide) ?_
      refine V_icmple X (tgt := 74) dJ6_numberOfTrailingZeros_0f7a4_64 (by decide) (fun h5 => ?_) (fun h5 => ?_)
      · -- 64 true
        refine V_iload_n X dJ6_numberOfTrailingZeros_0f7a4_74 0 rfl ?_
        refine V_iload_n X dJ6_numberOfTrailingZeros_0f7a4_75 1 rfl ?_
        refine V_iconst (v := nI 1) X dJ6_numberOfTrailingZeros_0f7a4_76 (by decide) ?_
        refine V_iushr X dJ6_numberOfTrailingZeros_0f7a4_77 ?_
        show V g κ 2 (0) (0) σ 78 [(1, .int (nI (1))), (0, .int (((nI (m)) ^^^ (-1)) &&& ((nI (m)) - (nI (1)))))] [.int (zu (((nI (m)) ^^^ (-1)) &&& ((nI (m)) - (nI (1)))) 1), .int (nI (1))]
        refine V_iadd X dJ6_numberOfTrailingZeros_0f7a4_78 ?_
        exact V_iret X E (by omega) (by omega) ⟨congrArg (fun z => some (Value.int z)) ((((zntz2 m hm h0 (fun q => absurd h1 (Int32.not_lt.mpr q))).2 (Int32.not_lt.mpr h4))).2 (Int32.not_lt.mpr h5)), rfl⟩ dJ6_numberOfTrailingZeros_0f7a4_79
      · -- 64 false
        refine V_iinc X (nI 1 + nI 2) [(1, .int (nI 1 + nI 2)), (0, .int (((nI (m)) ^^^ (-1)) &&& ((nI (m)) - (nI (1)))))] dJ6_numberOfTrailingZeros_0f7a4_67 0 rfl rfl (by decide) rfl ?_
        refine V_iload_n X dJ6_numberOfTrailingZeros_0f7a4_70 1 rfl ?_
        refine V_iconst (v := nI 2) X dJ6_numberOfTrailingZeros_0f7a4_71 (by decide) ?_
        refine V_iushr X dJ6_numberOfTrailingZeros_0f7a4_72 ?_
        show V g κ 2 (0) (0) σ 73 [(1, .int (nI 1 + nI 2)), (0, .int (((nI (m)) ^^^ (-1)) &&& ((nI (m)) - (nI (1)))))] [.int (zu (((nI (m)) ^^^ (-1)) &&& ((nI (m)) - (nI (1)))) 2)]
        refine V_istore_n X [(0, .int (zu (((nI (m)) ^^^ (-1)) &&& ((nI (m)) - (nI (1)))) 2)), (1, .int (nI 1 + nI 2))] dJ6_numberOfTrailingZeros_0f7a4_73 (by decide) rfl ?_
        refine V_iload_n X dJ6_numberOfTrailingZeros_0f7a4_74 1 rfl ?_
        refine V_iload_n X dJ6_numberOfTrailingZeros_0f7a4_75 0 rfl ?_
        refine V_iconst (v := nI 1) X dJ6_numberOfTrailingZeros_0f7a4_76 (by decide) ?_
        refine V_iushr X dJ6_numberOfTrailingZeros_0f7a4_77 ?_
        show V g κ 2 (0) (0) σ 78 [(0, .int (zu (((nI (m)) ^^^ (-1)) &&& ((nI (m)) - (nI (1)))) 2)), (1, .int (nI 1 + nI 2))] [.int (zu (zu (((nI (m)) ^^^ (-1)) &&& ((nI (m)) - (nI (1)))) 2) 1), .int (nI 1 + nI 2)]
        refine V_iadd X dJ6_numberOfTrailingZeros_0f7a4_78 ?_
        exact V_iret X E (by omega) (by omega) ⟨congrArg (fun z => some (Value.int z)) ((((zntz2 m hm h0 (fun q => absurd h1 (Int32.not_lt.mpr q))).2 (Int32.not_lt.mpr h4))).1 (Int32.not_le.mp h5)), rfl⟩ dJ6_numberOfTrailingZeros_0f7a4_79
    · -- 52 false
      refine V_iinc X (nI 1 + nI 4) [(1, .int (nI 1 + nI 4)), (0, .int (((nI (m)) ^^^ (-1)) &&& ((nI (m)) - (nI (1)))))] dJ6_numberOfTrailingZeros_0f7a4_55 0 rfl rfl (by decide) rfl ?_
      refine V_iload_n X dJ6_numberOfTrailingZeros_0f7a4_58 1 rfl ?_
      refine V_iconst (v := nI 4) X dJ6_numberOfTrailingZeros_0f7a4_59 (by decide) ?_
      refine V_iushr X dJ6_numberOfTrailingZeros_0f7a4_60 ?_
      show V g κ 2 (0) (0) σ 61 [(1, .int (nI 1 + nI 4)), (0, .int (((nI (m)) ^^^ (-1)) &&& ((nI (m)) - (nI (1)))))] [.int (zu (((nI (m)) ^^^ (-1)) &&& ((nI (m)) - (nI (1)))) 4)]
      refine V_istore_n X [(0, .int (zu (((nI (m)) ^^^ (-1)) &&& ((nI (m)) - (nI (1)))) 4)), (1, .int (nI 1 + nI 4))] dJ6_numberOfTrailingZeros_0f7a4_61 (by decide) rfl ?_
      refine V_iload_n X dJ6_numberOfTrailingZeros_0f7a4_62 0 rfl ?_
      refine V_iconst (v := nI 4) X dJ6_numberOfTrailingZeros_0f7a4_63 (by decide) ?_
      refine V_icmple X (tgt := 74) dJ6_numberOfTrailingZeros_0f7a4_64 (by decide) (fun h6 => ?_) (fun h6 => ?_)
      · -- 64 true
        refine V_iload_n X dJ6_numberOfTrailingZeros_0f7a4_74 1 rfl ?_
        refine V_iload_n X dJ6_numberOfTrailingZeros_0f7a4_75 0 rfl ?_
        refine V_iconst (v := nI 1) X dJ6_numberOfTrailingZeros_0f7a4_76 (by decide) ?_
        refine V_iushr X dJ6_numberOfTrailingZeros_0f7a4_77 ?_
        show V g κ 2 (0) (0) σ 78 [(0, .int (zu (((nI (m)) ^^^ (-1)) &&& ((nI (m)) - (nI (1)))) 4)), (1, .int (nI 1 + nI 4))] [.int (zu (zu (((nI (m)) ^^^ (-1)) &&& ((nI (m)) - (nI (1)))) 4) 1), .int (nI 1 + nI 4)]
        refine V_iadd X dJ6_numberOfTrailingZeros_0f7a4_78 ?_
        exact V_iret X E (by omega) (by omega) ⟨congrArg (fun z => some (Value.int z)) ((((zntz2 m hm h0 (fun q => absurd h1 (Int32.not_lt.mpr q))).1 (Int32.not_le.mp h4))).2 (Int32.not_lt.mpr h6)), rfl⟩ dJ6_numberOfTrailingZeros_0f7a4_79
      · -- 64 false
        refine V_iinc X (nI 1 + nI 4 + nI 2) [(1, .int (nI 1 + nI 4 + nI 2)), (0, .int (zu (((nI (m)) ^^^ (-1)) &&& ((nI (m)) - (nI (1)))) 4))] dJ6_numberOfTrailingZeros_0f7a4_67 1 rfl rfl (by decide) rfl ?_
        refine V_iload_n X dJ6_numberOfTrailingZeros_0f7a4_70 1 rfl ?_
        refine V_iconst (v := nI 2) X dJ6_numberOfTrailingZeros_0f7a4_71 (by decide) ?_
        refine V_iushr X dJ6_numberOfTrailingZeros_0f7a4_72 ?_
        show V g κ 2 (0) (0) σ 73 [(1, .int (nI 1 + nI 4 + nI 2)), (0, .int (zu (((nI (m)) ^^^ (-1)) &&& ((nI (m)) - (nI (1)))) 4))] [.int (zu (zu (((nI (m)) ^^^ (-1)) &&& ((nI (m)) - (nI (1)))) 4) 2)]
        refine V_istore_n X [(0, .int (zu (zu (((nI (m)) ^^^ (-1)) &&& ((nI (m)) - (nI (1)))) 4) 2)), (1, .int (nI 1 + nI 4 + nI 2))] dJ6_numberOfTrailingZeros_0f7a4_73 (by decide) rfl ?_
        refine V_iload_n X dJ6_numberOfTrailingZeros_0f7a4_74 1 rfl ?_
        refine V_iload_n X dJ6_numberOfTrailingZeros_0f7a4_75 0 rfl ?_
        refine V_iconst (v := nI 1) X dJ6_numberOfTrailingZeros_0f7a4_76 (by decide) ?_
        refine V_iushr X dJ6_numberOfTrailingZeros_0f7a4_77 ?_
        show V g κ 2 (0) (0) σ 78 [(0, .int (zu (zu (((nI (m)) ^^^ (-1)) &&& ((nI (m)) - (nI (1)))) 4) 2)), (1, .int (nI 1 + nI 4 + nI 2))] [.int (zu (zu (zu (((nI (m)) ^^^ (-1)) &&& ((nI (m)) - (nI (1)))) 4) 2) 1), .int (nI 1 + nI 4 + nI 2)]
        refine V_iadd X dJ6_numberOfTrailingZeros_0f7a4_78 ?_
        exact V_iret X E (by omega) (by omega) ⟨congrArg (fun z => some (Value.int z)) ((((zntz2 m hm h0 (fun q => absurd h1 (Int32.not_lt.mpr q))).1 (Int32.not_le.mp h4))).1 (Int32.not_le.mp h6)), rfl⟩ dJ6_numberOfTrailingZeros_0f7a4_79
  · -- 9 false
    refine V_iload_n X dJ6_numberOfTrailingZeros_0f7a4_12 0 rfl ?_
    refine V_bipush (v := nI 32) X dJ6_numberOfTrailingZeros_0f7a4_13 (by decide) ?_
    refine V_iand X dJ6_numberOfTrailingZeros_0f7a4_15 ?_
    exact V_iret X E (by omega) (by omega) ⟨(congrArg (fun z => some (Value.int z)) ((zntz1 m hm h0).1 (Int32.not_lt.mp h1))), rfl⟩ dJ6_numberOfTrailingZeros_0f7a4_16
set_option maxRecDepth 100000 in
set_option maxHeartbeats 4000000 in
theorem k_X12_cutScenes {g : zG} {t : Nat × Nat} {ad N : Nat → Nat} {S : Int64} {σ0 : Nat → Option va_E} {F : Nat → Nat → Int32} (hK : rK g ad N) (hI : rI N F)  : Ct g 24 yX12_cutScenes cX12_cutScenes 3 (some FieldType.int) 0 0 [.ref (ad (0))] (t, rO g ad N S F σ0) (qJ pI g t ad N S F σ0) zNo := by
  refine Ct.of (lv := [(0, .ref (ad (0)))]) (by decide) (Nat.le_of_ble_eq_true rfl) rfl ?_
  intro κ X E B _
  have X : zX g κ RX12 cX12_cutScenes 3 := X
  obtain ⟨b0, b1, b2, b3, b4⟩ := hI.bnd
  have h64 : 2 ^ N 2 ≤ 64 := zp2 (n := 6) (by omega)
  have hpw : 1 ≤ 2 ^ N 2 := Nat.one_le_two_pow
  refine V_aload_n X dX12_cutScenes_0 0 rfl ?_
  refine V_callV (rest := []) X E.room ml_X12_182 in_X12_all (ci := 16) rfl se_X12_all (R_recv hK (q := 0) (rlv (by omega)) rfl) (by omega) (by decide) (k_X12_all hK hI) rfl rfl (Nat.le_of_ble_eq_true rfl) ⟨by omega, by omega⟩ dX12_cutScenes_1 (fun _ _ h => False.elim h) (fun v1 σ' hp1 => ?_)
  obtain ⟨hp1, rfl⟩ := hp1
  cases (hp1 : _ = some (Value.int (nI (2 ^ N 2 - 1))))
  show V g κ 3 (0) (0) (t, rO g ad N S F σ0) 4 [(0, .ref (ad (0)))] [.int (nI (2 ^ N 2 - 1))]
  refine V_istore_n X [(1, .int (nI (2 ^ N 2 - 1))), (0, .ref (ad (0)))] dX12_cutScenes_4 (by decide) rfl ?_
  refine V_iconst (v := nI 0) X dX12_cutScenes_5 (by decide) ?_
  refine V_istore_n X [(2, .int (nI (0))), (1, .int (nI (2 ^ N 2 - 1))), (0, .ref (ad (0)))] dX12_cutScenes_6 (by decide) rfl ?_
  have L7 : ∀ (n7 : Nat) (i7 : Nat) (x7_1 : Int32) (G7 : Nat → Nat → Int32), n7 = ((2 ^ N 2 - 1) + 1) - i7 → i7 ≤ ((2 ^ N 2 - 1) + 1) → rJ F G7 → V g κ 3 (0) (0) (t, rO g ad N S G7 σ0) 7 [(2, .int (nI (i7))), (1, .int (x7_1)), (0, .ref (ad (0)))] [] := by
    intro n7
    induction n7 using Nat.strongRecOn with
    | ind n7 ih7 =>
      intro i7 x7_1 G7 hn7 hi7 hJ7
      refine V_iload_n X dX12_cutScenes_7 0 rfl ?_
      refine V_aload_n X dX12_cutScenes_8 2 rfl ?_
      refine V_callV (rest := [.int (nI (i7))]) X E.room ml_X12_182 in_X12_all (ci := 16) rfl se_X12_all (R_recv hK (q := 0) (rlv (by omega)) rfl) (by omega) (by decide) (k_X12_all hK (hI.mv hJ7)) rfl rfl (Nat.le_of_ble_eq_true rfl) ⟨by omega, by omega⟩ dX12_cutScenes_9 (fun _ _ h => False.elim h) (fun v9 σ' hp9 => ?_)
      obtain ⟨hp9, rfl⟩ := hp9
      cases (hp9 : _ = some (Value.int (nI (2 ^ N 2 - 1))))
      show V g κ 3 (0) (0) (t, rO g ad N S G7 σ0) 12 [(2, .int (nI (i7))), (1, .int (x7_1)), (0, .ref (ad (0)))] [.int (nI (2 ^ N 2 - 1)), .int (nI (i7))]
      refine V_icmpgtN X (by omega) (by omega) (tgt := 77) dX12_cutScenes_12 (by decide) (fun h1 => ?_) (fun h1 => ?_)
      · -- 12 true
        refine V_iload_n X dX12_cutScenes_77 1 rfl ?_
        exact V_iret X E (by omega) (by omega) ⟨⟨_, rfl⟩, ⟨_, rfl, hJ7⟩⟩ dX12_cutScenes_78
      · -- 12 false
        refine V_iload_n X dX12_cutScenes_15 0 rfl ?_
        refine V_callS (rest := []) X E.room ml_X12_170 st_J6_bitCount_0f7a4 (by omega) (by decide) (k_J6_bitCount_0f7a4 (σ := (t, rO g ad N S G7 σ0)) (nI (i7))) rfl rfl (Nat.le_of_ble_eq_true rfl) ⟨by omega, by omega⟩ dX12_cutScenes_16 (fun _ _ h => False.elim h) (fun v16 σ' hp16 => ?_)
        obtain ⟨hp16, rfl⟩ := hp16
        cases (hp16 : _ = some (Value.int (zbc (nI (i7)))))
        show V g κ 3 (0) (0) (t, rO g ad N S G7 σ0) 19 [(2, .int (nI (i7))), (1, .int (x7_1)), (0, .ref (ad (0)))] [.int (zbc (nI (i7)))]
        refine V_iload_n X dX12_cutScenes_19 1 rfl ?_
        refine V_callS (rest := [.int (zbc (nI (i7)))]) X E.room ml_X12_170 st_J6_bitCount_0f7a4 (by omega) (by decide) (k_J6_bitCount_0f7a4 (σ := (t, rO g ad N S G7 σ0)) (x7_1)) rfl rfl (Nat.le_of_ble_eq_true rfl) ⟨by omega, by omega⟩ dX12_cutScenes_20 (fun _ _ h => False.elim h) (fun v20 σ' hp20 => ?_)
        obtain ⟨hp20, rfl⟩ := hp20
        cases (hp20 : _ = some (Value.int (zbc (x7_1))))
        show V g κ 3 (0) (0) (t, rO g ad N S G7 σ0) 23 [(2, .int (nI (i7))), (1, .int (x7_1)), (0, .ref (ad (0)))] [.int (zbc (x7_1)), .int (zbc (nI (i7)))]
        refine V_icmplt X (tgt := 29) dX12_cutScenes_23 (by decide) (fun h2 => ?_) (fun h2 => ?_)
        · -- 23 true
          refine V_aload_n X dX12_cutScenes_29 2 rfl ?_
          refine V_aload_n X dX12_cutScenes_30 2 rfl ?_
          refine V_callV (rest := [.ref (ad (0))]) X E.room ml_X12_182 in_X12_all (ci := 16) rfl se_X12_all (R_recv hK (q := 0) (rlv (by omega)) rfl) (by omega) (by decide) (k_X12_all hK (hI.mv hJ7)) rfl rfl (Nat.le_of_ble_eq_true rfl) ⟨by omega, by omega⟩ dX12_cutScenes_31 (fun _ _ h => False.elim h) (fun v31 σ' hp31 => ?_)
          obtain ⟨hp31, rfl⟩ := hp31
          cases (hp31 : _ = some (Value.int (nI (2 ^ N 2 - 1))))
          show V g κ 3 (0) (0) (t, rO g ad N S G7 σ0) 34 [(2, .int (nI (i7))), (1, .int (x7_1)), (0, .ref (ad (0)))] [.int (nI (2 ^ N 2 - 1)), .ref (ad (0))]
          refine V_iload_n X dX12_cutScenes_34 0 rfl ?_
          refine V_iconst (v := (-1)) X dX12_cutScenes_35 (by decide) ?_
          refine V_ixor X dX12_cutScenes_36 (V.topi (fun w3 ew3 => ?_))
          refine V_iand X dX12_cutScenes_37 (V.topi (fun w4 ew4 => ?_))
          refine V_callV (rest := []) X E.room ml_X12_175 in_X12_clash (ci := 16) rfl se_X12_clash (R_recv hK (q := 0) (rlv (by omega)) rfl) (by omega) (by decide) (k_X12_clash hK (hI.mv hJ7) (w4)) rfl rfl (Nat.le_of_ble_eq_true rfl) ⟨by omega, by omega⟩ dX12_cutScenes_38 (fun _ _ h => False.elim h) (fun v38 σ' hp38 => ?_)
          obtain ⟨hp38, F5, rfl, hJF5⟩ := hp38
          have hKF5 : rJ F F5 := (hJ7 : rJ F G7).trans hJF5
          cases (hp38 : _ = none)
          show V g κ 3 (0) (0) (t, rO g ad N S F5 σ0) 41 [(2, .int (nI (i7))), (1, .int (x7_1)), (0, .ref (ad (0)))] []
          refine V_aload_n X dX12_cutScenes_41 2 rfl ?_
          refine V_iconst (v := nI 0) X dX12_cutScenes_42 (by decide) ?_
          refine V_aload_n X dX12_cutScenes_43 2 rfl ?_
          refine V_aload_n X dX12_cutScenes_44 2 rfl ?_
          refine V_callV (rest := [.ref (ad (0)), .int (nI (0)), .ref (ad (0))]) X E.room ml_X12_182 in_X12_all (ci := 16) rfl se_X12_all (R_recv hK (q := 0) (rlv (by omega)) rfl) (by omega) (by decide) (k_X12_all hK (hI.mv hKF5)) rfl rfl (Nat.le_of_ble_eq_true rfl) ⟨by omega, by omega⟩ dX12_cutScenes_45 (fun _ _ h => False.elim h) (fun v45 σ' hp45 => ?_)
          obtain ⟨hp45, rfl⟩ := hp45
          cases (hp45 : _ = some (Value.int (nI (2 ^ N 2 - 1))))
          show V g κ 3 (0) (0) (t, rO g ad N S F5 σ0) 48 [(2, .int (nI (i7))), (1, .int (x7_1)), (0, .ref (ad (0)))] [.int (nI (2 ^ N 2 - 1)), .ref (ad (0)), .int (nI (0)), .ref (ad (0))]
          refine V_iload_n X dX12_cutScenes_48 0 rfl ?_
          refine V_iconst (v := (-1)) X dX12_cutScenes_49 (by decide) ?_
          refine V_ixor X dX12_cutScenes_50 (V.topi (fun w6 ew6 => ?_))
          refine V_iand X dX12_cutScenes_51 (V.topi (fun w7 ew7 => ?_))
          refine V_callV (rest := [.int (nI (0)), .ref (ad (0))]) X E.room ml_X12_179 in_X12_partsOf (ci := 16) rfl se_X12_partsOf (R_recv hK (q := 0) (rlv (by omega)) rfl) (by omega) (by decide) (k_X12_partsOf hK (hI.mv hKF5) (w7)) rfl rfl (Nat.le_of_ble_eq_true rfl) ⟨by omega, by omega⟩ dX12_cutScenes_52 (fun _ _ h => False.elim h) (fun v52 σ' hp52 => ?_)
          obtain ⟨hp52, rfl⟩ := hp52
          obtain ⟨m8, rfl, hm8⟩ := hp52
          have gm8 : m8 < 128 := Nat.lt_of_lt_of_le hm8.1 (zp2 (n := 7) (by omega))
          show V g κ 3 (0) (0) (t, rO g ad N S F5 σ0) 55 [(2, .int (nI (i7))), (1, .int (x7_1)), (0, .ref (ad (0)))] [.int (nI (m8)), .int (nI (0)), .ref (ad (0))]
          refine V_iconst (v := nI 0) X dX12_cutScenes_55 (by decide) ?_
          refine V_aload_n X dX12_cutScenes_56 2 rfl ?_
          refine R_getf X fl_X12_16 hK (0) (rlv (by omega)) rfl rfl dX12_cutScenes_57 ?_
          refine V_callV (rest := [.int (nI (0)), .int (nI (m8)), .int (nI (0)), .ref (ad (0))]) X E.room ml_X12_42 in_Jx4a65c_size_8abf5 (ci := 3) rfl se_Jx4a65c_size_8abf5 (rO_list hK (i := 1) (by decide)) (by omega) (by decide) (r_size hK 1 (by decide)) rfl rfl (Nat.le_of_ble_eq_true rfl) ⟨by omega, by omega⟩ dX12_cutScenes_60 (fun _ _ h => False.elim h) (fun v9 σ' hp10 => ?_)
          obtain ⟨hp10, rfl⟩ := hp10
          cases (hp10 : _ = some (Value.int (nI (N 1))))
          show V g κ 3 (0) (0) (t, rO g ad N S F5 σ0) 63 [(2, .int (nI (i7))), (1, .int (x7_1)), (0, .ref (ad (0)))] [.int (nI (N 1)), .int (nI (0)), .int (nI (m8)), .int (nI (0)), .ref (ad (0))]
          refine V_callV (rest := []) X E.room ml_X12_166 in_X12_fills (ci := 16) rfl se_X12_fills (R_recv hK (q := 0) (rlv (by omega)) rfl) (by omega) (by decide) (k_X12_fills hK (N 0) (hI.mv hKF5) 0 (by omega) (nI (m8)) (nI (0)) (nI (N 1))) rfl rfl (Nat.le_of_ble_eq_true rfl) ⟨by omega, by omega⟩ dX12_cutScenes_63 (fun _ _ h => False.elim h) (fun v63 σ' hp63 => ?_)
          obtain ⟨F11, rfl, hwF11, hpF11⟩ := hp63
          have hJF11 : rJ F F11 := (hKF5 : rJ F F5).trans hwF11.j
          rcases hpF11 with ⟨rfl, -, -, -⟩ | ⟨rfl, -⟩
          · -- filled
            show V g κ 3 (0) (0) (t, rO g ad N S F11 σ0) 66 [(2, .int (nI (i7))), (1, .int (x7_1)), (0, .ref (ad (0)))] [.int (nI (1))]
            refine V_ifeqN X (by omega) (tgt := 71) dX12_cutScenes_66 (by decide) (fun h12 => absurd h12 (by omega)) (fun h12 => ?_)
            refine V_iload_n X dX12_cutScenes_69 0 rfl ?_
            refine V_istore_n X [(1, .int (nI (i7))), (2, .int (nI (i7))), (0, .ref (ad (0)))] dX12_cutScenes_70 (by decide) rfl ?_
            refine V_iinc X (nI (i7 + 1)) [(2, .int (nI (i7 + 1))), (1, .int (nI (i7))), (0, .ref (ad (0)))] dX12_cutScenes_71 1 rfl (zinc _) (by decide) rfl ?_
            refine V_goto (tgt := 7) X dX12_cutScenes_74 (by decide) ?_
            exact V.sub [0, 1, 2] rfl (ih7 _ (by omega) (i7 + 1) (nI (i7)) F11 rfl (by omega) hJF11)
          · -- not
            show V g κ 3 (0) (0) (t, rO g ad N S F11 σ0) 66 [(2, .int (nI (i7))), (1, .int (x7_1)), (0, .ref (ad (0)))] [.int (nI (0))]
            refine V_ifeqN X (by omega) (tgt := 71) dX12_cutScenes_66 (by decide) (fun h13 => ?_) (fun h13 => absurd h13 (by omega))
            refine V_iinc X (nI (i7 + 1)) [(2, .int (nI (i7 + 1))), (1, .int (x7_1)), (0, .ref (ad (0)))] dX12_cutScenes_71 0 rfl (zinc _) (by decide) rfl ?_
            refine V_goto (tgt := 7) X dX12_cutScenes_74 (by decide) ?_
            exact V.sub [0, 1, 2] rfl (ih7 _ (by omega) (i7 + 1) (x7_1) F11 rfl (by omega) hJF11)
        · -- 23 false
          refine V_goto (tgt := 71) X dX12_cutScenes_26 (by decide) ?_
          refine V_iinc X (nI (i7 + 1)) [(2, .int (nI (i7 + 1))), (1, .int (x7_1)), (0, .ref (ad (0)))] dX12_cutScenes_71 0 rfl (zinc _) (by decide) rfl ?_
          refine V_goto (tgt := 7) X dX12_cutScenes_74 (by decide) ?_
          exact V.sub [0, 1, 2] rfl (ih7 _ (by omega) (i7 + 1) (x7_1) G7 rfl (by omega) hJ7)
  exact L7 _ (0) (nI (2 ^ N 2 - 1)) F rfl (by omega) rJ.rfl'
set_option maxRecDepth 100000 in
set_option maxHeartbeats 4000000 in
theorem k_X12_waste {g : zG} {t : Nat × Nat} {ad N : Nat → Nat} {S : Int64} {σ0 : Nat → Option va_E} {F : Nat → Nat → Int32} (hK : rK g ad N) (hI : rI N F) (c p : Nat) (hc : c < N 3) (hp : p < N 0) (hq : ∃ q, q < N 1 ∧ F 11 p = nI q) : Ct g 13 yX12_waste cX12_waste 5 (some FieldType.int) 0 0 [.ref (ad (0)), .ref (ad (32 + (c))), .int (nI (p))] (t, rO g ad N S F σ0) (qR pI (t, rO g ad N S F σ0)) zNo := by
  refine Ct.of (lv := [(0, .ref (ad (0))), (1, .ref (ad (32 + (c)))), (2, .int (nI (p)))]) (by decide) (Nat.le_of_ble_eq_true rfl) rfl ?_
  intro κ X E B _
  have X : zX g κ RX12 cX12_waste 5 := X
  obtain ⟨b0, b1, b2, b3, b4⟩ := hI.bnd
  obtain ⟨q9, hq9, eq9⟩ := hq
  refine V_aload_n X dX12_waste_0 1 rfl ?_
  refine R_getf X fl_X12_128 hK (32 + (c)) (rlv (by omega)) (rCell_coat (by omega)) rfl dX12_waste_1 (V.topi (fun x1 ex1 => ?_))
  refine V_aload_n X dX12_waste_4 0 rfl ?_
  refine R_getf X fl_X12_16 hK (0) (rlv (by omega)) rfl rfl dX12_waste_5 ?_
  refine V_aload_n X dX12_waste_8 0 rfl ?_
  refine R_getf X fl_X12_28 hK (0) (rlv (by omega)) rfl rfl dX12_waste_9 ?_
  refine V_iload_n X dX12_waste_12 2 rfl ?_
  refine R_iald X hK (11) (by omega) (p) rfl (by omega) dX12_waste_13 ?_
  rw [eq9]
  refine V_callV (rest := [.int (x1)]) X E.room ml_X12_97 in_Jx4a65c_get_915e3 (ci := 3) rfl se_Jx4a65c_get_915e3 (rO_list hK (i := 1) (by decide)) (by omega) (by decide) (r_get hK 1 (by decide) (j := q9) (by omega) (by omega)) rfl rfl (Nat.le_of_ble_eq_true rfl) ⟨by omega, by omega⟩ dX12_waste_14 (fun _ _ h => False.elim h) (fun v2 σ' hp3 => ?_)
  obtain ⟨hp3, rfl⟩ := hp3
  cases (hp3 : _ = some (Value.ref (ad (21 + (q9)))))
  show V g κ 5 (0) (0) (t, rO g ad N S F σ0) 17 [(0, .ref (ad (0))), (1, .ref (ad (32 + (c)))), (2, .int (nI (p)))] [.ref (ad (21 + (q9))), .int (x1)]
  refine V_cast X (C := RX9) rfl cl_X12_74 (R_recv hK (q := 21 + (q9)) (rlv (by omega)) (rCell_player (by omega))) dX12_waste_17 ?_
  refine R_getf X fl_X12_80 hK (21 + (q9)) (rlv (by omega)) (rCell_player (by omega)) rfl dX12_waste_20 (V.topi (fun x4 ex4 => ?_))
  refine V_isub X dX12_waste_23 (V.topi (fun w5 ew5 => ?_))
  refine V_mabs X E.room (by omega) (by omega) (by decide) ml_X12_200 st_J9_abs_0f7a4 rfl rfl (Nat.le_of_ble_eq_true rfl) dX12_waste_24 (V.topi (fun w6 ew6 => ?_))
  refine V_istore_n X [(3, .int (w6)), (0, .ref (ad (0))), (1, .ref (ad (32 + (c)))), (2, .int (nI (p)))] dX12_waste_27 (by decide) rfl ?_
  refine V_aload_n X dX12_waste_28 2 rfl ?_
  refine R_getf X fl_X12_127 hK (32 + (c)) (rlv (by omega)) (rCell_coat (by omega)) rfl dX12_waste_29 (V.topi (fun x7 ex7 => ?_))
  refine V_aload_n X dX12_waste_32 1 rfl ?_
  refine R_getf X fl_X12_10 hK (0) (rlv (by omega)) rfl rfl dX12_waste_33 ?_
  refine V_iload_n X dX12_waste_36 3 rfl ?_
  refine V_callV (rest := [.int (x7)]) X E.room ml_X12_97 in_Jx4a65c_get_915e3 (ci := 3) rfl se_Jx4a65c_get_915e3 (rO_list hK (i := 0) (by decide)) (by omega) (by decide) (r_get hK 0 (by decide) (j := p) (by omega) (by omega)) rfl rfl (Nat.le_of_ble_eq_true rfl) ⟨by omega, by omega⟩ dX12_waste_37 (fun _ _ h => False.elim h) (fun v8 σ' hp9 => ?_)
  obtain ⟨hp9, rfl⟩ := hp9
  cases (hp9 : _ = some (Value.ref (ad (14 + (p)))))
  show V g κ 5 (0) (0) (t, rO g ad N S F σ0) 40 [(3, .int (w6)), (0, .ref (ad (0))), (1, .ref (ad (32 + (c)))), (2, .int (nI (p)))] [.ref (ad (14 + (p))), .int (x7)]
  refine V_cast X (C := RX8) rfl cl_X12_54 (R_recv hK (q := 14 + (p)) (rlv (by omega)) (rCell_part (by omega))) dX12_waste_40 ?_
  refine R_getf X fl_X12_60 hK (14 + (p)) (rlv (by omega)) (rCell_part (by omega)) rfl dX12_waste_43 (V.topi (fun x10 ex10 => ?_))
  refine V_isub X dX12_waste_46 (V.topi (fun w11 ew11 => ?_))
  refine V_istore X [(4, .int (w11)), (3, .int (w6)), (0, .ref (ad (0))), (1, .ref (ad (32 + (c)))), (2, .int (nI (p)))] dX12_waste_47 (by decide) rfl ?_
  refine V_aload_n X dX12_waste_49 3 rfl ?_
  refine R_getf X fl_X12_135 hK (32 + (c)) (rlv (by omega)) (rCell_coat (by omega)) rfl dX12_waste_50 (V.topi (fun x12 ex12 => ?_))
  refine V_ifne X (tgt := 66) dX12_waste_53 (by decide) (fun h13 => ?_) (fun h13 => ?_)
  · -- 53 true
    refine V_iconst (v := (-1)) X dX12_waste_66 (by decide) ?_
    refine V_goto (tgt := 74) X dX12_waste_67 (by decide) ?_
    exact V_iret X E (by omega) (by omega) ⟨⟨_, rfl⟩, rfl⟩ dX12_waste_74
  · -- 53 false
    refine V_iload X dX12_waste_56 0 rfl ?_
    refine V_iflt X (tgt := 66) dX12_waste_58 (by decide) (fun h14 => ?_) (fun h14 => ?_)
    · -- 58 true
      refine V_iconst (v := (-1)) X dX12_waste_66 (by decide) ?_
      refine V_goto (tgt := 74) X dX12_waste_67 (by decide) ?_
      exact V_iret X E (by omega) (by omega) ⟨⟨_, rfl⟩, rfl⟩ dX12_waste_74
    · -- 58 false
      refine V_iload_n X dX12_waste_61 1 rfl ?_
      refine V_iconst (v := nI 2) X dX12_waste_62 (by decide) ?_
      refine V_icmple X (tgt := 70) dX12_waste_63 (by decide) (fun h15 => ?_) (fun h15 => ?_)
      · -- 63 true
        refine V_iload X dX12_waste_70 0 rfl ?_
        refine V_iload_n X dX12_waste_72 1 rfl ?_
        refine V_iadd X dX12_waste_73 (V.topi (fun w16 ew16 => ?_))
        exact V_iret X E (by omega) (by omega) ⟨⟨_, rfl⟩, rfl⟩ dX12_waste_74
      · -- 63 false
        refine V_iconst (v := (-1)) X dX12_waste_66 (by decide) ?_
        refine V_goto (tgt := 74) X dX12_waste_67 (by decide) ?_
        exact V_iret X E (by omega) (by omega) ⟨⟨_, rfl⟩, rfl⟩ dX12_waste_74
set_option maxRecDepth 100000 in
set_option maxHeartbeats 4000000 in
theorem k_X12_dress {g : zG} {t : Nat × Nat} {ad N : Nat → Nat} {S : Int64} {σ0 : Nat → Option va_E} (hK : rK g ad N) : ∀ (r : Nat) {F : Nat → Nat → Int32} (hI : rI N F) (m : Nat) (hm : m < 128) (hr : zpc m ≤ r) (hc : ∀ p, m.testBit p = true → p < N 0 ∧ ∃ q, q < N 1 ∧ F 11 p = nI q) (used sum : Int32), Ct g (16 + r) yX12_dress cX12_dress 7 none 0 0 [.ref (ad (0)), .int (nI m), .int used, .int sum] (t, rO g ad N S F σ0) (qJ pV g t ad N S F σ0) zNo := by
  intro r
  induction r using Nat.strongRecOn with
  | ind r ihr =>
  intro F hI m hm hr hc used sum
  refine Ct.of (lv := [(0, .ref (ad (0))), (1, .int (nI (m))), (2, .int (used)), (3, .int (sum))]) (by decide) (Nat.le_of_ble_eq_true rfl) rfl ?_
  intro κ X E B _
  have X : zX g κ RX12 cX12_dress 7 := X
  obtain ⟨b0, b1, b2, b3, b4⟩ := hI.bnd
  refine V_aload_n X dX12_dress_0 0 rfl ?_
  refine R_getf X fl_X12_205 hK (0) (rlv (by omega)) rfl rfl dX12_dress_1 (V.topi (fun x1 ex1 => ?_))
  refine V_iconst (v := (-1)) X dX12_dress_4 (by decide) ?_
  refine V_icmpeq X (tgt := 17) dX12_dress_5 (by decide) (fun h2 => ?_) (fun h2 => ?_)
  · -- 5 true
    refine V_iload_n X dX12_dress_17 1 rfl ?_
    refine V_ifneN X (by omega) (tgt := 27) dX12_dress_18 (by decide) (fun h3 => ?_) (fun h3 => ?_)
    · -- 18 true
      refine V_iload_n X dX12_dress_27 1 rfl ?_
      refine V_callS (rest := []) X E.room ml_X12_208 st_J6_numberOfTrailingZeros_0f7a4 (by omega) (by decide) (k_J6_numberOfTrailingZeros_0f7a4 (σ := (t, rO g ad N S F σ0)) m (by omega) (by assumption)) rfl rfl (Nat.le_of_ble_eq_true rfl) ⟨by omega, by omega⟩ dX12_dress_28 (fun _ _ h => False.elim h) (fun v28 σ' hp28 => ?_)
      obtain ⟨hp28, rfl⟩ := hp28
      cases (hp28 : _ = some (Value.int (nI (zctz m))))
      show V g κ 7 (0) (0) (t, rO g ad N S F σ0) 31 [(0, .ref (ad (0))), (1, .int (nI (m))), (2, .int (used)), (3, .int (sum))] [.int (nI (zctz m))]
      obtain ⟨y1, y2, y3, y4⟩ := zpc_low m hm (by assumption)
      obtain ⟨hz9, q9, hq9, eq9⟩ := hc _ y4
      refine V_istore X [(4, .int (nI (zctz m))), (0, .ref (ad (0))), (1, .int (nI (m))), (2, .int (used)), (3, .int (sum))] dX12_dress_31 (by decide) rfl ?_
      refine V_iconst (v := nI 0) X dX12_dress_33 (by decide) ?_
      refine V_istore X [(5, .int (nI (0))), (4, .int (nI (zctz m))), (0, .ref (ad (0))), (1, .int (nI (m))), (2, .int (used)), (3, .int (sum))] dX12_dress_34 (by decide) rfl ?_
      have L36 : ∀ (n36 : Nat) (i36 : Nat) (G36 : Nat → Nat → Int32), n36 = N 3 - i36 → i36 ≤ N 3 → rJ F G36 → V g κ 7 (0) (0) (t, rO g ad N S G36 σ0) 36 [(5, .int (nI (i36))), (4, .int (nI (zctz m))), (0, .ref (ad (0))), (1, .int (nI (m))), (2, .int (used)), (3, .int (sum))] [] := by
        intro n36
        induction n36 using Nat.strongRecOn with
        | ind n36 ih36 =>
          intro i36 G36 hn36 hi36 hJ36
          refine V_iload X dX12_dress_36 0 rfl ?_
          refine V_aload_n X dX12_dress_38 2 rfl ?_
          refine R_getf X fl_X12_22 hK (0) (rlv (by omega)) rfl rfl dX12_dress_39 ?_
          refine V_callV (rest := [.int (nI (i36))]) X E.room ml_X12_42 in_Jx4a65c_size_8abf5 (ci := 3) rfl se_Jx4a65c_size_8abf5 (rO_list hK (i := 3) (by decide)) (by omega) (by decide) (r_size hK 3 (by decide)) rfl rfl (Nat.le_of_ble_eq_true rfl) ⟨by omega, by omega⟩ dX12_dress_42 (fun _ _ h => False.elim h) (fun v4 σ' hp5 => ?_)
          obtain ⟨hp5, rfl⟩ := hp5
          cases (hp5 : _ = some (Value.int (nI (N 3))))
          show V g κ 7 (0) (0) (t, rO g ad N S G36 σ0) 45 [(5, .int (nI (i36))), (4, .int (nI (zctz m))), (0, .ref (ad (0))), (1, .int (nI (m))), (2, .int (used)), (3, .int (sum))] [.int (nI (N 3)), .int (nI (i36))]
          refine V_icmpgeN X (by omega) (by omega) (tgt := 112) dX12_dress_45 (by decide) (fun h6 => ?_) (fun h6 => ?_)
          · -- 45 true
            exact V_vret X E (by omega) (by omega) ⟨rfl, ⟨_, rfl, hJ36⟩⟩ dX12_dress_112
          · -- 45 false
            refine V_iload_n X dX12_dress_48 4 rfl ?_
            refine V_iload X dX12_dress_49 0 rfl ?_
            refine V_callS (rest := []) X E.room ml_X12_159 st_X12_isIn (by omega) (by decide) (k_X12_isIn (σ := (t, rO g ad N S G36 σ0)) (used) (nI (i36))) rfl rfl (Nat.le_of_ble_eq_true rfl) ⟨by omega, by omega⟩ dX12_dress_51 (fun _ _ h => False.elim h) (fun v51 σ' hp51 => ?_)
            obtain ⟨hp51, rfl⟩ := hp51
            rcases hp51 with ⟨rfl, z7⟩ | ⟨rfl, z7⟩
            · -- yes
              show V g κ 7 (0) (0) (t, rO g ad N S G36 σ0) 54 [(5, .int (nI (i36))), (4, .int (nI (zctz m))), (0, .ref (ad (0))), (1, .int (nI (m))), (2, .int (used)), (3, .int (sum))] [.int (nI (1))]
              refine V_ifeqN X (by omega) (tgt := 61) dX12_dress_54 (by decide) (fun h8 => absurd h8 (by omega)) (fun h8 => ?_)
              refine V_iconst (v := (-1)) X dX12_dress_57 (by decide) ?_
              refine V_goto (tgt := 79) X dX12_dress_58 (by decide) ?_
              refine V_istore X [(6, .int (-1)), (5, .int (nI (i36))), (4, .int (nI (zctz m))), (0, .ref (ad (0))), (1, .int (nI (m))), (2, .int (used)), (3, .int (sum))] dX12_dress_79 (by decide) rfl ?_
              refine V_iload X dX12_dress_81 0 rfl ?_
              refine V_iconst (v := (-1)) X dX12_dress_83 (by decide) ?_
              refine V_icmpeq X (tgt := 106) dX12_dress_84 (by decide) (fun h9 => ?_) (fun h9 => absurd h9 (not_not_intro rfl))
              refine V_iinc X (nI (i36 + 1)) [(5, .int (nI (i36 + 1))), (6, .int (-1)), (4, .int (nI (zctz m))), (0, .ref (ad (0))), (1, .int (nI (m))), (2, .int (used)), (3, .int (sum))] dX12_dress_106 1 rfl (zinc _) (by decide) rfl ?_
              refine V_goto (tgt := 36) X dX12_dress_109 (by decide) ?_
              exact V.sub [0, 2, 3, 4, 5, 6] rfl (ih36 _ (by omega) (i36 + 1) G36 rfl (by omega) hJ36)
            · -- no
              show V g κ 7 (0) (0) (t, rO g ad N S G36 σ0) 54 [(5, .int (nI (i36))), (4, .int (nI (zctz m))), (0, .ref (ad (0))), (1, .int (nI (m))), (2, .int (used)), (3, .int (sum))] [.int (nI (0))]
              refine V_ifeqN X (by omega) (tgt := 61) dX12_dress_54 (by decide) (fun h10 => ?_) (fun h10 => absurd h10 (by omega))
              refine V_aload_n X dX12_dress_61 2 rfl ?_
              refine V_aload_n X dX12_dress_62 2 rfl ?_
              refine R_getf X fl_X12_22 hK (0) (rlv (by omega)) rfl rfl dX12_dress_63 ?_
              refine V_iload X dX12_dress_66 0 rfl ?_
              refine V_callV (rest := [.ref (ad (0))]) X E.room ml_X12_97 in_Jx4a65c_get_915e3 (ci := 3) rfl se_Jx4a65c_get_915e3 (rO_list hK (i := 3) (by decide)) (by omega) (by decide) (r_get hK 3 (by decide) (j := i36) (by omega) (by omega)) rfl rfl (Nat.le_of_ble_eq_true rfl) ⟨by omega, by omega⟩ dX12_dress_68 (fun _ _ h => False.elim h) (fun v11 σ' hp12 => ?_)
              obtain ⟨hp12, rfl⟩ := hp12
              cases (hp12 : _ = some (Value.ref (ad (32 + (i36)))))
              show V g κ 7 (0) (0) (t, rO g ad N S G36 σ0) 71 [(5, .int (nI (i36))), (4, .int (nI (zctz m))), (0, .ref (ad (0))), (1, .int (nI (m))), (2, .int (used)), (3, .int (sum))] [.ref (ad (32 + (i36))), .ref (ad (0))]
              refine V_cast X (C := RX7) rfl cl_X12_124 (R_recv hK (q := 32 + (i36)) (rlv (by omega)) (rCell_coat (by omega))) dX12_dress_71 ?_
              refine V_iload X dX12_dress_74 1 rfl ?_
              refine V_callV (rest := []) X E.room ml_X12_211 in_X12_waste (ci := 16) rfl se_X12_waste (R_recv hK (q := 0) (rlv (by omega)) rfl) (by omega) (by decide) (k_X12_waste hK (hI.mv hJ36) (i36) (zctz m) (by omega) (by omega) ⟨q9, hq9, ((hJ36 : rJ F G36) 11 _ (rsc_f (by omega))).trans eq9⟩) rfl rfl (Nat.le_of_ble_eq_true rfl) ⟨by omega, by omega⟩ dX12_dress_76 (fun _ _ h => False.elim h) (fun v76 σ' hp76 => ?_)
              obtain ⟨hp76, rfl⟩ := hp76
              obtain ⟨r13, rfl⟩ := hp76
              show V g κ 7 (0) (0) (t, rO g ad N S G36 σ0) 79 [(5, .int (nI (i36))), (4, .int (nI (zctz m))), (0, .ref (ad (0))), (1, .int (nI (m))), (2, .int (used)), (3, .int (sum))] [.int (r13)]
              refine V_istore X [(6, .int (r13)), (5, .int (nI (i36))), (4, .int (nI (zctz m))), (0, .ref (ad (0))), (1, .int (nI (m))), (2, .int (used)), (3, .int (sum))] dX12_dress_79 (by decide) rfl ?_
              refine V_iload X dX12_dress_81 0 rfl ?_
              refine V_iconst (v := (-1)) X dX12_dress_83 (by decide) ?_
              refine V_icmpeq X (tgt := 106) dX12_dress_84 (by decide) (fun h14 => ?_) (fun h14 => ?_)
              · -- 84 true
                refine V_iinc X (nI (i36 + 1)) [(5, .int (nI (i36 + 1))), (6, .int (r13)), (4, .int (nI (zctz m))), (0, .ref (ad (0))), (1, .int (nI (m))), (2, .int (used)), (3, .int (sum))] dX12_dress_106 1 rfl (zinc _) (by decide) rfl ?_
                refine V_goto (tgt := 36) X dX12_dress_109 (by decide) ?_
                exact V.sub [0, 2, 3, 4, 5, 6] rfl (ih36 _ (by omega) (i36 + 1) G36 rfl (by omega) hJ36)
              · -- 84 false
                refine V_aload_n X dX12_dress_87 3 rfl ?_
                refine V_iload_n X dX12_dress_88 4 rfl ?_
                refine V_iload_n X dX12_dress_89 4 rfl ?_
                refine V_iconst (v := nI 1) X dX12_dress_90 (by decide) ?_
                refine V_isubN X (by omega) dX12_dress_91 ?_
                refine V_iandN X dX12_dress_92 ?_
                refine V_iload_n X dX12_dress_93 5 rfl ?_
                refine V_iconst (v := nI 1) X dX12_dress_94 (by decide) ?_
                refine V_iload X dX12_dress_95 1 rfl ?_
                refine V_ishl1 X (by omega) dX12_dress_97 ?_
                refine V_ior X dX12_dress_98 (V.topi (fun w15 ew15 => ?_))
                refine V_iload_n X dX12_dress_99 6 rfl ?_
                refine V_iload X dX12_dress_100 0 rfl ?_
                refine V_iadd X dX12_dress_102 (V.topi (fun w16 ew16 => ?_))
                refine V_callV (rest := []) X E.room ml_X12_215 in_X12_dress (ci := 16) rfl se_X12_dress (R_recv hK (q := 0) (rlv (by omega)) rfl) (by omega) (by decide) (ihr (r - 1) (by omega) (hI.mv hJ36) (m &&& (m - 1)) y2 (by omega) (fun p h => by obtain ⟨u1, q, u2, u3⟩ := hc p (zsub h); exact ⟨u1, q, u2, ((hJ36 : rJ F G36) 11 _ (rsc_f (by omega))).trans u3⟩) (w15) (w16)) rfl rfl (Nat.le_of_ble_eq_true rfl) ⟨by omega, by omega⟩ dX12_dress_103 (fun _ _ h => False.elim h) (fun v103 σ' hp103 => ?_)
                obtain ⟨hp103, F17, rfl, hJF17⟩ := hp103
                have hKF17 : rJ F F17 := (hJ36 : rJ F G36).trans hJF17
                cases (hp103 : _ = none)
                show V g κ 7 (0) (0) (t, rO g ad N S F17 σ0) 106 [(6, .int (r13)), (5, .int (nI (i36))), (4, .int (nI (zctz m))), (0, .ref (ad (0))), (1, .int (nI (m))), (2, .int (used)), (3, .int (sum))] []
                refine V_iinc X (nI (i36 + 1)) [(5, .int (nI (i36 + 1))), (6, .int (r13)), (4, .int (nI (zctz m))), (0, .ref (ad (0))), (1, .int (nI (m))), (2, .int (used)), (3, .int (sum))] dX12_dress_106 1 rfl (zinc _) (by decide) rfl ?_
                refine V_goto (tgt := 36) X dX12_dress_109 (by decide) ?_
                exact V.sub [0, 2, 3, 4, 5, 6] rfl (ih36 _ (by omega) (i36 + 1) F17 rfl (by omega) hKF17)
      exact L36 _ (0) F rfl (by omega) rJ.rfl'
    · -- 18 false
      refine V_aload_n X dX12_dress_21 0 rfl ?_
      refine V_iload_n X dX12_dress_22 3 rfl ?_
      refine R_putf X fl_X12_205 zt_X12 hK (0) (rlv (by omega)) (by omega) rfl (Nat.le_of_ble_eq_true rfl) rfl rfl rfl rfl rfl dX12_dress_23 (fun F18 hF18 => ?_)
      have hJF18 := (rJ.rfl' : rJ F F).set hF18 (rsc_t (by omega))
      exact V_vret X E (by omega) (by omega) ⟨rfl, ⟨_, rfl, hJF18⟩⟩ dX12_dress_26
  · -- 5 false
    refine V_iload_n X dX12_dress_8 3 rfl ?_
    refine V_aload_n X dX12_dress_9 0 rfl ?_
    refine R_getf X fl_X12_205 hK (0) (rlv (by omega)) rfl rfl dX12_dress_10 (V.topi (fun x19 ex19 => ?_))
    refine V_icmplt X (tgt := 17) dX12_dress_13 (by decide) (fun h20 => ?_) (fun h20 => ?_)
    · -- 13 true
      refine V_iload_n X dX12_dress_17 1 rfl ?_
      refine V_ifneN X (by omega) (tgt := 27) dX12_dress_18 (by decide) (fun h21 => ?_) (fun h21 => ?_)
      · -- 18 true
        refine V_iload_n X dX12_dress_27 1 rfl ?_
        refine V_callS (rest := []) X E.room ml_X12_208 st_J6_numberOfTrailingZeros_0f7a4 (by omega) (by decide) (k_J6_numberOfTrailingZeros_0f7a4 (σ := (t, rO g ad N S F σ0)) m (by omega) (by assumption)) rfl rfl (Nat.le_of_ble_eq_true rfl) ⟨by omega, by omega⟩ dX12_dress_28 (fun _ _ h => False.elim h) (fun v28 σ' hp28 => ?_)
        obtain ⟨hp28, rfl⟩ := hp28
        cases (hp28 : _ = some (Value.int (nI (zctz m))))
        show V g κ 7 (0) (0) (t, rO g ad N S F σ0) 31 [(0, .ref (ad (0))), (1, .int (nI (m))), (2, .int (used)), (3, .int (sum))] [.int (nI (zctz m))]
        obtain ⟨y1, y2, y3, y4⟩ := zpc_low m hm (by assumption)
        obtain ⟨hz9, q9, hq9, eq9⟩ := hc _ y4
        refine V_istore X [(4, .int (nI (zctz m))), (0, .ref (ad (0))), (1, .int (nI (m))), (2, .int (used)), (3, .int (sum))] dX12_dress_31 (by decide) rfl ?_
        refine V_iconst (v := nI 0) X dX12_dress_33 (by decide) ?_
        refine V_istore X [(5, .int (nI (0))), (4, .int (nI (zctz m))), (0, .ref (ad (0))), (1, .int (nI (m))), (2, .int (used)), (3, .int (sum))] dX12_dress_34 (by decide) rfl ?_
        have L36 : ∀ (n36 : Nat) (i36 : Nat) (G36 : Nat → Nat → Int32), n36 = N 3 - i36 → i36 ≤ N 3 → rJ F G36 → V g κ 7 (0) (0) (t, rO g ad N S G36 σ0) 36 [(5, .int (nI (i36))), (4, .int (nI (zctz m))), (0, .ref (ad (0))), (1, .int (nI (m))), (2, .int (used)), (3, .int (sum))] [] := by
          intro n36
          induction n36 using Nat.strongRecOn with
          | ind n36 ih36 =>
            intro i36 G36 hn36 hi36 hJ36
            refine V_iload X dX12_dress_36 0 rfl ?_
            refine V_aload_n X dX12_dress_38 2 rfl ?_
            refine R_getf X fl_X12_22 hK (0) (rlv (by omega)) rfl rfl dX12_dress_39 ?_
            refine V_callV (rest := [.int (nI (i36))]) X E.room ml_X12_42 in_Jx4a65c_size_8abf5 (ci := 3) rfl se_Jx4a65c_size_8abf5 (rO_list hK (i := 3) (by decide)) (by omega) (by decide) (r_size hK 3 (by decide)) rfl rfl (Nat.le_of_ble_eq_true rfl) ⟨by omega, by omega⟩ dX12_dress_42 (fun _ _ h => False.elim h) (fun v22 σ' hp23 => ?_)
            obtain ⟨hp23, rfl⟩ := hp23
            cases (hp23 : _ = some (Value.int (nI (N 3))))
            show V g κ 7 (0) (0) (t, rO g ad N S G36 σ0) 45 [(5, .int (nI (i36))), (4, .int (nI (zctz m))), (0, .ref (ad (0))), (1, .int (nI (m))), (2, .int (used)), (3, .int (sum))] [.int (nI (N 3)), .int (nI (i36))]
            refine V_icmpgeN X (by omega) (by omega) (tgt := 112) dX12_dress_45 (by decide) (fun h24 => ?_) (fun h24 => ?_)
            · -- 45 true
              exact V_vret X E (by omega) (by omega) ⟨rfl, ⟨_, rfl, hJ36⟩⟩ dX12_dress_112
            · -- 45 false
              refine V_iload_n X dX12_dress_48 4 rfl ?_
              refine V_iload X dX12_dress_49 0 rfl ?_
              refine V_callS (rest := []) X E.room ml_X12_159 st_X12_isIn (by omega) (by decide) (k_X12_isIn (σ := (t, rO g ad N S G36 σ0)) (used) (nI (i36))) rfl rfl (Nat.le_of_ble_eq_true rfl) ⟨by omega, by omega⟩ dX12_dress_51 (fun _ _ h => False.elim h) (fun v51 σ' hp51 => ?_)
              obtain ⟨hp51, rfl⟩ := hp51
              rcases hp51 with ⟨rfl, z25⟩ | ⟨rfl, z25⟩
              · -- yes
                show V g κ 7 (0) (0) (t, rO g ad N S G36 σ0) 54 [(5, .int (nI (i36))), (4, .int (nI (zctz m))), (0, .ref (ad (0))), (1, .int (nI (m))), (2, .int (used)), (3, .int (sum))] [.int (nI (1))]
                refine V_ifeqN X (by omega) (tgt := 61) dX12_dress_54 (by decide) (fun h26 => absurd h26 (by omega)) (fun h26 => ?_)
                refine V_iconst (v := (-1)) X dX12_dress_57 (by decide) ?_
                refine V_goto (tgt := 79) X dX12_dress_58 (by decide) ?_
                refine V_istore X [(6, .int (-1)), (5, .int (nI (i36))), (4, .int (nI (zctz m))), (0, .ref (ad (0))), (1, .int (nI (m))), (2, .int (used)), (3, .int (sum))] dX12_dress_79 (by decide) rfl ?_
                refine V_iload X dX12_dress_81 0 rfl ?_
                refine V_iconst (v := (-1)) X dX12_dress_83 (by decide) ?_
                refine V_icmpeq X (tgt := 106) dX12_dress_84 (by decide) (fun h27 => ?_) (fun h27 => absurd h27 (not_not_intro rfl))
                refine V_iinc X (nI (i36 + 1)) [(5, .int (nI (i36 + 1))), (6, .int (-1)), (4, .int (nI (zctz m))), (0, .ref (ad (0))), (1, .int (nI (m))), (2, .int (used)), (3, .int (sum))] dX12_dress_106 1 rfl (zinc _) (by decide) rfl ?_
                refine V_goto (tgt := 36) X dX12_dress_109 (by decide) ?_
                exact V.sub [0, 2, 3, 4, 5, 6] rfl (ih36 _ (by omega) (i36 + 1) G36 rfl (by omega) hJ36)
              · -- no
                show V g κ 7 (0) (0) (t, rO g ad N S G36 σ0) 54 [(5, .int (nI (i36))), (4, .int (nI (zctz m))), (0, .ref (ad (0))), (1, .int (nI (m))), (2, .int (used)), (3, .int (sum))] [.int (nI (0))]
                refine V_ifeqN X (by omega) (tgt := 61) dX12_dress_54 (by decide) (fun h28 => ?_) (fun h28 => absurd h28 (by omega))
                refine V_aload_n X dX12_dress_61 2 rfl ?_
                refine V_aload_n X dX12_dress_62 2 rfl ?_
                refine R_getf X fl_X12_22 hK (0) (rlv (by omega)) rfl rfl dX12_dress_63 ?_
                refine V_iload X dX12_dress_66 0 rfl ?_
                refine V_callV (rest := [.ref (ad (0))]) X E.room ml_X12_97 in_Jx4a65c_get_915e3 (ci := 3) rfl se_Jx4a65c_get_915e3 (rO_list hK (i := 3) (by decide)) (by omega) (by decide) (r_get hK 3 (by decide) (j := i36) (by omega) (by omega)) rfl rfl (Nat.le_of_ble_eq_true rfl) ⟨by omega, by omega⟩ dX12_dress_68 (fun _ _ h => False.elim h) (fun v29 σ' hp30 => ?_)
                obtain ⟨hp30, rfl⟩ := hp30
                cases (hp30 : _ = some (Value.ref (ad (32 + (i36)))))
                show V g κ 7 (0) (0) (t, rO g ad N S G36 σ0) 71 [(5, .int (nI (i36))), (4, .int (nI (zctz m))), (0, .ref (ad (0))), (1, .int (nI (m))), (2, .int (used)), (3, .int (sum))] [.ref (ad (32 + (i36))), .ref (ad (0))]
                refine V_cast X (C := RX7) rfl cl_X12_124 (R_recv hK (q := 32 + (i36)) (rlv (by omega)) (rCell_coat (by omega))) dX12_dress_71 ?_
                refine V_iload X dX12_dress_74 1 rfl ?_
                refine V_callV (rest := []) X E.room ml_X12_211 in_X12_waste (ci := 16) rfl se_X12_waste (R_recv hK (q := 0) (rlv (by omega)) rfl) (by omega) (by decide) (k_X12_waste hK (hI.mv hJ36) (i36) (zctz m) (by omega) (by omega) ⟨q9, hq9, ((hJ36 : rJ F G36) 11 _ (rsc_f (by omega))).trans eq9⟩) rfl rfl (Nat.le_of_ble_eq_true rfl) ⟨by omega, by omega⟩ dX12_dress_76 (fun _ _ h => False.elim h) (fun v76 σ' hp76 => ?_)
                obtain ⟨hp76, rfl⟩ := hp76
                obtain ⟨r31, rfl⟩ := hp76
                show V g κ 7 (0) (0) (t, rO g ad N S G36 σ0) 79 [(5, .int (nI (i36))), (4, .int (nI (zctz m))), (0, .ref (ad (0))), (1, .int (nI (m))), (2, .int (used)), (3, .int (sum))] [.int (r31)]
                refine V_istore X [(6, .int (r31)), (5, .int (nI (i36))), (4, .int (nI (zctz m))), (0, .ref (ad (0))), (1, .int (nI (m))), (2, .int (used)), (3, .int (sum))] dX12_dress_79 (by decide) rfl ?_
                refine V_iload X dX12_dress_81 0 rfl ?_
                refine V_iconst (v := (-1)) X dX12_dress_83 (by decide) ?_
                refine V_icmpeq X (tgt := 106) dX12_dress_84 (by decide) (fun h32 => ?_) (fun h32 => ?_)
                · -- 84 true
                  refine V_iinc X (nI (i36 + 1)) [(5, .int (nI (i36 + 1))), (6, .int (r31)), (4, .int (nI (zctz m))), (0, .ref (ad (0))), (1, .int (nI (m))), (2, .int (used)), (3, .int (sum))] dX12_dress_106 1 rfl (zinc _) (by decide) rfl ?_
                  refine V_goto (tgt := 36) X dX12_dress_109 (by decide) ?_
                  exact V.sub [0, 2, 3, 4, 5, 6] rfl (ih36 _ (by omega) (i36 + 1) G36 rfl (by omega) hJ36)
                · -- 84 false
                  refine V_aload_n X dX12_dress_87 3 rfl ?_
                  refine V_iload_n X dX12_dress_88 4 rfl ?_
                  refine V_iload_n X dX12_dress_89 4 rfl ?_
                  refine V_iconst (v := nI 1) X dX12_dress_90 (by decide) ?_
                  refine V_isubN X (by omega) dX12_dress_91 ?_
                  refine V_iandN X dX12_dress_92 ?_
                  refine V_iload_n X dX12_dress_93 5 rfl ?_
                  refine V_iconst (v := nI 1) X dX12_dress_94 (by decide) ?_
                  refine V_iload X dX12_dress_95 1 rfl ?_
                  refine V_ishl1 X (by omega) dX12_dress_97 ?_
                  refine V_ior X dX12_dress_98 (V.topi (fun w33 ew33 => ?_))
                  refine V_iload_n X dX12_dress_99 6 rfl ?_
                  refine V_iload X dX12_dress_100 0 rfl ?_
                  refine V_iadd X dX12_dress_102 (V.topi (fun w34 ew34 => ?_))
                  refine V_callV (rest := []) X E.room ml_X12_215 in_X12_dress (ci := 16) rfl se_X12_dress (R_recv hK (q := 0) (rlv (by omega)) rfl) (by omega) (by decide) (ihr (r - 1) (by omega) (hI.mv hJ36) (m &&& (m - 1)) y2 (by omega) (fun p h => by obtain ⟨u1, q, u2, u3⟩ := hc p (zsub h); exact ⟨u1, q, u2, ((hJ36 : rJ F G36) 11 _ (rsc_f (by omega))).trans u3⟩) (w33) (w34)) rfl rfl (Nat.le_of_ble_eq_true rfl) ⟨by omega, by omega⟩ dX12_dress_103 (fun _ _ h => False.elim h) (fun v103 σ' hp103 => ?_)
                  obtain ⟨hp103, F35, rfl, hJF35⟩ := hp103
                  have hKF35 : rJ F F35 := (hJ36 : rJ F G36).trans hJF35
                  cases (hp103 : _ = none)
                  show V g κ 7 (0) (0) (t, rO g ad N S F35 σ0) 106 [(6, .int (r31)), (5, .int (nI (i36))), (4, .int (nI (zctz m))), (0, .ref (ad (0))), (1, .int (nI (m))), (2, .int (used)), (3, .int (sum))] []
                  refine V_iinc X (nI (i36 + 1)) [(5, .int (nI (i36 + 1))), (6, .int (r31)), (4, .int (nI (zctz m))), (0, .ref (ad (0))), (1, .int (nI (m))), (2, .int (used)), (3, .int (sum))] dX12_dress_106 1 rfl (zinc _) (by decide) rfl ?_
                  refine V_goto (tgt := 36) X dX12_dress_109 (by decide) ?_
                  exact V.sub [0, 2, 3, 4, 5, 6] rfl (ih36 _ (by omega) (i36 + 1) F35 rfl (by omega) hKF35)
        exact L36 _ (0) F rfl (by omega) rJ.rfl'
      · -- 18 false
        refine V_aload_n X dX12_dress_21 0 rfl ?_
        refine V_iload_n X dX12_dress_22 3 rfl ?_
        refine R_putf X fl_X12_205 zt_X12 hK (0) (rlv (by omega)) (by omega) rfl (Nat.le_of_ble_eq_true rfl) rfl rfl rfl rfl rfl dX12_dress_23 (fun F36 hF36 => ?_)
        have hJF36 := (rJ.rfl' : rJ F F).set hF36 (rsc_t (by omega))
        exact V_vret X E (by omega) (by omega) ⟨rfl, ⟨_, rfl, hJF36⟩⟩ dX12_dress_26
    · -- 13 false
      exact V_vret X E (by omega) (by omega) ⟨rfl, ⟨_, rfl, rJ.rfl'⟩⟩ dX12_dress_16
set_option maxRecDepth 100000 in
set_option maxHeartbeats 4000000 in
theorem k_X12_dressed {g : zG} {t : Nat × Nat} {ad N : Nat → Nat} {S : Int64} {σ0 : Nat → Option va_E} {F : Nat → Nat → Int32} (hK : rK g ad N) (hI : rI N F) (m s9 : Nat) (hs9 : s9 < N 2) (hm9 : m < 2 ^ N 0) (em : F (26 + s9) 0 = nI m) : Ct g 26 yX12_dressed cX12_dressed 2 (some FieldType.int) 0 0 [.ref (ad (0)), .int (nI (m))] (t, rO g ad N S F σ0) (qN pI g ad N S F σ0) zNo := by
  refine Ct.of (lv := [(0, .ref (ad (0))), (1, .int (nI (m)))]) (by decide) (Nat.le_of_ble_eq_true rfl) rfl ?_
  intro κ X E B _
  have X : zX g κ RX12 cX12_dressed 2 := X
  obtain ⟨b0, b1, b2, b3, b4⟩ := hI.bnd
  have hm7 : m < 128 := Nat.lt_of_lt_of_le hm9 (zp2 (n := 7) (by omega))
  refine V_aload_n X dX12_dressed_0 0 rfl ?_
  refine V_iconst (v := (-1)) X dX12_dressed_1 (by decide) ?_
  refine R_putf X fl_X12_205 zt_X12 hK (0) (rlv (by omega)) (by omega) rfl (Nat.le_of_ble_eq_true rfl) rfl rfl rfl rfl rfl dX12_dressed_2 (fun F1 hF1 => ?_)
  have hJF1 := (rM.rfl' : rM N F F).set hF1 (by omega)
  have hIF1 := hI.st hF1 (by omega)
  have eS : F1 (26 + s9) 0 = nI m := by rw [hF1, fset_ne (Or.inl (by omega))]; exact em
  refine V_aload_n X dX12_dressed_5 0 rfl ?_
  refine V_callV (rest := []) X E.room ml_X12_219 in_X12_isCast (ci := 16) rfl se_X12_isCast (R_recv hK (q := 0) (rlv (by omega)) rfl) (by omega) (by decide) (k_X12_isCast hK hIF1) rfl rfl (Nat.le_of_ble_eq_true rfl) ⟨by omega, by omega⟩ dX12_dressed_6 (fun _ _ h => False.elim h) (fun v6 σ' hp6 => ?_)
  obtain ⟨F2, rfl, hCF2, hIF2, hMF2, hZF2, hkF2, hp6⟩ := hp6
  have hKF2 : rM N F F2 := (hJF1 : rM N F F1).trans hMF2
  rcases hp6 with ⟨rfl, hn6, hc6⟩ | ⟨rfl, hn6⟩
  · -- a cast
    show V g κ 2 (0) (0) (t, rO g ad N S F2 σ0) 9 [(0, .ref (ad (0))), (1, .int (nI (m)))] [.int (nI (1))]
    refine V_ifeqN X (by omega) (tgt := 19) dX12_dressed_9 (by decide) (fun h3 => absurd h3 (by omega)) (fun h3 => ?_)
    refine V_aload_n X dX12_dressed_12 0 rfl ?_
    refine V_iload_n X dX12_dressed_13 1 rfl ?_
    refine V_iconst (v := nI 0) X dX12_dressed_14 (by decide) ?_
    refine V_iconst (v := nI 0) X dX12_dressed_15 (by decide) ?_
    refine V_callV (rest := []) X E.room ml_X12_215 in_X12_dress (ci := 16) rfl se_X12_dress (R_recv hK (q := 0) (rlv (by omega)) rfl) (by omega) (by decide) (k_X12_dress hK 7 hIF2 (m) (by omega) (zpc_7 _ (by omega)) (fun p h => ⟨tb_lt (Nat.lt_of_lt_of_le hm9 (Nat.le_refl _)) h, hc6.2 s9 hs9 _ (by omega) ((hCF2 (26 + s9) 0 (by omega) (rsc_f (by omega)) (Or.inl (by omega))).trans eS) p h⟩) (nI (0)) (nI (0))) rfl rfl (Nat.le_of_ble_eq_true rfl) ⟨by omega, by omega⟩ dX12_dressed_16 (fun _ _ h => False.elim h) (fun v16 σ' hp16 => ?_)
    obtain ⟨hp16, F4, rfl, hJF4⟩ := hp16
    have hIF4 := hIF2.mv hJF4
    have hKF4 : rM N F F4 := (hKF2 : rM N F F2).trans hJF4.m
    cases (hp16 : _ = none)
    show V g κ 2 (0) (0) (t, rO g ad N S F4 σ0) 19 [(0, .ref (ad (0))), (1, .int (nI (m)))] []
    refine V_aload_n X dX12_dressed_19 0 rfl ?_
    refine R_getf X fl_X12_205 hK (0) (rlv (by omega)) rfl rfl dX12_dressed_20 (V.topi (fun x5 ex5 => ?_))
    exact V_iret X E (by omega) (by omega) ⟨⟨_, rfl⟩, ⟨_, _, rfl, hKF4, hIF4⟩⟩ dX12_dressed_23
  · -- none
    show V g κ 2 (0) (0) (t, rO g ad N S F2 σ0) 9 [(0, .ref (ad (0))), (1, .int (nI (m)))] [.int (nI (0))]
    refine V_ifeqN X (by omega) (tgt := 19) dX12_dressed_9 (by decide) (fun h6 => ?_) (fun h6 => absurd h6 (by omega))
    refine V_aload_n X dX12_dressed_19 0 rfl ?_
    refine R_getf X fl_X12_205 hK (0) (rlv (by omega)) rfl rfl dX12_dressed_20 (V.topi (fun x7 ex7 => ?_))
    exact V_iret X E (by omega) (by omega) ⟨⟨_, rfl⟩, ⟨_, _, rfl, hKF2, hIF2⟩⟩ dX12_dressed_23
set_option maxRecDepth 100000 in
set_option maxHeartbeats 4000000 in
theorem k_X12_partsWith {g : zG} {t : Nat × Nat} {ad N : Nat → Nat} {S : Int64} {σ0 : Nat → Option va_E} {F : Nat → Nat → Int32} (hK : rK g ad N) (hI : rI N F) (i : Nat) (hi : i < N 1) (hKn : rKn N F) (b : Int32) (h : Nat → Nat) (hb : rBs N F b h) : Ct g 26 yX12_partsWith cX12_partsWith 4 (some FieldType.int) 0 0 [.ref (ad (0)), .int (nI (i))] (t, rO g ad N S F σ0) (fun v σ' => ∃ x : Int32, v = some (.int x) ∧ zMk x (fun q => ¬ b = -1 ∧ rDu N F q ∧ h q = i) ∧ ∃ (t' : Nat × Nat) (F' : Nat → Nat → Int32), σ' = (t', rO g ad N S F' σ0) ∧ rM N F F' ∧ rI N F' ∧ F' 0 0 = F 0 0) zNo := by
  refine Ct.of (lv := [(0, .ref (ad (0))), (1, .int (nI (i)))]) (by decide) (Nat.le_of_ble_eq_true rfl) rfl ?_
  intro κ X E B _
  have X : zX g κ RX12 cX12_partsWith 4 := X
  obtain ⟨b0, b1, b2, b3, b4⟩ := hI.bnd
  refine V_iconst (v := nI 0) X dX12_partsWith_0 (by decide) ?_
  refine V_istore_n X [(2, .int (nI (0))), (0, .ref (ad (0))), (1, .int (nI (i)))] dX12_partsWith_1 (by decide) rfl ?_
  refine V_iconst (v := nI 0) X dX12_partsWith_2 (by decide) ?_
  refine V_istore_n X [(3, .int (nI (0))), (2, .int (nI (0))), (0, .ref (ad (0))), (1, .int (nI (i)))] dX12_partsWith_3 (by decide) rfl ?_
  have L4 : ∀ (n4 : Nat) (i4 : Nat) (x4_2 : Int32) (G4 : Nat → Nat → Int32) (t4 : Nat × Nat), n4 = N 0 - i4 → i4 ≤ N 0 → rM N F G4 → rI N G4 → (zMk x4_2 (fun q => q < i4 ∧ ¬ b = -1 ∧ rDu N F q ∧ h q = i)) → (G4 0 0 = F 0 0) → V g κ 4 (0) (0) (t4, rO g ad N S G4 σ0) 4 [(3, .int (nI (i4))), (2, .int (x4_2)), (0, .ref (ad (0))), (1, .int (nI (i)))] [] := by
    intro n4
    induction n4 using Nat.strongRecOn with
    | ind n4 ih4 =>
      intro i4 x4_2 G4 t4 hn4 hi4 hJ4 hI4 hv4_0 hv4_1
      refine V_iload_n X dX12_partsWith_4 0 rfl ?_
      refine V_aload_n X dX12_partsWith_5 2 rfl ?_
      refine R_getf X fl_X12_10 hK (0) (rlv (by omega)) rfl rfl dX12_partsWith_6 ?_
      refine V_callV (rest := [.int (nI (i4))]) X E.room ml_X12_42 in_Jx4a65c_size_8abf5 (ci := 3) rfl se_Jx4a65c_size_8abf5 (rO_list hK (i := 0) (by decide)) (by omega) (by decide) (r_size hK 0 (by decide)) rfl rfl (Nat.le_of_ble_eq_true rfl) ⟨by omega, by omega⟩ dX12_partsWith_9 (fun _ _ h => False.elim h) (fun v1 σ' hp2 => ?_)
      obtain ⟨hp2, rfl⟩ := hp2
      cases (hp2 : _ = some (Value.int (nI (N 0))))
      show V g κ 4 (0) (0) (t4, rO g ad N S G4 σ0) 12 [(3, .int (nI (i4))), (2, .int (x4_2)), (0, .ref (ad (0))), (1, .int (nI (i)))] [.int (nI (N 0)), .int (nI (i4))]
      refine V_icmpgeN X (by omega) (by omega) (tgt := 48) dX12_partsWith_12 (by decide) (fun h3 => ?_) (fun h3 => ?_)
      · -- 12 true
        refine V_iload_n X dX12_partsWith_48 1 rfl ?_
        exact V_iret X E (by omega) (by omega) ⟨_, rfl, (hv4_0.cg (fun q => ⟨fun y => y.2, fun y => ⟨by have := rDu_lt hI y.2.1; omega, y⟩⟩)), _, _, rfl, hJ4, hI4, hv4_1⟩ dX12_partsWith_49
      · -- 12 false
        refine V_aload_n X dX12_partsWith_15 2 rfl ?_
        refine V_callV (rest := []) X E.room ml_X12_219 in_X12_isCast (ci := 16) rfl se_X12_isCast (R_recv hK (q := 0) (rlv (by omega)) rfl) (by omega) (by decide) (k_X12_isCast hK hI4) rfl rfl (Nat.le_of_ble_eq_true rfl) ⟨by omega, by omega⟩ dX12_partsWith_16 (fun _ _ h => False.elim h) (fun v16 σ' hp16 => ?_)
        obtain ⟨F4, rfl, hCF4, hIF4, hMF4, hZF4, hkF4, hp16⟩ := hp16
        have hKF4 : rM N F F4 := (hJ4 : rM N F G4).trans hMF4
        have hyF4 : F4 0 0 = F 0 0 := hZF4.trans hv4_1
        obtain ⟨ebF4, hrF4⟩ := rBest_at hKn hKF4 hkF4 hb
        rcases hp16 with ⟨rfl, hn16, hc16⟩ | ⟨rfl, hn16⟩
        · -- a cast
          show V g κ 4 (0) (0) (t4, rO g ad N S F4 σ0) 19 [(3, .int (nI (i4))), (2, .int (x4_2)), (0, .ref (ad (0))), (1, .int (nI (i)))] [.int (nI (1))]
          refine V_ifeqN X (by omega) (tgt := 48) dX12_partsWith_19 (by decide) (fun h5 => absurd h5 (by omega)) (fun h5 => ?_)
          refine V_iload_n X dX12_partsWith_22 1 rfl ?_
          refine V_aload_n X dX12_partsWith_23 2 rfl ?_
          refine R_getf X fl_X12_28 hK (0) (rlv (by omega)) rfl rfl dX12_partsWith_24 ?_
          refine V_iload_n X dX12_partsWith_27 0 rfl ?_
          refine R_iald X hK (11) (by omega) (i4) rfl (by omega) dX12_partsWith_28 ?_
          refine V.topi (fun x6 ex6 => ?_)
          refine V_iload_n X dX12_partsWith_29 3 rfl ?_
          refine V_icmpne X (tgt := 39) dX12_partsWith_30 (by decide) (fun h7 => ?_) (fun h7 => ?_)
          · -- 30 true
            refine V_iconst (v := nI 0) X dX12_partsWith_39 (by decide) ?_
            refine V_ior X dX12_partsWith_40 (V.topi (fun w8 ew8 => ?_))
            refine V_istore_n X [(2, .int (w8)), (3, .int (nI (i4))), (0, .ref (ad (0))), (1, .int (nI (i)))] dX12_partsWith_41 (by decide) rfl ?_
            refine V_iinc X (nI (i4 + 1)) [(3, .int (nI (i4 + 1))), (2, .int (w8)), (0, .ref (ad (0))), (1, .int (nI (i)))] dX12_partsWith_42 1 rfl (zinc _) (by decide) rfl ?_
            refine V_goto (tgt := 4) X dX12_partsWith_45 (by decide) ?_
            exact V.sub [0, 1, 2, 3] rfl (ih4 _ (by omega) (i4 + 1) (w8) F4 (t4) rfl (by omega) hKF4 hIF4 (by rw [ew8, zor0]; exact abl_no hv4_0 (fun z => h7 (ex6.trans (((rAt_iff (fun z y => hb.lt5 (fun _ q => q.1) z y) hI.bnd.2.1 (fun z => hn16 (ebF4.trans z)) hi (hrF4 (fun z => hn16 (ebF4.trans z)) i4 (by omega)))).mpr z)))) (hyF4))
          · -- 30 false
            refine V_iconst (v := nI 1) X dX12_partsWith_33 (by decide) ?_
            refine V_iload_n X dX12_partsWith_34 0 rfl ?_
            refine V_ishl1 X (by omega) dX12_partsWith_35 ?_
            refine V_goto (tgt := 40) X dX12_partsWith_36 (by decide) ?_
            refine V_ior X dX12_partsWith_40 (V.topi (fun w9 ew9 => ?_))
            refine V_istore_n X [(2, .int (w9)), (3, .int (nI (i4))), (0, .ref (ad (0))), (1, .int (nI (i)))] dX12_partsWith_41 (by decide) rfl ?_
            refine V_iinc X (nI (i4 + 1)) [(3, .int (nI (i4 + 1))), (2, .int (w9)), (0, .ref (ad (0))), (1, .int (nI (i)))] dX12_partsWith_42 1 rfl (zinc _) (by decide) rfl ?_
            refine V_goto (tgt := 4) X dX12_partsWith_45 (by decide) ?_
            exact V.sub [0, 1, 2, 3] rfl (ih4 _ (by omega) (i4 + 1) (w9) F4 (t4) rfl (by omega) hKF4 hIF4 (by rw [ew9]; exact abl_yes hv4_0 (((rAt_iff (fun z y => hb.lt5 (fun _ q => q.1) z y) hI.bnd.2.1 (fun z => hn16 (ebF4.trans z)) hi (hrF4 (fun z => hn16 (ebF4.trans z)) i4 (by omega)))).mp (ex6.symm.trans h7)) (by omega)) (hyF4))
        · -- none
          show V g κ 4 (0) (0) (t4, rO g ad N S F4 σ0) 19 [(3, .int (nI (i4))), (2, .int (x4_2)), (0, .ref (ad (0))), (1, .int (nI (i)))] [.int (nI (0))]
          refine V_ifeqN X (by omega) (tgt := 48) dX12_partsWith_19 (by decide) (fun h10 => ?_) (fun h10 => absurd h10 (by omega))
          refine V_iload_n X dX12_partsWith_48 1 rfl ?_
          exact V_iret X E (by omega) (by omega) ⟨_, rfl, (hv4_0.cg (fun q => ⟨fun y => absurd (ebF4.symm.trans hn16) y.2.1, fun y => absurd (ebF4.symm.trans hn16) y.1⟩)), _, _, rfl, hKF4, hIF4, hyF4⟩ dX12_partsWith_49
  exact L4 _ (0) (nI (0)) F (t) rfl (by omega) rM.rfl' hI (abl_0 (P := fun q => ¬ b = -1 ∧ rDu N F q ∧ h q = i)) (rfl)
set_option maxRecDepth 100000 in
set_option maxHeartbeats 4000000 in
theorem k_X12_shares {g : zG} {t : Nat × Nat} {ad N : Nat → Nat} {S : Int64} {σ0 : Nat → Option va_E} {F : Nat → Nat → Int32} (hK : rK g ad N) (hI : rI N F)  (hKn : rKn N F) (b : Int32) (h : Nat → Nat) (hb : rBs N F b h) : Ct g 27 yX12_shares cX12_shares 3 (some FieldType.int) 0 0 [.ref (ad (0))] (t, rO g ad N S F σ0) (fun v σ' => ∃ x : Int32, v = some (.int x) ∧ x = zss (fun i => F (21 + i) 2) (zAc (rDu N F) b h) (N 1) ∧ ∃ (t' : Nat × Nat) (F' : Nat → Nat → Int32), σ' = (t', rO g ad N S F' σ0) ∧ rM N F F' ∧ rI N F' ∧ F' 0 0 = F 0 0) zNo := by
  refine Ct.of (lv := [(0, .ref (ad (0)))]) (by decide) (Nat.le_of_ble_eq_true rfl) rfl ?_
  intro κ X E B _
  have X : zX g κ RX12 cX12_shares 3 := X
  obtain ⟨b0, b1, b2, b3, b4⟩ := hI.bnd
  refine V_iconst (v := nI 0) X dX12_shares_0 (by decide) ?_
  refine V_istore_n X [(1, .int (nI (0))), (0, .ref (ad (0)))] dX12_shares_1 (by decide) rfl ?_
  refine V_iconst (v := nI 0) X dX12_shares_2 (by decide) ?_
  refine V_istore_n X [(2, .int (nI (0))), (1, .int (nI (0))), (0, .ref (ad (0)))] dX12_shares_3 (by decide) rfl ?_
  have L4 : ∀ (n4 : Nat) (i4 : Nat) (x4_1 : Int32) (G4 : Nat → Nat → Int32) (t4 : Nat × Nat), n4 = N 1 - i4 → i4 ≤ N 1 → rM N F G4 → rI N G4 → (x4_1 = zss (fun i => F (21 + i) 2) (zAc (rDu N F) b h) i4) → (G4 0 0 = F 0 0) → V g κ 3 (0) (0) (t4, rO g ad N S G4 σ0) 4 [(2, .int (nI (i4))), (1, .int (x4_1)), (0, .ref (ad (0)))] [] := by
    intro n4
    induction n4 using Nat.strongRecOn with
    | ind n4 ih4 =>
      intro i4 x4_1 G4 t4 hn4 hi4 hJ4 hI4 hv4_0 hv4_1
      refine V_iload_n X dX12_shares_4 0 rfl ?_
      refine V_aload_n X dX12_shares_5 2 rfl ?_
      refine R_getf X fl_X12_16 hK (0) (rlv (by omega)) rfl rfl dX12_shares_6 ?_
      refine V_callV (rest := [.int (nI (i4))]) X E.room ml_X12_42 in_Jx4a65c_size_8abf5 (ci := 3) rfl se_Jx4a65c_size_8abf5 (rO_list hK (i := 1) (by decide)) (by omega) (by decide) (r_size hK 1 (by decide)) rfl rfl (Nat.le_of_ble_eq_true rfl) ⟨by omega, by omega⟩ dX12_shares_9 (fun _ _ h => False.elim h) (fun v1 σ' hp2 => ?_)
      obtain ⟨hp2, rfl⟩ := hp2
      cases (hp2 : _ = some (Value.int (nI (N 1))))
      show V g κ 3 (0) (0) (t4, rO g ad N S G4 σ0) 12 [(2, .int (nI (i4))), (1, .int (x4_1)), (0, .ref (ad (0)))] [.int (nI (N 1)), .int (nI (i4))]
      refine V_icmpgeN X (by omega) (by omega) (tgt := 50) dX12_shares_12 (by decide) (fun h3 => ?_) (fun h3 => ?_)
      · -- 12 true
        refine V_iload_n X dX12_shares_50 1 rfl ?_
        exact V_iret X E (by omega) (by omega) ⟨_, rfl, by rw [← show i4 = N 1 by omega]; exact hv4_0, _, _, rfl, hJ4, hI4, hv4_1⟩ dX12_shares_51
      · -- 12 false
        refine V_iload_n X dX12_shares_15 1 rfl ?_
        refine V_aload_n X dX12_shares_16 2 rfl ?_
        refine V_iload_n X dX12_shares_17 0 rfl ?_
        refine V_callV (rest := [.int (x4_1)]) X E.room ml_X12_222 in_X12_partsWith (ci := 16) rfl se_X12_partsWith (R_recv hK (q := 0) (rlv (by omega)) rfl) (by omega) (by decide) (k_X12_partsWith hK hI4 (i4) (by omega) (hJ4.2 hKn) b h (rBs_M hJ4 hI hb)) rfl rfl (Nat.le_of_ble_eq_true rfl) ⟨by omega, by omega⟩ dX12_shares_18 (fun _ _ h => False.elim h) (fun v18 σ' hp18 => ?_)
        obtain ⟨r4, rfl, fr4, t6, F5, rfl, hMF5, hIF5, hZF5⟩ := hp18
        have hKF5 : rM N F F5 := (hJ4 : rM N F G4).trans hMF5
        have hyF5 : F5 0 0 = F 0 0 := hZF5.trans hv4_1
        show V g κ 3 (0) (0) (t6, rO g ad N S F5 σ0) 21 [(2, .int (nI (i4))), (1, .int (x4_1)), (0, .ref (ad (0)))] [.int (r4), .int (x4_1)]
        refine V_ifeq X (tgt := 41) dX12_shares_21 (by decide) (fun h7 => ?_) (fun h7 => ?_)
        · -- 21 true
          have za8 : ¬ zAc (rDu N F) b h (i4) := fun q => ((zAc_iff fr4).trans (zAc_M hJ4 hI)).mpr q h7
          refine V_iconst (v := nI 0) X dX12_shares_41 (by decide) ?_
          refine V_iadd X dX12_shares_42 (V.topi (fun w9 ew9 => ?_))
          refine V_istore_n X [(1, .int (w9)), (2, .int (nI (i4))), (0, .ref (ad (0)))] dX12_shares_43 (by decide) rfl ?_
          refine V_iinc X (nI (i4 + 1)) [(2, .int (nI (i4 + 1))), (1, .int (w9)), (0, .ref (ad (0)))] dX12_shares_44 1 rfl (zinc _) (by decide) rfl ?_
          refine V_goto (tgt := 4) X dX12_shares_47 (by decide) ?_
          exact V.sub [0, 1, 2] rfl (ih4 _ (by omega) (i4 + 1) (w9) F5 (t6) rfl (by omega) hKF5 hIF5 (by rw [ew9, hv4_0, zadd0]; exact zss_0 rfl za8) (hyF5))
        · -- 21 false
          have za10 : zAc (rDu N F) b h (i4) := ((zAc_iff fr4).trans (zAc_M hJ4 hI)).mp h7
          refine V_aload_n X dX12_shares_24 2 rfl ?_
          refine R_getf X fl_X12_16 hK (0) (rlv (by omega)) rfl rfl dX12_shares_25 ?_
          refine V_iload_n X dX12_shares_28 0 rfl ?_
          refine V_callV (rest := [.int (x4_1)]) X E.room ml_X12_97 in_Jx4a65c_get_915e3 (ci := 3) rfl se_Jx4a65c_get_915e3 (rO_list hK (i := 1) (by decide)) (by omega) (by decide) (r_get hK 1 (by decide) (j := i4) (by omega) (by omega)) rfl rfl (Nat.le_of_ble_eq_true rfl) ⟨by omega, by omega⟩ dX12_shares_29 (fun _ _ h => False.elim h) (fun v11 σ' hp12 => ?_)
          obtain ⟨hp12, rfl⟩ := hp12
          cases (hp12 : _ = some (Value.ref (ad (21 + (i4)))))
          show V g κ 3 (0) (0) (t6, rO g ad N S F5 σ0) 32 [(2, .int (nI (i4))), (1, .int (x4_1)), (0, .ref (ad (0)))] [.ref (ad (21 + (i4))), .int (x4_1)]
          refine V_cast X (C := RX9) rfl cl_X12_74 (R_recv hK (q := 21 + (i4)) (rlv (by omega)) (rCell_player (by omega))) dX12_shares_32 ?_
          refine R_getf X fl_X12_82 hK (21 + (i4)) (rlv (by omega)) (rCell_player (by omega)) rfl dX12_shares_35 (V.topi (fun x13 ex13 => ?_))
          have tx13 : x13 = F (21 + (i4)) 2 := ex13.trans ((hKF5 : rM N F F5).1 _ _ (Or.inl ⟨by omega, by omega⟩))
          refine V_goto (tgt := 42) X dX12_shares_38 (by decide) ?_
          refine V_iadd X dX12_shares_42 (V.topi (fun w14 ew14 => ?_))
          refine V_istore_n X [(1, .int (w14)), (2, .int (nI (i4))), (0, .ref (ad (0)))] dX12_shares_43 (by decide) rfl ?_
          refine V_iinc X (nI (i4 + 1)) [(2, .int (nI (i4 + 1))), (1, .int (w14)), (0, .ref (ad (0)))] dX12_shares_44 1 rfl (zinc _) (by decide) rfl ?_
          refine V_goto (tgt := 4) X dX12_shares_47 (by decide) ?_
          exact V.sub [0, 1, 2] rfl (ih4 _ (by omega) (i4 + 1) (w14) F5 (t6) rfl (by omega) hKF5 hIF5 (zss_1 hv4_0 za10 ew14 tx13) (hyF5))
  exact L4 _ (0) (nI (0)) F (t) rfl (by omega) rM.rfl' hI (rfl) (rfl)
set_option maxRecDepth 100000 in
set_option maxHeartbeats 4000000 in
theorem k_X12_shareNow {g : zG} {t : Nat × Nat} {ad N : Nat → Nat} {S : Int64} {σ0 : Nat → Option va_E} {F : Nat → Nat → Int32} (hK : rK g ad N) (hI : rI N F) (a1 : Int32) (p : Nat) (hp : p < N 1) (hKn : rKn N F) (b : Int32) (h : Nat → Nat) (hb : rBs N F b h) : Ct g 28 yX12_shareNow cX12_shareNow 9 (some FieldType.int) 0 0 [.ref (ad (0)), .int (a1), .int (nI (p))] (t, rO g ad N S F σ0) (fun v σ' => ∃ x : Int32, v = some (.int x) ∧ x = zPo (fun i => F (21 + i) 2) (zAc (rDu N F) b h) (N 1) a1 p ∧ ∃ (t' : Nat × Nat) (F' : Nat → Nat → Int32), σ' = (t', rO g ad N S F' σ0) ∧ rM N F F' ∧ rI N F' ∧ F' 0 0 = F 0 0) zNo := by
  refine Ct.of (lv := [(0, .ref (ad (0))), (1, .int (a1)), (2, .int (nI (p)))]) (by decide) (Nat.le_of_ble_eq_true rfl) rfl ?_
  intro κ X E B _
  have X : zX g κ RX12 cX12_shareNow 9 := X
  obtain ⟨b0, b1, b2, b3, b4⟩ := hI.bnd
  refine V_aload_n X dX12_shareNow_0 0 rfl ?_
  refine V_callV (rest := []) X E.room ml_X12_225 in_X12_shares (ci := 16) rfl se_X12_shares (R_recv hK (q := 0) (rlv (by omega)) rfl) (by omega) (by decide) (k_X12_shares hK hI hKn b h hb) rfl rfl (Nat.le_of_ble_eq_true rfl) ⟨by omega, by omega⟩ dX12_shareNow_1 (fun _ _ h => False.elim h) (fun v1 σ' hp1 => ?_)
  obtain ⟨r1, rfl, fr1, t3, F2, rfl, hMF2, hIF2, hZF2⟩ := hp1
  have hKF2 : rM N F F2 := (rM.rfl' : rM N F F).trans hMF2
  have hyF2 : F2 0 0 = F 0 0 := hZF2.trans rfl
  show V g κ 9 (0) (0) (t3, rO g ad N S F2 σ0) 4 [(0, .ref (ad (0))), (1, .int (a1)), (2, .int (nI (p)))] [.int (r1)]
  refine V_istore_n X [(3, .int (r1)), (0, .ref (ad (0))), (1, .int (a1)), (2, .int (nI (p)))] dX12_shareNow_4 (by decide) rfl ?_
  have eA : r1 = (zss (fun i => F (21 + i) 2) (zAc (rDu N F) b h) (N 1)) := fr1
  refine V_iload_n X dX12_shareNow_5 0 rfl ?_
  refine V_ifeq X (tgt := 17) dX12_shareNow_6 (by decide) (fun h4 => ?_) (fun h4 => ?_)
  · -- 6 true
    refine V_iconst (v := nI 0) X dX12_shareNow_17 (by decide) ?_
    exact V_iret X E (by omega) (by omega) ⟨_, rfl, (mite_1 (Or.inl (by rw [← eA]; exact h4))).symm, _, _, rfl, hKF2, hIF2, hyF2⟩ dX12_shareNow_18
  · -- 6 false
    refine V_aload_n X dX12_shareNow_9 1 rfl ?_
    refine V_iload_n X dX12_shareNow_10 3 rfl ?_
    refine V_callV (rest := []) X E.room ml_X12_222 in_X12_partsWith (ci := 16) rfl se_X12_partsWith (R_recv hK (q := 0) (rlv (by omega)) rfl) (by omega) (by decide) (k_X12_partsWith hK hIF2 (p) (by omega) (hKF2.2 hKn) b h (rBs_M hKF2 hI hb)) rfl rfl (Nat.le_of_ble_eq_true rfl) ⟨by omega, by omega⟩ dX12_shareNow_11 (fun _ _ h => False.elim h) (fun v11 σ' hp11 => ?_)
    obtain ⟨r5, rfl, fr5, t7, F6, rfl, hMF6, hIF6, hZF6⟩ := hp11
    have hKF6 : rM N F F6 := (hKF2 : rM N F F2).trans hMF6
    have hyF6 : F6 0 0 = F 0 0 := hZF6.trans hyF2
    show V g κ 9 (0) (0) (t7, rO g ad N S F6 σ0) 14 [(3, .int (r1)), (0, .ref (ad (0))), (1, .int (a1)), (2, .int (nI (p)))] [.int (r5)]
    refine V_ifne X (tgt := 19) dX12_shareNow_14 (by decide) (fun h8 => ?_) (fun h8 => ?_)
    · -- 14 true
      have za9 : zAc (rDu N F) b h (p) := ((zAc_iff fr5).trans (zAc_M hKF2 hI)).mp h8
      refine V_iload_n X dX12_shareNow_19 2 rfl ?_
      refine V_istore X [(4, .int (a1)), (3, .int (r1)), (0, .ref (ad (0))), (1, .int (a1)), (2, .int (nI (p)))] dX12_shareNow_20 (by decide) rfl ?_
      refine V_iconst (v := nI 0) X dX12_shareNow_22 (by decide) ?_
      refine V_istore X [(5, .int (nI (0))), (4, .int (a1)), (3, .int (r1)), (0, .ref (ad (0))), (1, .int (a1)), (2, .int (nI (p)))] dX12_shareNow_23 (by decide) rfl ?_
      refine V_iload_n X dX12_shareNow_25 4 rfl ?_
      refine V_aload_n X dX12_shareNow_26 3 rfl ?_
      refine R_getf X fl_X12_16 hK (0) (rlv (by omega)) rfl rfl dX12_shareNow_27 ?_
      refine V_iload_n X dX12_shareNow_30 5 rfl ?_
      refine V_callV (rest := [.int (a1)]) X E.room ml_X12_97 in_Jx4a65c_get_915e3 (ci := 3) rfl se_Jx4a65c_get_915e3 (rO_list hK (i := 1) (by decide)) (by omega) (by decide) (r_get hK 1 (by decide) (j := p) (by omega) (by omega)) rfl rfl (Nat.le_of_ble_eq_true rfl) ⟨by omega, by omega⟩ dX12_shareNow_31 (fun _ _ h => False.elim h) (fun v10 σ' hp11 => ?_)
      obtain ⟨hp11, rfl⟩ := hp11
      cases (hp11 : _ = some (Value.ref (ad (21 + (p)))))
      show V g κ 9 (0) (0) (t7, rO g ad N S F6 σ0) 34 [(5, .int (nI (0))), (4, .int (a1)), (3, .int (r1)), (0, .ref (ad (0))), (1, .int (a1)), (2, .int (nI (p)))] [.ref (ad (21 + (p))), .int (a1)]
      refine V_cast X (C := RX9) rfl cl_X12_74 (R_recv hK (q := 21 + (p)) (rlv (by omega)) (rCell_player (by omega))) dX12_shareNow_34 ?_
      refine R_getf X fl_X12_82 hK (21 + (p)) (rlv (by omega)) (rCell_player (by omega)) rfl dX12_shareNow_37 (V.topi (fun x12 ex12 => ?_))
      have tx12 : x12 = F (21 + (p)) 2 := ex12.trans ((hKF6 : rM N F F6).1 _ _ (Or.inl ⟨by omega, by omega⟩))
      refine V_imul X dX12_shareNow_40 (V.topi (fun w13 ew13 => ?_))
      refine V_iload_n X dX12_shareNow_41 2 rfl ?_
      refine V_irem X (by assumption) dX12_shareNow_42 (V.topi (fun w14 ew14 => ?_))
      refine V_istore X [(6, .int (w14)), (5, .int (nI (0))), (4, .int (a1)), (3, .int (r1)), (0, .ref (ad (0))), (1, .int (a1)), (2, .int (nI (p)))] dX12_shareNow_43 (by decide) rfl ?_
      have hr6 : w14 = (zrst (a1 * F (21 + p) 2) (zss (fun i => F (21 + i) 2) (zAc (rDu N F) b h) (N 1))) := by rw [ew14, ew13, tx12, eA]; rfl
      refine V_iconst (v := nI 0) X dX12_shareNow_45 (by decide) ?_
      refine V_istore X [(7, .int (nI (0))), (6, .int (w14)), (5, .int (nI (0))), (4, .int (a1)), (3, .int (r1)), (0, .ref (ad (0))), (1, .int (a1)), (2, .int (nI (p)))] dX12_shareNow_46 (by decide) rfl ?_
      have L48 : ∀ (n48 : Nat) (i48 : Nat) (y48_5 : Nat) (x48_4 : Int32) (G48 : Nat → Nat → Int32) (t48 : Nat × Nat), n48 = N 1 - i48 → i48 ≤ N 1 → rM N F G48 → rI N G48 → y48_5 = zAh (fun i => F (21 + i) 2) (zAc (rDu N F) b h) (zss (fun i => F (21 + i) 2) (zAc (rDu N F) b h) (N 1)) a1 (zrst (a1 * F (21 + p) 2) (zss (fun i => F (21 + i) 2) (zAc (rDu N F) b h) (N 1))) p i48 → (x48_4 = zLe (fun i => F (21 + i) 2) (zAc (rDu N F) b h) (zss (fun i => F (21 + i) 2) (zAc (rDu N F) b h) (N 1)) a1 i48) → (G48 0 0 = F 0 0) → V g κ 9 (0) (0) (t48, rO g ad N S G48 σ0) 48 [(7, .int (nI (i48))), (6, .int (w14)), (5, .int (nI (y48_5))), (4, .int (x48_4)), (3, .int (r1)), (0, .ref (ad (0))), (1, .int (a1)), (2, .int (nI (p)))] [] := by
        intro n48
        induction n48 using Nat.strongRecOn with
        | ind n48 ih48 =>
          intro i48 y48_5 x48_4 G48 t48 hn48 hi48 hJ48 hI48 hy48_5 hv48_0 hv48_1
          refine V_iload X dX12_shareNow_48 0 rfl ?_
          refine V_aload_n X dX12_shareNow_50 5 rfl ?_
          refine R_getf X fl_X12_16 hK (0) (rlv (by omega)) rfl rfl dX12_shareNow_51 ?_
          refine V_callV (rest := [.int (nI (i48))]) X E.room ml_X12_42 in_Jx4a65c_size_8abf5 (ci := 3) rfl se_Jx4a65c_size_8abf5 (rO_list hK (i := 1) (by decide)) (by omega) (by decide) (r_size hK 1 (by decide)) rfl rfl (Nat.le_of_ble_eq_true rfl) ⟨by omega, by omega⟩ dX12_shareNow_54 (fun _ _ h => False.elim h) (fun v15 σ' hp16 => ?_)
          obtain ⟨hp16, rfl⟩ := hp16
          cases (hp16 : _ = some (Value.int (nI (N 1))))
          show V g κ 9 (0) (0) (t48, rO g ad N S G48 σ0) 57 [(7, .int (nI (i48))), (6, .int (w14)), (5, .int (nI (y48_5))), (4, .int (x48_4)), (3, .int (r1)), (0, .ref (ad (0))), (1, .int (a1)), (2, .int (nI (p)))] [.int (nI (N 1)), .int (nI (i48))]
          refine V_icmpgeN X (by omega) (by omega) (tgt := 140) dX12_shareNow_57 (by decide) (fun h17 => ?_) (fun h17 => ?_)
          · -- 57 true
            refine V_iload_n X dX12_shareNow_140 6 rfl ?_
            refine V_aload_n X dX12_shareNow_141 5 rfl ?_
            refine R_getf X fl_X12_16 hK (0) (rlv (by omega)) rfl rfl dX12_shareNow_142 ?_
            refine V_iload_n X dX12_shareNow_145 7 rfl ?_
            refine V_callV (rest := [.int (a1)]) X E.room ml_X12_97 in_Jx4a65c_get_915e3 (ci := 3) rfl se_Jx4a65c_get_915e3 (rO_list hK (i := 1) (by decide)) (by omega) (by decide) (r_get hK 1 (by decide) (j := p) (by omega) (by omega)) rfl rfl (Nat.le_of_ble_eq_true rfl) ⟨by omega, by omega⟩ dX12_shareNow_146 (fun _ _ h => False.elim h) (fun v18 σ' hp19 => ?_)
            obtain ⟨hp19, rfl⟩ := hp19
            cases (hp19 : _ = some (Value.ref (ad (21 + (p)))))
            show V g κ 9 (0) (0) (t48, rO g ad N S G48 σ0) 149 [(7, .int (nI (i48))), (6, .int (w14)), (5, .int (nI (y48_5))), (4, .int (x48_4)), (3, .int (r1)), (0, .ref (ad (0))), (1, .int (a1)), (2, .int (nI (p)))] [.ref (ad (21 + (p))), .int (a1)]
            refine V_cast X (C := RX9) rfl cl_X12_74 (R_recv hK (q := 21 + (p)) (rlv (by omega)) (rCell_player (by omega))) dX12_shareNow_149 ?_
            refine R_getf X fl_X12_82 hK (21 + (p)) (rlv (by omega)) (rCell_player (by omega)) rfl dX12_shareNow_152 (V.topi (fun x20 ex20 => ?_))
            have tx20 : x20 = F (21 + (p)) 2 := ex20.trans ((hJ48 : rM N F G48).1 _ _ (Or.inl ⟨by omega, by omega⟩))
            refine V_imul X dX12_shareNow_155 (V.topi (fun w21 ew21 => ?_))
            refine V_iload_n X dX12_shareNow_156 4 rfl ?_
            refine V_idiv X (by assumption) dX12_shareNow_157 (V.topi (fun w22 ew22 => ?_))
            refine V_iload X dX12_shareNow_158 2 rfl ?_
            refine V_iload X dX12_shareNow_160 3 rfl ?_
            refine V_icmpge X (tgt := 169) dX12_shareNow_162 (by decide) (fun h23 => ?_) (fun h23 => ?_)
            · -- 162 true
              have hz48 : i48 = N 1 := by omega
              have hvE : x48_4 = zLe (fun i => F (21 + i) 2) (zAc (rDu N F) b h) (zss (fun i => F (21 + i) 2) (zAc (rDu N F) b h) (N 1)) a1 (N 1) := by rw [hv48_0, hz48]
              have hyE : y48_5 = zAh (fun i => F (21 + i) 2) (zAc (rDu N F) b h) (zss (fun i => F (21 + i) 2) (zAc (rDu N F) b h) (N 1)) a1 (zrst (a1 * F (21 + p) 2) (zss (fun i => F (21 + i) 2) (zAc (rDu N F) b h) (N 1))) p (N 1) := by rw [hy48_5, hz48]
              refine V_iconst (v := nI 0) X dX12_shareNow_169 (by decide) ?_
              refine V_iadd X dX12_shareNow_170 (V.topi (fun w24 ew24 => ?_))
              exact V_iret X E (by omega) (by omega) ⟨_, rfl, (by rw [ew24, ew22, ew21, tx20, eA]; unfold zPo; rw [mite_0 (not_or.mpr ⟨by rw [← eA]; exact h4, not_not_intro za9⟩), mite_0 (by rw [← hvE, ← hyE]; exact Int32.not_lt.mpr h23)]), _, _, rfl, hJ48, hI48, hv48_1⟩ dX12_shareNow_171
            · -- 162 false
              have hz48 : i48 = N 1 := by omega
              have hvE : x48_4 = zLe (fun i => F (21 + i) 2) (zAc (rDu N F) b h) (zss (fun i => F (21 + i) 2) (zAc (rDu N F) b h) (N 1)) a1 (N 1) := by rw [hv48_0, hz48]
              have hyE : y48_5 = zAh (fun i => F (21 + i) 2) (zAc (rDu N F) b h) (zss (fun i => F (21 + i) 2) (zAc (rDu N F) b h) (N 1)) a1 (zrst (a1 * F (21 + p) 2) (zss (fun i => F (21 + i) 2) (zAc (rDu N F) b h) (N 1))) p (N 1) := by rw [hy48_5, hz48]
              refine V_iconst (v := nI 1) X dX12_shareNow_165 (by decide) ?_
              refine V_goto (tgt := 170) X dX12_shareNow_166 (by decide) ?_
              refine V_iadd X dX12_shareNow_170 (V.topi (fun w25 ew25 => ?_))
              exact V_iret X E (by omega) (by omega) ⟨_, rfl, (by rw [ew25, ew22, ew21, tx20, eA]; unfold zPo; rw [mite_0 (not_or.mpr ⟨by rw [← eA]; exact h4, not_not_intro za9⟩), mite_1 (by rw [← hvE, ← hyE]; exact Int32.not_le.mp h23)]), _, _, rfl, hJ48, hI48, hv48_1⟩ dX12_shareNow_171
          · -- 57 false
            refine V_aload_n X dX12_shareNow_60 5 rfl ?_
            refine V_iload X dX12_shareNow_61 0 rfl ?_
            refine V_callV (rest := []) X E.room ml_X12_222 in_X12_partsWith (ci := 16) rfl se_X12_partsWith (R_recv hK (q := 0) (rlv (by omega)) rfl) (by omega) (by decide) (k_X12_partsWith hK hI48 (i48) (by omega) (hJ48.2 hKn) b h (rBs_M hJ48 hI hb)) rfl rfl (Nat.le_of_ble_eq_true rfl) ⟨by omega, by omega⟩ dX12_shareNow_63 (fun _ _ h => False.elim h) (fun v63 σ' hp63 => ?_)
            obtain ⟨r26, rfl, fr26, t28, F27, rfl, hMF27, hIF27, hZF27⟩ := hp63
            have hKF27 : rM N F F27 := (hJ48 : rM N F G48).trans hMF27
            have hyF27 : F27 0 0 = F 0 0 := hZF27.trans hv48_1
            show V g κ 9 (0) (0) (t28, rO g ad N S F27 σ0) 66 [(7, .int (nI (i48))), (6, .int (w14)), (5, .int (nI (y48_5))), (4, .int (x48_4)), (3, .int (r1)), (0, .ref (ad (0))), (1, .int (a1)), (2, .int (nI (p)))] [.int (r26)]
            refine V_ifne X (tgt := 72) dX12_shareNow_66 (by decide) (fun h29 => ?_) (fun h29 => ?_)
            · -- 66 true
              have za30 : zAc (rDu N F) b h (i48) := ((zAc_iff fr26).trans (zAc_M hJ48 hI)).mp h29
              refine V_iload_n X dX12_shareNow_72 6 rfl ?_
              refine V_aload_n X dX12_shareNow_73 5 rfl ?_
              refine R_getf X fl_X12_16 hK (0) (rlv (by omega)) rfl rfl dX12_shareNow_74 ?_
              refine V_iload X dX12_shareNow_77 0 rfl ?_
              refine V_callV (rest := [.int (a1)]) X E.room ml_X12_97 in_Jx4a65c_get_915e3 (ci := 3) rfl se_Jx4a65c_get_915e3 (rO_list hK (i := 1) (by decide)) (by omega) (by decide) (r_get hK 1 (by decide) (j := i48) (by omega) (by omega)) rfl rfl (Nat.le_of_ble_eq_true rfl) ⟨by omega, by omega⟩ dX12_shareNow_79 (fun _ _ h => False.elim h) (fun v31 σ' hp32 => ?_)
              obtain ⟨hp32, rfl⟩ := hp32
              cases (hp32 : _ = some (Value.ref (ad (21 + (i48)))))
              show V g κ 9 (0) (0) (t28, rO g ad N S F27 σ0) 82 [(7, .int (nI (i48))), (6, .int (w14)), (5, .int (nI (y48_5))), (4, .int (x48_4)), (3, .int (r1)), (0, .ref (ad (0))), (1, .int (a1)), (2, .int (nI (p)))] [.ref (ad (21 + (i48))), .int (a1)]
              refine V_cast X (C := RX9) rfl cl_X12_74 (R_recv hK (q := 21 + (i48)) (rlv (by omega)) (rCell_player (by omega))) dX12_shareNow_82 ?_
              refine R_getf X fl_X12_82 hK (21 + (i48)) (rlv (by omega)) (rCell_player (by omega)) rfl dX12_shareNow_85 (V.topi (fun x33 ex33 => ?_))
              have tx33 : x33 = F (21 + (i48)) 2 := ex33.trans ((hKF27 : rM N F F27).1 _ _ (Or.inl ⟨by omega, by omega⟩))
              refine V_imul X dX12_shareNow_88 (V.topi (fun w34 ew34 => ?_))
              refine V_istore X [(8, .int (w34)), (7, .int (nI (i48))), (6, .int (w14)), (5, .int (nI (y48_5))), (4, .int (x48_4)), (3, .int (r1)), (0, .ref (ad (0))), (1, .int (a1)), (2, .int (nI (p)))] dX12_shareNow_89 (by decide) rfl ?_
              refine V_iload X dX12_shareNow_91 4 rfl ?_
              refine V_iload X dX12_shareNow_93 0 rfl ?_
              refine V_iload_n X dX12_shareNow_95 5 rfl ?_
              refine V_idiv X (by assumption) dX12_shareNow_96 (V.topi (fun w35 ew35 => ?_))
              refine V_isub X dX12_shareNow_97 (V.topi (fun w36 ew36 => ?_))
              refine V_istore X [(4, .int (w36)), (8, .int (w34)), (7, .int (nI (i48))), (6, .int (w14)), (5, .int (nI (y48_5))), (3, .int (r1)), (0, .ref (ad (0))), (1, .int (a1)), (2, .int (nI (p)))] dX12_shareNow_98 (by decide) rfl ?_
              refine V_iload X dX12_shareNow_100 4 rfl ?_
              refine V_iload X dX12_shareNow_102 1 rfl ?_
              refine V_iload_n X dX12_shareNow_104 5 rfl ?_
              refine V_irem X (by assumption) dX12_shareNow_105 (V.topi (fun w37 ew37 => ?_))
              refine V_iload X dX12_shareNow_106 3 rfl ?_
              refine V_icmpgt X (tgt := 126) dX12_shareNow_108 (by decide) (fun h38 => ?_) (fun h38 => ?_)
              · -- 108 true
                have row37 : w37 = zrst (a1 * F (21 + (i48)) 2) (zss (fun i => F (21 + i) 2) (zAc (rDu N F) b h) (N 1)) := by rw [ew37, ew34, tx33, eA]; rfl
                refine V_iconst (v := nI 1) X dX12_shareNow_126 (by decide) ?_
                refine V_goto (tgt := 131) X dX12_shareNow_127 (by decide) ?_
                refine V_iaddN X dX12_shareNow_131 ?_
                refine V_istore X [(5, .int (nI (y48_5 + 1))), (4, .int (w36)), (8, .int (w34)), (7, .int (nI (i48))), (6, .int (w14)), (3, .int (r1)), (0, .ref (ad (0))), (1, .int (a1)), (2, .int (nI (p)))] dX12_shareNow_132 (by decide) rfl ?_
                refine V_iinc X (nI (i48 + 1)) [(7, .int (nI (i48 + 1))), (5, .int (nI (y48_5 + 1))), (4, .int (w36)), (8, .int (w34)), (6, .int (w14)), (3, .int (r1)), (0, .ref (ad (0))), (1, .int (a1)), (2, .int (nI (p)))] dX12_shareNow_134 3 rfl (zinc _) (by decide) rfl ?_
                refine V_goto (tgt := 48) X dX12_shareNow_137 (by decide) ?_
                exact V.sub [0, 4, 1, 2, 5, 6, 7, 8] rfl (ih48 _ (by omega) (i48 + 1) (y48_5 + 1) (w36) F27 (t28) rfl (by omega) hKF27 hIF27 (zAh_1 hy48_5 za30 (Or.inl (by rw [← row37, ← hr6]; exact h38))) (zLe_1 hv48_0 za30 (by rw [ew36, ew35, ew34, tx33, eA])) (hyF27))
              · -- 108 false
                have row37 : w37 = zrst (a1 * F (21 + (i48)) 2) (zss (fun i => F (21 + i) 2) (zAc (rDu N F) b h) (N 1)) := by rw [ew37, ew34, tx33, eA]; rfl
                refine V_iload X dX12_shareNow_111 1 rfl ?_
                refine V_iload_n X dX12_shareNow_113 5 rfl ?_
                refine V_irem X (by assumption) dX12_shareNow_114 (V.topi (fun w39 ew39 => ?_))
                refine V_iload X dX12_shareNow_115 3 rfl ?_
                refine V_icmpne X (tgt := 130) dX12_shareNow_117 (by decide) (fun h40 => ?_) (fun h40 => ?_)
                · -- 117 true
                  have row39 : w39 = zrst (a1 * F (21 + (i48)) 2) (zss (fun i => F (21 + i) 2) (zAc (rDu N F) b h) (N 1)) := by rw [ew39, ew34, tx33, eA]; rfl
                  refine V_iconst (v := nI 0) X dX12_shareNow_130 (by decide) ?_
                  refine V_iaddN X dX12_shareNow_131 ?_
                  refine V_istore X [(5, .int (nI (y48_5 + 0))), (4, .int (w36)), (8, .int (w34)), (7, .int (nI (i48))), (6, .int (w14)), (3, .int (r1)), (0, .ref (ad (0))), (1, .int (a1)), (2, .int (nI (p)))] dX12_shareNow_132 (by decide) rfl ?_
                  refine V_iinc X (nI (i48 + 1)) [(7, .int (nI (i48 + 1))), (5, .int (nI (y48_5 + 0))), (4, .int (w36)), (8, .int (w34)), (6, .int (w14)), (3, .int (r1)), (0, .ref (ad (0))), (1, .int (a1)), (2, .int (nI (p)))] dX12_shareNow_134 3 rfl (zinc _) (by decide) rfl ?_
                  refine V_goto (tgt := 48) X dX12_shareNow_137 (by decide) ?_
                  exact V.sub [0, 4, 1, 2, 5, 6, 7, 8] rfl (ih48 _ (by omega) (i48 + 1) (y48_5 + 0) (w36) F27 (t28) rfl (by omega) hKF27 hIF27 ((by rw [Nat.add_zero]; exact zAh_0 hy48_5 (fun q => q.2.elim (fun z => h38 (by rw [← row37, ← hr6] at z; exact z)) (fun z => h40 (by rw [row39, hr6]; exact z.1))))) (zLe_1 hv48_0 za30 (by rw [ew36, ew35, ew34, tx33, eA])) (hyF27))
                · -- 117 false
                  have row39 : w39 = zrst (a1 * F (21 + (i48)) 2) (zss (fun i => F (21 + i) 2) (zAc (rDu N F) b h) (N 1)) := by rw [ew39, ew34, tx33, eA]; rfl
                  refine V_iload X dX12_shareNow_120 2 rfl ?_
                  refine V_iload_n X dX12_shareNow_122 8 rfl ?_
                  refine V_icmpgeN X (by omega) (by omega) (tgt := 130) dX12_shareNow_123 (by decide) (fun h41 => ?_) (fun h41 => ?_)
                  · -- 123 true
                    refine V_iconst (v := nI 0) X dX12_shareNow_130 (by decide) ?_
                    refine V_iaddN X dX12_shareNow_131 ?_
                    refine V_istore X [(5, .int (nI (y48_5 + 0))), (4, .int (w36)), (8, .int (w34)), (7, .int (nI (i48))), (6, .int (w14)), (3, .int (r1)), (0, .ref (ad (0))), (1, .int (a1)), (2, .int (nI (p)))] dX12_shareNow_132 (by decide) rfl ?_
                    refine V_iinc X (nI (i48 + 1)) [(7, .int (nI (i48 + 1))), (5, .int (nI (y48_5 + 0))), (4, .int (w36)), (8, .int (w34)), (6, .int (w14)), (3, .int (r1)), (0, .ref (ad (0))), (1, .int (a1)), (2, .int (nI (p)))] dX12_shareNow_134 3 rfl (zinc _) (by decide) rfl ?_
                    refine V_goto (tgt := 48) X dX12_shareNow_137 (by decide) ?_
                    exact V.sub [0, 4, 1, 2, 5, 6, 7, 8] rfl (ih48 _ (by omega) (i48 + 1) (y48_5 + 0) (w36) F27 (t28) rfl (by omega) hKF27 hIF27 ((by rw [Nat.add_zero]; exact zAh_0 hy48_5 (fun q => q.2.elim (fun z => h38 (by rw [← row37, ← hr6] at z; exact z)) (fun z => absurd z.2 (by omega))))) (zLe_1 hv48_0 za30 (by rw [ew36, ew35, ew34, tx33, eA])) (hyF27))
                  · -- 123 false
                    refine V_iconst (v := nI 1) X dX12_shareNow_126 (by decide) ?_
                    refine V_goto (tgt := 131) X dX12_shareNow_127 (by decide) ?_
                    refine V_iaddN X dX12_shareNow_131 ?_
                    refine V_istore X [(5, .int (nI (y48_5 + 1))), (4, .int (w36)), (8, .int (w34)), (7, .int (nI (i48))), (6, .int (w14)), (3, .int (r1)), (0, .ref (ad (0))), (1, .int (a1)), (2, .int (nI (p)))] dX12_shareNow_132 (by decide) rfl ?_
                    refine V_iinc X (nI (i48 + 1)) [(7, .int (nI (i48 + 1))), (5, .int (nI (y48_5 + 1))), (4, .int (w36)), (8, .int (w34)), (6, .int (w14)), (3, .int (r1)), (0, .ref (ad (0))), (1, .int (a1)), (2, .int (nI (p)))] dX12_shareNow_134 3 rfl (zinc _) (by decide) rfl ?_
                    refine V_goto (tgt := 48) X dX12_shareNow_137 (by decide) ?_
                    exact V.sub [0, 4, 1, 2, 5, 6, 7, 8] rfl (ih48 _ (by omega) (i48 + 1) (y48_5 + 1) (w36) F27 (t28) rfl (by omega) hKF27 hIF27 (zAh_1 hy48_5 za30 (Or.inr ⟨by rw [← row39, ← hr6]; exact h40, by omega⟩)) (zLe_1 hv48_0 za30 (by rw [ew36, ew35, ew34, tx33, eA])) (hyF27))
            · -- 66 false
              have za42 : ¬ zAc (rDu N F) b h (i48) := fun q => ((zAc_iff fr26).trans (zAc_M hJ48 hI)).mpr q h29
              refine V_goto (tgt := 134) X dX12_shareNow_69 (by decide) ?_
              refine V_iinc X (nI (i48 + 1)) [(7, .int (nI (i48 + 1))), (6, .int (w14)), (5, .int (nI (y48_5))), (4, .int (x48_4)), (3, .int (r1)), (0, .ref (ad (0))), (1, .int (a1)), (2, .int (nI (p)))] dX12_shareNow_134 0 rfl (zinc _) (by decide) rfl ?_
              refine V_goto (tgt := 48) X dX12_shareNow_137 (by decide) ?_
              exact V.sub [0, 1, 2, 3, 4, 5, 6, 7] rfl (ih48 _ (by omega) (i48 + 1) (y48_5) (x48_4) F27 (t28) rfl (by omega) hKF27 hIF27 (zAh_0 hy48_5 (fun q => za42 q.1)) (zLe_0 hv48_0 za42) (hyF27))
      exact L48 _ (0) (0) (a1) F6 (t7) rfl (by omega) hKF6 hIF6 (rfl) (rfl) (hyF6)
    · -- 14 false
      have za43 : ¬ zAc (rDu N F) b h (p) := fun q => ((zAc_iff fr5).trans (zAc_M hKF2 hI)).mpr q h8
      refine V_iconst (v := nI 0) X dX12_shareNow_17 (by decide) ?_
      exact V_iret X E (by omega) (by omega) ⟨_, rfl, (mite_1 (Or.inr za43)).symm, _, _, rfl, hKF6, hIF6, hyF6⟩ dX12_shareNow_18
set_option maxRecDepth 100000 in
set_option maxHeartbeats 4000000 in
theorem k_X12_go {g : zG} {t : Nat × Nat} {ad N : Nat → Nat} {S : Int64} {σ0 : Nat → Option va_E} (hK : rK g ad N) : ∀ (r : Nat) {F : Nat → Nat → Int32} (hI : rI N F) (m : Nat) (hm : m < 32) (hr : 5 ≤ zpc m + r) (a1 a2 a4 a5 a6 : Int32), Ct g (15 + r) yX12_go cX12_go 10 none 0 0 [.ref (ad (0)), .int a1, .int a2, .int (nI m), .int a4, .int a5, .int a6] (t, rO g ad N S F σ0) (qJ pV g t ad N S F σ0) zNo := by
  intro r
  induction r using Nat.strongRecOn with
  | ind r ihr =>
  intro F hI m hm hr a1 a2 a4 a5 a6
  refine Ct.of (lv := [(0, .ref (ad (0))), (1, .int (a1)), (2, .int (a2)), (3, .int (nI (m))), (4, .int (a4)), (5, .int (a5)), (6, .int (a6))]) (by decide) (Nat.le_of_ble_eq_true rfl) rfl ?_
  intro κ X E B _
  have X : zX g κ RX12 cX12_go 10 := X
  obtain ⟨b0, b1, b2, b3, b4⟩ := hI.bnd
  refine V_iload X dX12_go_0 5 rfl ?_
  refine V_iload_n X dX12_go_2 1 rfl ?_
  refine V_iload_n X dX12_go_3 2 rfl ?_
  refine V_iconst (v := nI 0) X dX12_go_4 (by decide) ?_
  refine V_iconst (v := nI 0) X dX12_go_5 (by decide) ?_
  refine V_callS (rest := [.int (a5)]) X E.room ml_X12_241 st_X12_miles (by omega) (by decide) (k_X12_miles (σ := (t, rO g ad N S F σ0)) (a1) (a2) (nI (0)) (nI (0))) rfl rfl (Nat.le_of_ble_eq_true rfl) ⟨by omega, by omega⟩ dX12_go_6 (fun _ _ h => False.elim h) (fun v6 σ' hp6 => ?_)
  obtain ⟨hp6, rfl⟩ := hp6
  obtain ⟨r1, rfl, fr1⟩ := hp6
  show V g κ 10 (0) (0) (t, rO g ad N S F σ0) 9 [(0, .ref (ad (0))), (1, .int (a1)), (2, .int (a2)), (3, .int (nI (m))), (4, .int (a4)), (5, .int (a5)), (6, .int (a6))] [.int (r1), .int (a5)]
  refine V_iadd X dX12_go_9 (V.topi (fun w2 ew2 => ?_))
  refine V_istore X [(7, .int (w2)), (0, .ref (ad (0))), (1, .int (a1)), (2, .int (a2)), (3, .int (nI (m))), (4, .int (a4)), (5, .int (a5)), (6, .int (a6))] dX12_go_10 (by decide) rfl ?_
  refine V_iload X dX12_go_12 0 rfl ?_
  refine V_iload X dX12_go_14 7 rfl ?_
  refine V_icmple X (tgt := 20) dX12_go_16 (by decide) (fun h3 => ?_) (fun h3 => ?_)
  · -- 16 true
    refine V_iload X dX12_go_20 5 rfl ?_
    refine V_aload_n X dX12_go_22 1 rfl ?_
    refine R_getf X fl_X12_245 hK (0) (rlv (by omega)) rfl rfl dX12_go_23 (V.topi (fun x4 ex4 => ?_))
    refine V_icmpgt X (tgt := 64) dX12_go_26 (by decide) (fun h5 => ?_) (fun h5 => ?_)
    · -- 26 true
      refine V_aload_n X dX12_go_64 1 rfl ?_
      refine V_iload X dX12_go_65 5 rfl ?_
      refine R_putf X fl_X12_245 zt_X12 hK (0) (rlv (by omega)) (by omega) rfl (Nat.le_of_ble_eq_true rfl) rfl rfl rfl rfl rfl dX12_go_67 (fun F6 hF6 => ?_)
      have hJF6 := (rJ.rfl' : rJ F F).set hF6 (rsc_t (by omega))
      refine V_aload_n X dX12_go_70 1 rfl ?_
      refine V_iload X dX12_go_71 0 rfl ?_
      refine R_putf X fl_X12_248 zt_X12 hK (0) (rlv (by omega)) (by omega) rfl (Nat.le_of_ble_eq_true rfl) rfl rfl rfl rfl rfl dX12_go_73 (fun F7 hF7 => ?_)
      have hJF7 := (hJF6 : rJ F F6).set hF7 (rsc_t (by omega))
      refine V_aload_n X dX12_go_76 1 rfl ?_
      refine V_iload_n X dX12_go_77 4 rfl ?_
      refine R_putf X fl_X12_251 zt_X12 hK (0) (rlv (by omega)) (by omega) rfl (Nat.le_of_ble_eq_true rfl) rfl rfl rfl rfl rfl dX12_go_78 (fun F8 hF8 => ?_)
      have hJF8 := (hJF7 : rJ F F7).set hF8 (rsc_t (by omega))
      refine V_iconst (v := nI 0) X dX12_go_81 (by decide) ?_
      refine V_istore X [(8, .int (nI (0))), (7, .int (w2)), (0, .ref (ad (0))), (1, .int (a1)), (2, .int (a2)), (3, .int (nI (m))), (4, .int (a4)), (5, .int (a5)), (6, .int (a6))] dX12_go_82 (by decide) rfl ?_
      have L84 : ∀ (n84 : Nat) (i84 : Nat) (G84 : Nat → Nat → Int32), n84 = N 4 - i84 → i84 ≤ N 4 → rJ F G84 → V g κ 10 (0) (0) (t, rO g ad N S G84 σ0) 84 [(8, .int (nI (i84))), (7, .int (w2)), (0, .ref (ad (0))), (1, .int (a1)), (2, .int (a2)), (3, .int (nI (m))), (4, .int (a4)), (5, .int (a5)), (6, .int (a6))] [] := by
        intro n84
        induction n84 using Nat.strongRecOn with
        | ind n84 ih84 =>
          intro i84 G84 hn84 hi84 hJ84
          refine V_iload X dX12_go_84 0 rfl ?_
          refine V_aload_n X dX12_go_86 2 rfl ?_
          refine R_getf X fl_X12_25 hK (0) (rlv (by omega)) rfl rfl dX12_go_87 ?_
          refine V_callV (rest := [.int (nI (i84))]) X E.room ml_X12_42 in_Jx4a65c_size_8abf5 (ci := 3) rfl se_Jx4a65c_size_8abf5 (rO_list hK (i := 4) (by decide)) (by omega) (by decide) (r_size hK 4 (by decide)) rfl rfl (Nat.le_of_ble_eq_true rfl) ⟨by omega, by omega⟩ dX12_go_90 (fun _ _ h => False.elim h) (fun v9 σ' hp10 => ?_)
          obtain ⟨hp10, rfl⟩ := hp10
          cases (hp10 : _ = some (Value.int (nI (N 4))))
          show V g κ 10 (0) (0) (t, rO g ad N S G84 σ0) 93 [(8, .int (nI (i84))), (7, .int (w2)), (0, .ref (ad (0))), (1, .int (a1)), (2, .int (a2)), (3, .int (nI (m))), (4, .int (a4)), (5, .int (a5)), (6, .int (a6))] [.int (nI (N 4)), .int (nI (i84))]
          refine V_icmpgeN X (by omega) (by omega) (tgt := 173) dX12_go_93 (by decide) (fun h11 => ?_) (fun h11 => ?_)
          · -- 93 true
            exact V_vret X E (by omega) (by omega) ⟨rfl, ⟨_, rfl, hJ84⟩⟩ dX12_go_173
          · -- 93 false
            refine V_aload_n X dX12_go_96 2 rfl ?_
            refine R_getf X fl_X12_25 hK (0) (rlv (by omega)) rfl rfl dX12_go_97 ?_
            refine V_iload X dX12_go_100 0 rfl ?_
            refine V_callV (rest := []) X E.room ml_X12_97 in_Jx4a65c_get_915e3 (ci := 3) rfl se_Jx4a65c_get_915e3 (rO_list hK (i := 4) (by decide)) (by omega) (by decide) (r_get hK 4 (by decide) (j := i84) (by omega) (by omega)) rfl rfl (Nat.le_of_ble_eq_true rfl) ⟨by omega, by omega⟩ dX12_go_102 (fun _ _ h => False.elim h) (fun v12 σ' hp13 => ?_)
            obtain ⟨hp13, rfl⟩ := hp13
            cases (hp13 : _ = some (Value.ref (ad (38 + (i84)))))
            show V g κ 10 (0) (0) (t, rO g ad N S G84 σ0) 105 [(8, .int (nI (i84))), (7, .int (w2)), (0, .ref (ad (0))), (1, .int (a1)), (2, .int (a2)), (3, .int (nI (m))), (4, .int (a4)), (5, .int (a5)), (6, .int (a6))] [.ref (ad (38 + (i84)))]
            refine V_cast X (C := RX11) rfl cl_X12_147 (R_recv hK (q := 38 + (i84)) (rlv (by omega)) (rCell_town (by omega))) dX12_go_105 ?_
            refine V_astore X [(9, .ref (ad (38 + (i84)))), (8, .int (nI (i84))), (7, .int (w2)), (0, .ref (ad (0))), (1, .int (a1)), (2, .int (a2)), (3, .int (nI (m))), (4, .int (a4)), (5, .int (a5)), (6, .int (a6))] dX12_go_108 (by decide) rfl ?_
            refine V_iload_n X dX12_go_110 6 rfl ?_
            refine V_iload X dX12_go_111 1 rfl ?_
            refine V_callS (rest := []) X E.room ml_X12_159 st_X12_isIn (by omega) (by decide) (k_X12_isIn (σ := (t, rO g ad N S G84 σ0)) (nI (m)) (nI (i84))) rfl rfl (Nat.le_of_ble_eq_true rfl) ⟨by omega, by omega⟩ dX12_go_113 (fun _ _ h => False.elim h) (fun v113 σ' hp113 => ?_)
            obtain ⟨hp113, rfl⟩ := hp113
            rcases hp113 with ⟨rfl, z14⟩ | ⟨rfl, z14⟩
            · -- yes
              show V g κ 10 (0) (0) (t, rO g ad N S G84 σ0) 116 [(9, .ref (ad (38 + (i84)))), (8, .int (nI (i84))), (7, .int (w2)), (0, .ref (ad (0))), (1, .int (a1)), (2, .int (a2)), (3, .int (nI (m))), (4, .int (a4)), (5, .int (a5)), (6, .int (a6))] [.int (nI (1))]
              refine V_ifneN X (by omega) (tgt := 167) dX12_go_116 (by decide) (fun h15 => ?_) (fun h15 => absurd h15 (by omega))
              refine V_iinc X (nI (i84 + 1)) [(8, .int (nI (i84 + 1))), (9, .ref (ad (38 + (i84)))), (7, .int (w2)), (0, .ref (ad (0))), (1, .int (a1)), (2, .int (a2)), (3, .int (nI (m))), (4, .int (a4)), (5, .int (a5)), (6, .int (a6))] dX12_go_167 1 rfl (zinc _) (by decide) rfl ?_
              refine V_goto (tgt := 84) X dX12_go_170 (by decide) ?_
              exact V.sub [0, 2, 3, 4, 5, 6, 7, 8, 9] rfl (ih84 _ (by omega) (i84 + 1) G84 rfl (by omega) hJ84)
            · -- no
              have hbit : m.testBit i84 = false := by cases hb : m.testBit i84 with | true => exact absurd ((zIn_nat (by omega) (by omega)).mpr hb) z14 | false => rfl
              have hor := zpc_or m hm i84 (by omega) hbit
              have ho5 := zpc_5 m hm
              have hlt5 : m ||| 2 ^ i84 < 32 := zor (n := 5) hm (by omega)
              have hr1 := zpc_5 _ hlt5
              show V g κ 10 (0) (0) (t, rO g ad N S G84 σ0) 116 [(9, .ref (ad (38 + (i84)))), (8, .int (nI (i84))), (7, .int (w2)), (0, .ref (ad (0))), (1, .int (a1)), (2, .int (a2)), (3, .int (nI (m))), (4, .int (a4)), (5, .int (a5)), (6, .int (a6))] [.int (nI (0))]
              refine V_ifneN X (by omega) (tgt := 167) dX12_go_116 (by decide) (fun h16 => absurd h16 (by omega)) (fun h16 => ?_)
              refine V_aload_n X dX12_go_119 3 rfl ?_
              refine V_aload X dX12_go_120 0 rfl ?_
              refine R_getf X fl_X12_150 hK (38 + (i84)) (rlv (by omega)) (rCell_town (by omega)) rfl dX12_go_122 (V.topi (fun x17 ex17 => ?_))
              refine V_aload X dX12_go_125 0 rfl ?_
              refine R_getf X fl_X12_153 hK (38 + (i84)) (rlv (by omega)) (rCell_town (by omega)) rfl dX12_go_127 (V.topi (fun x18 ex18 => ?_))
              refine V_iload_n X dX12_go_130 6 rfl ?_
              refine V_iconst (v := nI 1) X dX12_go_131 (by decide) ?_
              refine V_iload X dX12_go_132 1 rfl ?_
              refine V_ishl1 X (by omega) dX12_go_134 ?_
              refine V_iorN X dX12_go_135 ?_
              refine V_iload X dX12_go_136 7 rfl ?_
              refine V_aload X dX12_go_138 0 rfl ?_
              refine R_getf X fl_X12_156 hK (38 + (i84)) (rlv (by omega)) (rCell_town (by omega)) rfl dX12_go_140 (V.topi (fun x19 ex19 => ?_))
              refine V_iadd X dX12_go_143 (V.topi (fun w20 ew20 => ?_))
              refine V_iload X dX12_go_144 8 rfl ?_
              refine V_iload_n X dX12_go_146 4 rfl ?_
              refine V_iload_n X dX12_go_147 5 rfl ?_
              refine V_aload X dX12_go_148 0 rfl ?_
              refine R_getf X fl_X12_150 hK (38 + (i84)) (rlv (by omega)) (rCell_town (by omega)) rfl dX12_go_150 (V.topi (fun x21 ex21 => ?_))
              refine V_aload X dX12_go_153 0 rfl ?_
              refine R_getf X fl_X12_153 hK (38 + (i84)) (rlv (by omega)) (rCell_town (by omega)) rfl dX12_go_155 (V.topi (fun x22 ex22 => ?_))
              refine V_callS (rest := [.int (a5), .int (w20), .int (nI ((m) ||| (2 ^ (i84)))), .int (x18), .int (x17), .ref (ad (0))]) X E.room ml_X12_241 st_X12_miles (by omega) (by decide) (k_X12_miles (σ := (t, rO g ad N S G84 σ0)) (a1) (a2) (x21) (x22)) rfl rfl (Nat.le_of_ble_eq_true rfl) ⟨by omega, by omega⟩ dX12_go_158 (fun _ _ h => False.elim h) (fun v158 σ' hp158 => ?_)
              obtain ⟨hp158, rfl⟩ := hp158
              obtain ⟨r23, rfl, fr23⟩ := hp158
              show V g κ 10 (0) (0) (t, rO g ad N S G84 σ0) 161 [(9, .ref (ad (38 + (i84)))), (8, .int (nI (i84))), (7, .int (w2)), (0, .ref (ad (0))), (1, .int (a1)), (2, .int (a2)), (3, .int (nI (m))), (4, .int (a4)), (5, .int (a5)), (6, .int (a6))] [.int (r23), .int (a5), .int (w20), .int (nI ((m) ||| (2 ^ (i84)))), .int (x18), .int (x17), .ref (ad (0))]
              refine V_iadd X dX12_go_161 (V.topi (fun w24 ew24 => ?_))
              refine V_iload X dX12_go_162 9 rfl ?_
              refine V_callV (rest := []) X E.room ml_X12_254 in_X12_go (ci := 16) rfl se_X12_go (R_recv hK (q := 0) (rlv (by omega)) rfl) (by omega) (by decide) (ihr (r - 1) (by omega) (hI.mv hJ84) (m ||| 2 ^ i84) hlt5 (by omega) (x17) (x18) (w20) (w24) (a6)) rfl rfl (Nat.le_of_ble_eq_true rfl) ⟨by omega, by omega⟩ dX12_go_164 (fun _ _ h => False.elim h) (fun v164 σ' hp164 => ?_)
              obtain ⟨hp164, F25, rfl, hJF25⟩ := hp164
              have hKF25 : rJ F F25 := (hJ84 : rJ F G84).trans hJF25
              cases (hp164 : _ = none)
              show V g κ 10 (0) (0) (t, rO g ad N S F25 σ0) 167 [(9, .ref (ad (38 + (i84)))), (8, .int (nI (i84))), (7, .int (w2)), (0, .ref (ad (0))), (1, .int (a1)), (2, .int (a2)), (3, .int (nI (m))), (4, .int (a4)), (5, .int (a5)), (6, .int (a6))] []
              refine V_iinc X (nI (i84 + 1)) [(8, .int (nI (i84 + 1))), (9, .ref (ad (38 + (i84)))), (7, .int (w2)), (0, .ref (ad (0))), (1, .int (a1)), (2, .int (a2)), (3, .int (nI (m))), (4, .int (a4)), (5, .int (a5)), (6, .int (a6))] dX12_go_167 1 rfl (zinc _) (by decide) rfl ?_
              refine V_goto (tgt := 84) X dX12_go_170 (by decide) ?_
              exact V.sub [0, 2, 3, 4, 5, 6, 7, 8, 9] rfl (ih84 _ (by omega) (i84 + 1) F25 rfl (by omega) hKF25)
      exact L84 _ (0) F8 rfl (by omega) hJF8
    · -- 26 false
      refine V_iload X dX12_go_29 5 rfl ?_
      refine V_aload_n X dX12_go_31 1 rfl ?_
      refine R_getf X fl_X12_245 hK (0) (rlv (by omega)) rfl rfl dX12_go_32 (V.topi (fun x26 ex26 => ?_))
      refine V_icmpne X (tgt := 81) dX12_go_35 (by decide) (fun h27 => ?_) (fun h27 => ?_)
      · -- 35 true
        refine V_iconst (v := nI 0) X dX12_go_81 (by decide) ?_
        refine V_istore X [(8, .int (nI (0))), (7, .int (w2)), (0, .ref (ad (0))), (1, .int (a1)), (2, .int (a2)), (3, .int (nI (m))), (4, .int (a4)), (5, .int (a5)), (6, .int (a6))] dX12_go_82 (by decide) rfl ?_
        have L84 : ∀ (n84 : Nat) (i84 : Nat) (G84 : Nat → Nat → Int32), n84 = N 4 - i84 → i84 ≤ N 4 → rJ F G84 → V g κ 10 (0) (0) (t, rO g ad N S G84 σ0) 84 [(8, .int (nI (i84))), (7, .int (w2)), (0, .ref (ad (0))), (1, .int (a1)), (2, .int (a2)), (3, .int (nI (m))), (4, .int (a4)), (5, .int (a5)), (6, .int (a6))] [] := by
          intro n84
          induction n84 using Nat.strongRecOn with
          | ind n84 ih84 =>
            intro i84 G84 hn84 hi84 hJ84
            refine V_iload X dX12_go_84 0 rfl ?_
            refine V_aload_n X dX12_go_86 2 rfl ?_
            refine R_getf X fl_X12_25 hK (0) (rlv (by omega)) rfl rfl dX12_go_87 ?_
            refine V_callV (rest := [.int (nI (i84))]) X E.room ml_X12_42 in_Jx4a65c_size_8abf5 (ci := 3) rfl se_Jx4a65c_size_8abf5 (rO_list hK (i := 4) (by decide)) (by omega) (by decide) (r_size hK 4 (by decide)) rfl rfl (Nat.le_of_ble_eq_true rfl) ⟨by omega, by omega⟩ dX12_go_90 (fun _ _ h => False.elim h) (fun v28 σ' hp29 => ?_)
            obtain ⟨hp29, rfl⟩ := hp29
            cases (hp29 : _ = some (Value.int (nI (N 4))))
            show V g κ 10 (0) (0) (t, rO g ad N S G84 σ0) 93 [(8, .int (nI (i84))), (7, .int (w2)), (0, .ref (ad (0))), (1, .int (a1)), (2, .int (a2)), (3, .int (nI (m))), (4, .int (a4)), (5, .int (a5)), (6, .int (a6))] [.int (nI (N 4)), .int (nI (i84))]
            refine V_icmpgeN X (by omega) (by omega) (tgt := 173) dX12_go_93 (by decide) (fun h30 => ?_) (fun h30 => ?_)
            · -- 93 true
              exact V_vret X E (by omega) (by omega) ⟨rfl, ⟨_, rfl, hJ84⟩⟩ dX12_go_173
            · -- 93 false
              refine V_aload_n X dX12_go_96 2 rfl ?_
              refine R_getf X fl_X12_25 hK (0) (rlv (by omega)) rfl rfl dX12_go_97 ?_
              refine V_iload X dX12_go_100 0 rfl ?_
              refine V_callV (rest := []) X E.room ml_X12_97 in_Jx4a65c_get_915e3 (ci := 3) rfl se_Jx4a65c_get_915e3 (rO_list hK (i := 4) (by decide)) (by omega) (by decide) (r_get hK 4 (by decide) (j := i84) (by omega) (by omega)) rfl rfl (Nat.le_of_ble_eq_true rfl) ⟨by omega, by omega⟩ dX12_go_102 (fun _ _ h => False.elim h) (fun v31 σ' hp32 => ?_)
              obtain ⟨hp32, rfl⟩ := hp32
              cases (hp32 : _ = some (Value.ref (ad (38 + (i84)))))
              show V g κ 10 (0) (0) (t, rO g ad N S G84 σ0) 105 [(8, .int (nI (i84))), (7, .int (w2)), (0, .ref (ad (0))), (1, .int (a1)), (2, .int (a2)), (3, .int (nI (m))), (4, .int (a4)), (5, .int (a5)), (6, .int (a6))] [.ref (ad (38 + (i84)))]
              refine V_cast X (C := RX11) rfl cl_X12_147 (R_recv hK (q := 38 + (i84)) (rlv (by omega)) (rCell_town (by omega))) dX12_go_105 ?_
              refine V_astore X [(9, .ref (ad (38 + (i84)))), (8, .int (nI (i84))), (7, .int (w2)), (0, .ref (ad (0))), (1, .int (a1)), (2, .int (a2)), (3, .int (nI (m))), (4, .int (a4)), (5, .int (a5)), (6, .int (a6))] dX12_go_108 (by decide) rfl ?_
              refine V_iload_n X dX12_go_110 6 rfl ?_
              refine V_iload X dX12_go_111 1 rfl ?_
              refine V_callS (rest := []) X E.room ml_X12_159 st_X12_isIn (by omega) (by decide) (k_X12_isIn (σ := (t, rO g ad N S G84 σ0)) (nI (m)) (nI (i84))) rfl rfl (Nat.le_of_ble_eq_true rfl) ⟨by omega, by omega⟩ dX12_go_113 (fun _ _ h => False.elim h) (fun v113 σ' hp113 => ?_)
              obtain ⟨hp113, rfl⟩ := hp113
              rcases hp113 with ⟨rfl, z33⟩ | ⟨rfl, z33⟩
              · -- yes
                show V g κ 10 (0) (0) (t, rO g ad N S G84 σ0) 116 [(9, .ref (ad (38 + (i84)))), (8, .int (nI (i84))), (7, .int (w2)), (0, .ref (ad (0))), (1, .int (a1)), (2, .int (a2)), (3, .int (nI (m))), (4, .int (a4)), (5, .int (a5)), (6, .int (a6))] [.int (nI (1))]
                refine V_ifneN X (by omega) (tgt := 167) dX12_go_116 (by decide) (fun h34 => ?_) (fun h34 => absurd h34 (by omega))
                refine V_iinc X (nI (i84 + 1)) [(8, .int (nI (i84 + 1))), (9, .ref (ad (38 + (i84)))), (7, .int (w2)), (0, .ref (ad (0))), (1, .int (a1)), (2, .int (a2)), (3, .int (nI (m))), (4, .int (a4)), (5, .int (a5)), (6, .int (a6))] dX12_go_167 1 rfl (zinc _) (by decide) rfl ?_
                refine V_goto (tgt := 84) X dX12_go_170 (by decide) ?_
                exact V.sub [0, 2, 3, 4, 5, 6, 7, 8, 9] rfl (ih84 _ (by omega) (i84 + 1) G84 rfl (by omega) hJ84)
              · -- no
                have hbit : m.testBit i84 = false := by cases hb : m.testBit i84 with | true => exact absurd ((zIn_nat (by omega) (by omega)).mpr hb) z33 | false => rfl
                have hor := zpc_or m hm i84 (by omega) hbit
                have ho5 := zpc_5 m hm
                have hlt5 : m ||| 2 ^ i84 < 32 := zor (n := 5) hm (by omega)
                have hr1 := zpc_5 _ hlt5
                show V g κ 10 (0) (0) (t, rO g ad N S G84 σ0) 116 [(9, .ref (ad (38 + (i84)))), (8, .int (nI (i84))), (7, .int (w2)), (0, .ref (ad (0))), (1, .int (a1)), (2, .int (a2)), (3, .int (nI (m))), (4, .int (a4)), (5, .int (a5)), (6, .int (a6))] [.int (nI (0))]
                refine V_ifneN X (by omega) (tgt := 167) dX12_go_116 (by decide) (fun h35 => absurd h35 (by omega)) (fun h35 => ?_)
                refine V_aload_n X dX12_go_119 3 rfl ?_
                refine V_aload X dX12_go_120 0 rfl ?_
                refine R_getf X fl_X12_150 hK (38 + (i84)) (rlv (by omega)) (rCell_town (by omega)) rfl dX12_go_122 (V.topi (fun x36 ex36 => ?_))
                refine V_aload X dX12_go_125 0 rfl ?_
                refine R_getf X fl_X12_153 hK (38 + (i84)) (rlv (by omega)) (rCell_town (by omega)) rfl dX12_go_127 (V.topi (fun x37 ex37 => ?_))
                refine V_iload_n X dX12_go_130 6 rfl ?_
                refine V_iconst (v := nI 1) X dX12_go_131 (by decide) ?_
                refine V_iload X dX12_go_132 1 rfl ?_
                refine V_ishl1 X (by omega) dX12_go_134 ?_
                refine V_iorN X dX12_go_135 ?_
                refine V_iload X dX12_go_136 7 rfl ?_
                refine V_aload X dX12_go_138 0 rfl ?_
                refine R_getf X fl_X12_156 hK (38 + (i84)) (rlv (by omega)) (rCell_town (by omega)) rfl dX12_go_140 (V.topi (fun x38 ex38 => ?_))
                refine V_iadd X dX12_go_143 (V.topi (fun w39 ew39 => ?_))
                refine V_iload X dX12_go_144 8 rfl ?_
                refine V_iload_n X dX12_go_146 4 rfl ?_
                refine V_iload_n X dX12_go_147 5 rfl ?_
                refine V_aload X dX12_go_148 0 rfl ?_
                refine R_getf X fl_X12_150 hK (38 + (i84)) (rlv (by omega)) (rCell_town (by omega)) rfl dX12_go_150 (V.topi (fun x40 ex40 => ?_))
                refine V_aload X dX12_go_153 0 rfl ?_
                refine R_getf X fl_X12_153 hK (38 + (i84)) (rlv (by omega)) (rCell_town (by omega)) rfl dX12_go_155 (V.topi (fun x41 ex41 => ?_))
                refine V_callS (rest := [.int (a5), .int (w39), .int (nI ((m) ||| (2 ^ (i84)))), .int (x37), .int (x36), .ref (ad (0))]) X E.room ml_X12_241 st_X12_miles (by omega) (by decide) (k_X12_miles (σ := (t, rO g ad N S G84 σ0)) (a1) (a2) (x40) (x41)) rfl rfl (Nat.le_of_ble_eq_true rfl) ⟨by omega, by omega⟩ dX12_go_158 (fun _ _ h => False.elim h) (fun v158 σ' hp158 => ?_)
                obtain ⟨hp158, rfl⟩ := hp158
                obtain ⟨r42, rfl, fr42⟩ := hp158
                show V g κ 10 (0) (0) (t, rO g ad N S G84 σ0) 161 [(9, .ref (ad (38 + (i84)))), (8, .int (nI (i84))), (7, .int (w2)), (0, .ref (ad (0))), (1, .int (a1)), (2, .int (a2)), (3, .int (nI (m))), (4, .int (a4)), (5, .int (a5)), (6, .int (a6))] [.int (r42), .int (a5), .int (w39), .int (nI ((m) ||| (2 ^ (i84)))), .int (x37), .int (x36), .ref (ad (0))]
                refine V_iadd X dX12_go_161 (V.topi (fun w43 ew43 => ?_))
                refine V_iload X dX12_go_162 9 rfl ?_
                refine V_callV (rest := []) X E.room ml_X12_254 in_X12_go (ci := 16) rfl se_X12_go (R_recv hK (q := 0) (rlv (by omega)) rfl) (by omega) (by decide) (ihr (r - 1) (by omega) (hI.mv hJ84) (m ||| 2 ^ i84) hlt5 (by omega) (x36) (x37) (w39) (w43) (a6)) rfl rfl (Nat.le_of_ble_eq_true rfl) ⟨by omega, by omega⟩ dX12_go_164 (fun _ _ h => False.elim h) (fun v164 σ' hp164 => ?_)
                obtain ⟨hp164, F44, rfl, hJF44⟩ := hp164
                have hKF44 : rJ F F44 := (hJ84 : rJ F G84).trans hJF44
                cases (hp164 : _ = none)
                show V g κ 10 (0) (0) (t, rO g ad N S F44 σ0) 167 [(9, .ref (ad (38 + (i84)))), (8, .int (nI (i84))), (7, .int (w2)), (0, .ref (ad (0))), (1, .int (a1)), (2, .int (a2)), (3, .int (nI (m))), (4, .int (a4)), (5, .int (a5)), (6, .int (a6))] []
                refine V_iinc X (nI (i84 + 1)) [(8, .int (nI (i84 + 1))), (9, .ref (ad (38 + (i84)))), (7, .int (w2)), (0, .ref (ad (0))), (1, .int (a1)), (2, .int (a2)), (3, .int (nI (m))), (4, .int (a4)), (5, .int (a5)), (6, .int (a6))] dX12_go_167 1 rfl (zinc _) (by decide) rfl ?_
                refine V_goto (tgt := 84) X dX12_go_170 (by decide) ?_
                exact V.sub [0, 2, 3, 4, 5, 6, 7, 8, 9] rfl (ih84 _ (by omega) (i84 + 1) F44 rfl (by omega) hKF44)
        exact L84 _ (0) F rfl (by omega) rJ.rfl'
      · -- 35 false
        refine V_iload X dX12_go_38 0 rfl ?_
        refine V_aload_n X dX12_go_40 1 rfl ?_
        refine R_getf X fl_X12_248 hK (0) (rlv (by omega)) rfl rfl dX12_go_41 (V.topi (fun x45 ex45 => ?_))
        refine V_icmplt X (tgt := 64) dX12_go_44 (by decide) (fun h46 => ?_) (fun h46 => ?_)
        · -- 44 true
          refine V_aload_n X dX12_go_64 1 rfl ?_
          refine V_iload X dX12_go_65 5 rfl ?_
          refine R_putf X fl_X12_245 zt_X12 hK (0) (rlv (by omega)) (by omega) rfl (Nat.le_of_ble_eq_true rfl) rfl rfl rfl rfl rfl dX12_go_67 (fun F47 hF47 => ?_)
          have hJF47 := (rJ.rfl' : rJ F F).set hF47 (rsc_t (by omega))
          refine V_aload_n X dX12_go_70 1 rfl ?_
          refine V_iload X dX12_go_71 0 rfl ?_
          refine R_putf X fl_X12_248 zt_X12 hK (0) (rlv (by omega)) (by omega) rfl (Nat.le_of_ble_eq_true rfl) rfl rfl rfl rfl rfl dX12_go_73 (fun F48 hF48 => ?_)
          have hJF48 := (hJF47 : rJ F F47).set hF48 (rsc_t (by omega))
          refine V_aload_n X dX12_go_76 1 rfl ?_
          refine V_iload_n X dX12_go_77 4 rfl ?_
          refine R_putf X fl_X12_251 zt_X12 hK (0) (rlv (by omega)) (by omega) rfl (Nat.le_of_ble_eq_true rfl) rfl rfl rfl rfl rfl dX12_go_78 (fun F49 hF49 => ?_)
          have hJF49 := (hJF48 : rJ F F48).set hF49 (rsc_t (by omega))
          refine V_iconst (v := nI 0) X dX12_go_81 (by decide) ?_
          refine V_istore X [(8, .int (nI (0))), (7, .int (w2)), (0, .ref (ad (0))), (1, .int (a1)), (2, .int (a2)), (3, .int (nI (m))), (4, .int (a4)), (5, .int (a5)), (6, .int (a6))] dX12_go_82 (by decide) rfl ?_
          have L84 : ∀ (n84 : Nat) (i84 : Nat) (G84 : Nat → Nat → Int32), n84 = N 4 - i84 → i84 ≤ N 4 → rJ F G84 → V g κ 10 (0) (0) (t, rO g ad N S G84 σ0) 84 [(8, .int (nI (i84))), (7, .int (w2)), (0, .ref (ad (0))), (1, .int (a1)), (2, .int (a2)), (3, .int (nI (m))), (4, .int (a4)), (5, .int (a5)), (6, .int (a6))] [] := by
            intro n84
            induction n84 using Nat.strongRecOn with
            | ind n84 ih84 =>
              intro i84 G84 hn84 hi84 hJ84
              refine V_iload X dX12_go_84 0 rfl ?_
              refine V_aload_n X dX12_go_86 2 rfl ?_
              refine R_getf X fl_X12_25 hK (0) (rlv (by omega)) rfl rfl dX12_go_87 ?_
              refine V_callV (rest := [.int (nI (i84))]) X E.room ml_X12_42 in_Jx4a65c_size_8abf5 (ci := 3) rfl se_Jx4a65c_size_8abf5 (rO_list hK (i := 4) (by decide)) (by omega) (by decide) (r_size hK 4 (by decide)) rfl rfl (Nat.le_of_ble_eq_true rfl) ⟨by omega, by omega⟩ dX12_go_90 (fun _ _ h => False.elim h) (fun v50 σ' hp51 => ?_)
              obtain ⟨hp51, rfl⟩ := hp51
              cases (hp51 : _ = some (Value.int (nI (N 4))))
              show V g κ 10 (0) (0) (t, rO g ad N S G84 σ0) 93 [(8, .int (nI (i84))), (7, .int (w2)), (0, .ref (ad (0))), (1, .int (a1)), (2, .int (a2)), (3, .int (nI (m))), (4, .int (a4)), (5, .int (a5)), (6, .int (a6))] [.int (nI (N 4)), .int (nI (i84))]
              refine V_icmpgeN X (by omega) (by omega) (tgt := 173) dX12_go_93 (by decide) (fun h52 => ?_) (fun h52 => ?_)
              · -- 93 true
                exact V_vret X E (by omega) (by omega) ⟨rfl, ⟨_, rfl, hJ84⟩⟩ dX12_go_173
              · -- 93 false
                refine V_aload_n X dX12_go_96 2 rfl ?_
                refine R_getf X fl_X12_25 hK (0) (rlv (by omega)) rfl rfl dX12_go_97 ?_
                refine V_iload X dX12_go_100 0 rfl ?_
                refine V_callV (rest := []) X E.room ml_X12_97 in_Jx4a65c_get_915e3 (ci := 3) rfl se_Jx4a65c_get_915e3 (rO_list hK (i := 4) (by decide)) (by omega) (by decide) (r_get hK 4 (by decide) (j := i84) (by omega) (by omega)) rfl rfl (Nat.le_of_ble_eq_true rfl) ⟨by omega, by omega⟩ dX12_go_102 (fun _ _ h => False.elim h) (fun v53 σ' hp54 => ?_)
                obtain ⟨hp54, rfl⟩ := hp54
                cases (hp54 : _ = some (Value.ref (ad (38 + (i84)))))
                show V g κ 10 (0) (0) (t, rO g ad N S G84 σ0) 105 [(8, .int (nI (i84))), (7, .int (w2)), (0, .ref (ad (0))), (1, .int (a1)), (2, .int (a2)), (3, .int (nI (m))), (4, .int (a4)), (5, .int (a5)), (6, .int (a6))] [.ref (ad (38 + (i84)))]
                refine V_cast X (C := RX11) rfl cl_X12_147 (R_recv hK (q := 38 + (i84)) (rlv (by omega)) (rCell_town (by omega))) dX12_go_105 ?_
                refine V_astore X [(9, .ref (ad (38 + (i84)))), (8, .int (nI (i84))), (7, .int (w2)), (0, .ref (ad (0))), (1, .int (a1)), (2, .int (a2)), (3, .int (nI (m))), (4, .int (a4)), (5, .int (a5)), (6, .int (a6))] dX12_go_108 (by decide) rfl ?_
                refine V_iload_n X dX12_go_110 6 rfl ?_
                refine V_iload X dX12_go_111 1 rfl ?_
                refine V_callS (rest := []) X E.room ml_X12_159 st_X12_isIn (by omega) (by decide) (k_X12_isIn (σ := (t, rO g ad N S G84 σ0)) (nI (m)) (nI (i84))) rfl rfl (Nat.le_of_ble_eq_true rfl) ⟨by omega, by omega⟩ dX12_go_113 (fun _ _ h => False.elim h) (fun v113 σ' hp113 => ?_)
                obtain ⟨hp113, rfl⟩ := hp113
                rcases hp113 with ⟨rfl, z55⟩ | ⟨rfl, z55⟩
                · -- yes
                  show V g κ 10 (0) (0) (t, rO g ad N S G84 σ0) 116 [(9, .ref (ad (38 + (i84)))), (8, .int (nI (i84))), (7, .int (w2)), (0, .ref (ad (0))), (1, .int (a1)), (2, .int (a2)), (3, .int (nI (m))), (4, .int (a4)), (5, .int (a5)), (6, .int (a6))] [.int (nI (1))]
                  refine V_ifneN X (by omega) (tgt := 167) dX12_go_116 (by decide) (fun h56 => ?_) (fun h56 => absurd h56 (by omega))
                  refine V_iinc X (nI (i84 + 1)) [(8, .int (nI (i84 + 1))), (9, .ref (ad (38 + (i84)))), (7, .int (w2)), (0, .ref (ad (0))), (1, .int (a1)), (2, .int (a2)), (3, .int (nI (m))), (4, .int (a4)), (5, .int (a5)), (6, .int (a6))] dX12_go_167 1 rfl (zinc _) (by decide) rfl ?_
                  refine V_goto (tgt := 84) X dX12_go_170 (by decide) ?_
                  exact V.sub [0, 2, 3, 4, 5, 6, 7, 8, 9] rfl (ih84 _ (by omega) (i84 + 1) G84 rfl (by omega) hJ84)
                · -- no
                  have hbit : m.testBit i84 = false := by cases hb : m.testBit i84 with | true => exact absurd ((zIn_nat (by omega) (by omega)).mpr hb) z55 | false => rfl
                  have hor := zpc_or m hm i84 (by omega) hbit
                  have ho5 := zpc_5 m hm
                  have hlt5 : m ||| 2 ^ i84 < 32 := zor (n := 5) hm (by omega)
                  have hr1 := zpc_5 _ hlt5
                  show V g κ 10 (0) (0) (t, rO g ad N S G84 σ0) 116 [(9, .ref (ad (38 + (i84)))), (8, .int (nI (i84))), (7, .int (w2)), (0, .ref (ad (0))), (1, .int (a1)), (2, .int (a2)), (3, .int (nI (m))), (4, .int (a4)), (5, .int (a5)), (6, .int (a6))] [.int (nI (0))]
                  refine V_ifneN X (by omega) (tgt := 167) dX12_go_116 (by decide) (fun h57 => absurd h57 (by omega)) (fun h57 => ?_)
                  refine V_aload_n X dX12_go_119 3 rfl ?_
                  refine V_aload X dX12_go_120 0 rfl ?_
                  refine R_getf X fl_X12_150 hK (38 + (i84)) (rlv (by omega)) (rCell_town (by omega)) rfl dX12_go_122 (V.topi (fun x58 ex58 => ?_))
                  refine V_aload X dX12_go_125 0 rfl ?_
                  refine R_getf X fl_X12_153 hK (38 + (i84)) (rlv (by omega)) (rCell_town (by omega)) rfl dX12_go_127 (V.topi (fun x59 ex59 => ?_))
                  refine V_iload_n X dX12_go_130 6 rfl ?_
                  refine V_iconst (v := nI 1) X dX12_go_131 (by decide) ?_
                  refine V_iload X dX12_go_132 1 rfl ?_
                  refine V_ishl1 X (by omega) dX12_go_134 ?_
                  refine V_iorN X dX12_go_135 ?_
                  refine V_iload X dX12_go_136 7 rfl ?_
                  refine V_aload X dX12_go_138 0 rfl ?_
                  refine R_getf X fl_X12_156 hK (38 + (i84)) (rlv (by omega)) (rCell_town (by omega)) rfl dX12_go_140 (V.topi (fun x60 ex60 => ?_))
                  refine V_iadd X dX12_go_143 (V.topi (fun w61 ew61 => ?_))
                  refine V_iload X dX12_go_144 8 rfl ?_
                  refine V_iload_n X dX12_go_146 4 rfl ?_
                  refine V_iload_n X dX12_go_147 5 rfl ?_
                  refine V_aload X dX12_go_148 0 rfl ?_
                  refine R_getf X fl_X12_150 hK (38 + (i84)) (rlv (by omega)) (rCell_town (by omega)) rfl dX12_go_150 (V.topi (fun x62 ex62 => ?_))
                  refine V_aload X dX12_go_153 0 rfl ?_
                  refine R_getf X fl_X12_153 hK (38 + (i84)) (rlv (by omega)) (rCell_town (by omega)) rfl dX12_go_155 (V.topi (fun x63 ex63 => ?_))
                  refine V_callS (rest := [.int (a5), .int (w61), .int (nI ((m) ||| (2 ^ (i84)))), .int (x59), .int (x58), .ref (ad (0))]) X E.room ml_X12_241 st_X12_miles (by omega) (by decide) (k_X12_miles (σ := (t, rO g ad N S G84 σ0)) (a1) (a2) (x62) (x63)) rfl rfl (Nat.le_of_ble_eq_true rfl) ⟨by omega, by omega⟩ dX12_go_158 (fun _ _ h => False.elim h) (fun v158 σ' hp158 => ?_)
                  obtain ⟨hp158, rfl⟩ := hp158
                  obtain ⟨r64, rfl, fr64⟩ := hp158
                  show V g κ 10 (0) (0) (t, rO g ad N S G84 σ0) 161 [(9, .ref (ad (38 + (i84)))), (8, .int (nI (i84))), (7, .int (w2)), (0, .ref (ad (0))), (1, .int (a1)), (2, .int (a2)), (3, .int (nI (m))), (4, .int (a4)), (5, .int (a5)), (6, .int (a6))] [.int (r64), .int (a5), .int (w61), .int (nI ((m) ||| (2 ^ (i84)))), .int (x59), .int (x58), .ref (ad (0))]
                  refine V_iadd X dX12_go_161 (V.topi (fun w65 ew65 => ?_))
                  refine V_iload X dX12_go_162 9 rfl ?_
                  refine V_callV (rest := []) X E.room ml_X12_254 in_X12_go (ci := 16) rfl se_X12_go (R_recv hK (q := 0) (rlv (by omega)) rfl) (by omega) (by decide) (ihr (r - 1) (by omega) (hI.mv hJ84) (m ||| 2 ^ i84) hlt5 (by omega) (x58) (x59) (w61) (w65) (a6)) rfl rfl (Nat.le_of_ble_eq_true rfl) ⟨by omega, by omega⟩ dX12_go_164 (fun _ _ h => False.elim h) (fun v164 σ' hp164 => ?_)
                  obtain ⟨hp164, F66, rfl, hJF66⟩ := hp164
                  have hKF66 : rJ F F66 := (hJ84 : rJ F G84).trans hJF66
                  cases (hp164 : _ = none)
                  show V g κ 10 (0) (0) (t, rO g ad N S F66 σ0) 167 [(9, .ref (ad (38 + (i84)))), (8, .int (nI (i84))), (7, .int (w2)), (0, .ref (ad (0))), (1, .int (a1)), (2, .int (a2)), (3, .int (nI (m))), (4, .int (a4)), (5, .int (a5)), (6, .int (a6))] []
                  refine V_iinc X (nI (i84 + 1)) [(8, .int (nI (i84 + 1))), (9, .ref (ad (38 + (i84)))), (7, .int (w2)), (0, .ref (ad (0))), (1, .int (a1)), (2, .int (a2)), (3, .int (nI (m))), (4, .int (a4)), (5, .int (a5)), (6, .int (a6))] dX12_go_167 1 rfl (zinc _) (by decide) rfl ?_
                  refine V_goto (tgt := 84) X dX12_go_170 (by decide) ?_
                  exact V.sub [0, 2, 3, 4, 5, 6, 7, 8, 9] rfl (ih84 _ (by omega) (i84 + 1) F66 rfl (by omega) hKF66)
          exact L84 _ (0) F49 rfl (by omega) hJF49
        · -- 44 false
          refine V_iload X dX12_go_47 0 rfl ?_
          refine V_aload_n X dX12_go_49 1 rfl ?_
          refine R_getf X fl_X12_248 hK (0) (rlv (by omega)) rfl rfl dX12_go_50 (V.topi (fun x67 ex67 => ?_))
          refine V_icmpne X (tgt := 81) dX12_go_53 (by decide) (fun h68 => ?_) (fun h68 => ?_)
          · -- 53 true
            refine V_iconst (v := nI 0) X dX12_go_81 (by decide) ?_
            refine V_istore X [(8, .int (nI (0))), (7, .int (w2)), (0, .ref (ad (0))), (1, .int (a1)), (2, .int (a2)), (3, .int (nI (m))), (4, .int (a4)), (5, .int (a5)), (6, .int (a6))] dX12_go_82 (by decide) rfl ?_
            have L84 : ∀ (n84 : Nat) (i84 : Nat) (G84 : Nat → Nat → Int32), n84 = N 4 - i84 → i84 ≤ N 4 → rJ F G84 → V g κ 10 (0) (0) (t, rO g ad N S G84 σ0) 84 [(8, .int (nI (i84))), (7, .int (w2)), (0, .ref (ad (0))), (1, .int (a1)), (2, .int (a2)), (3, .int (nI (m))), (4, .int (a4)), (5, .int (a5)), (6, .int (a6))] [] := by
              intro n84
              induction n84 using Nat.strongRecOn with
              | ind n84 ih84 =>
                intro i84 G84 hn84 hi84 hJ84
                refine V_iload X dX12_go_84 0 rfl ?_
                refine V_aload_n X dX12_go_86 2 rfl ?_
                refine R_getf X fl_X12_25 hK (0) (rlv (by omega)) rfl rfl dX12_go_87 ?_
                refine V_callV (rest := [.int (nI (i84))]) X E.room ml_X12_42 in_Jx4a65c_size_8abf5 (ci := 3) rfl se_Jx4a65c_size_8abf5 (rO_list hK (i := 4) (by decide)) (by omega) (by decide) (r_size hK 4 (by decide)) rfl rfl (Nat.le_of_ble_eq_true rfl) ⟨by omega, by omega⟩ dX12_go_90 (fun _ _ h => False.elim h) (fun v69 σ' hp70 => ?_)
                obtain ⟨hp70, rfl⟩ := hp70
                cases (hp70 : _ = some (Value.int (nI (N 4))))
                show V g κ 10 (0) (0) (t, rO g ad N S G84 σ0) 93 [(8, .int (nI (i84))), (7, .int (w2)), (0, .ref (ad (0))), (1, .int (a1)), (2, .int (a2)), (3, .int (nI (m))), (4, .int (a4)), (5, .int (a5)), (6, .int (a6))] [.int (nI (N 4)), .int (nI (i84))]
                refine V_icmpgeN X (by omega) (by omega) (tgt := 173) dX12_go_93 (by decide) (fun h71 => ?_) (fun h71 => ?_)
                · -- 93 true
                  exact V_vret X E (by omega) (by omega) ⟨rfl, ⟨_, rfl, hJ84⟩⟩ dX12_go_173
                · -- 93 false
                  refine V_aload_n X dX12_go_96 2 rfl ?_
                  refine R_getf X fl_X12_25 hK (0) (rlv (by omega)) rfl rfl dX12_go_97 ?_
                  refine V_iload X dX12_go_100 0 rfl ?_
                  refine V_callV (rest := []) X E.room ml_X12_97 in_Jx4a65c_get_915e3 (ci := 3) rfl se_Jx4a65c_get_915e3 (rO_list hK (i := 4) (by decide)) (by omega) (by decide) (r_get hK 4 (by decide) (j := i84) (by omega) (by omega)) rfl rfl (Nat.le_of_ble_eq_true rfl) ⟨by omega, by omega⟩ dX12_go_102 (fun _ _ h => False.elim h) (fun v72 σ' hp73 => ?_)
                  obtain ⟨hp73, rfl⟩ := hp73
                  cases (hp73 : _ = some (Value.ref (ad (38 + (i84)))))
                  show V g κ 10 (0) (0) (t, rO g ad N S G84 σ0) 105 [(8, .int (nI (i84))), (7, .int (w2)), (0, .ref (ad (0))), (1, .int (a1)), (2, .int (a2)), (3, .int (nI (m))), (4, .int (a4)), (5, .int (a5)), (6, .int (a6))] [.ref (ad (38 + (i84)))]
                  refine V_cast X (C := RX11) rfl cl_X12_147 (R_recv hK (q := 38 + (i84)) (rlv (by omega)) (rCell_town (by omega))) dX12_go_105 ?_
                  refine V_astore X [(9, .ref (ad (38 + (i84)))), (8, .int (nI (i84))), (7, .int (w2)), (0, .ref (ad (0))), (1, .int (a1)), (2, .int (a2)), (3, .int (nI (m))), (4, .int (a4)), (5, .int (a5)), (6, .int (a6))] dX12_go_108 (by decide) rfl ?_
                  refine V_iload_n X dX12_go_110 6 rfl ?_
                  refine V_iload X dX12_go_111 1 rfl ?_
                  refine V_callS (rest := []) X E.room ml_X12_159 st_X12_isIn (by omega) (by decide) (k_X12_isIn (σ := (t, rO g ad N S G84 σ0)) (nI (m)) (nI (i84))) rfl rfl (Nat.le_of_ble_eq_true rfl) ⟨by omega, by omega⟩ dX12_go_113 (fun _ _ h => False.elim h) (fun v113 σ' hp113 => ?_)
                  obtain ⟨hp113, rfl⟩ := hp113
                  rcases hp113 with ⟨rfl, z74⟩ | ⟨rfl, z74⟩
                  · -- yes
                    show V g κ 10 (0) (0) (t, rO g ad N S G84 σ0) 116 [(9, .ref (ad (38 + (i84)))), (8, .int (nI (i84))), (7, .int (w2)), (0, .ref (ad (0))), (1, .int (a1)), (2, .int (a2)), (3, .int (nI (m))), (4, .int (a4)), (5, .int (a5)), (6, .int (a6))] [.int (nI (1))]
                    refine V_ifneN X (by omega) (tgt := 167) dX12_go_116 (by decide) (fun h75 => ?_) (fun h75 => absurd h75 (by omega))
                    refine V_iinc X (nI (i84 + 1)) [(8, .int (nI (i84 + 1))), (9, .ref (ad (38 + (i84)))), (7, .int (w2)), (0, .ref (ad (0))), (1, .int (a1)), (2, .int (a2)), (3, .int (nI (m))), (4, .int (a4)), (5, .int (a5)), (6, .int (a6))] dX12_go_167 1 rfl (zinc _) (by decide) rfl ?_
                    refine V_goto (tgt := 84) X dX12_go_170 (by decide) ?_
                    exact V.sub [0, 2, 3, 4, 5, 6, 7, 8, 9] rfl (ih84 _ (by omega) (i84 + 1) G84 rfl (by omega) hJ84)
                  · -- no
                    have hbit : m.testBit i84 = false := by cases hb : m.testBit i84 with | true => exact absurd ((zIn_nat (by omega) (by omega)).mpr hb) z74 | false => rfl
                    have hor := zpc_or m hm i84 (by omega) hbit
                    have ho5 := zpc_5 m hm
                    have hlt5 : m ||| 2 ^ i84 < 32 := zor (n := 5) hm (by omega)
                    have hr1 := zpc_5 _ hlt5
                    show V g κ 10 (0) (0) (t, rO g ad N S G84 σ0) 116 [(9, .ref (ad (38 + (i84)))), (8, .int (nI (i84))), (7, .int (w2)), (0, .ref (ad (0))), (1, .int (a1)), (2, .int (a2)), (3, .int (nI (m))), (4, .int (a4)), (5, .int (a5)), (6, .int (a6))] [.int (nI (0))]
                    refine V_ifneN X (by omega) (tgt := 167) dX12_go_116 (by decide) (fun h76 => absurd h76 (by omega)) (fun h76 => ?_)
                    refine V_aload_n X dX12_go_119 3 rfl ?_
                    refine V_aload X dX12_go_120 0 rfl ?_
                    refine R_getf X fl_X12_150 hK (38 + (i84)) (rlv (by omega)) (rCell_town (by omega)) rfl dX12_go_122 (V.topi (fun x77 ex77 => ?_))
                    refine V_aload X dX12_go_125 0 rfl ?_
                    refine R_getf X fl_X12_153 hK (38 + (i84)) (rlv (by omega)) (rCell_town (by omega)) rfl dX12_go_127 (V.topi (fun x78 ex78 => ?_))
                    refine V_iload_n X dX12_go_130 6 rfl ?_
                    refine V_iconst (v := nI 1) X dX12_go_131 (by decide) ?_
                    refine V_iload X dX12_go_132 1 rfl ?_
                    refine V_ishl1 X (by omega) dX12_go_134 ?_
                    refine V_iorN X dX12_go_135 ?_
                    refine V_iload X dX12_go_136 7 rfl ?_
                    refine V_aload X dX12_go_138 0 rfl ?_
                    refine R_getf X fl_X12_156 hK (38 + (i84)) (rlv (by omega)) (rCell_town (by omega)) rfl dX12_go_140 (V.topi (fun x79 ex79 => ?_))
                    refine V_iadd X dX12_go_143 (V.topi (fun w80 ew80 => ?_))
                    refine V_iload X dX12_go_144 8 rfl ?_
                    refine V_iload_n X dX12_go_146 4 rfl ?_
                    refine V_iload_n X dX12_go_147 5 rfl ?_
                    refine V_aload X dX12_go_148 0 rfl ?_
                    refine R_getf X fl_X12_150 hK (38 + (i84)) (rlv (by omega)) (rCell_town (by omega)) rfl dX12_go_150 (V.topi (fun x81 ex81 => ?_))
                    refine V_aload X dX12_go_153 0 rfl ?_
                    refine R_getf X fl_X12_153 hK (38 + (i84)) (rlv (by omega)) (rCell_town (by omega)) rfl dX12_go_155 (V.topi (fun x82 ex82 => ?_))
                    refine V_callS (rest := [.int (a5), .int (w80), .int (nI ((m) ||| (2 ^ (i84)))), .int (x78), .int (x77), .ref (ad (0))]) X E.room ml_X12_241 st_X12_miles (by omega) (by decide) (k_X12_miles (σ := (t, rO g ad N S G84 σ0)) (a1) (a2) (x81) (x82)) rfl rfl (Nat.le_of_ble_eq_true rfl) ⟨by omega, by omega⟩ dX12_go_158 (fun _ _ h => False.elim h) (fun v158 σ' hp158 => ?_)
                    obtain ⟨hp158, rfl⟩ := hp158
                    obtain ⟨r83, rfl, fr83⟩ := hp158
                    show V g κ 10 (0) (0) (t, rO g ad N S G84 σ0) 161 [(9, .ref (ad (38 + (i84)))), (8, .int (nI (i84))), (7, .int (w2)), (0, .ref (ad (0))), (1, .int (a1)), (2, .int (a2)), (3, .int (nI (m))), (4, .int (a4)), (5, .int (a5)), (6, .int (a6))] [.int (r83), .int (a5), .int (w80), .int (nI ((m) ||| (2 ^ (i84)))), .int (x78), .int (x77), .ref (ad (0))]
                    refine V_iadd X dX12_go_161 (V.topi (fun w84 ew84 => ?_))
                    refine V_iload X dX12_go_162 9 rfl ?_
                    refine V_callV (rest := []) X E.room ml_X12_254 in_X12_go (ci := 16) rfl se_X12_go (R_recv hK (q := 0) (rlv (by omega)) rfl) (by omega) (by decide) (ihr (r - 1) (by omega) (hI.mv hJ84) (m ||| 2 ^ i84) hlt5 (by omega) (x77) (x78) (w80) (w84) (a6)) rfl rfl (Nat.le_of_ble_eq_true rfl) ⟨by omega, by omega⟩ dX12_go_164 (fun _ _ h => False.elim h) (fun v164 σ' hp164 => ?_)
                    obtain ⟨hp164, F85, rfl, hJF85⟩ := hp164
                    have hKF85 : rJ F F85 := (hJ84 : rJ F G84).trans hJF85
                    cases (hp164 : _ = none)
                    show V g κ 10 (0) (0) (t, rO g ad N S F85 σ0) 167 [(9, .ref (ad (38 + (i84)))), (8, .int (nI (i84))), (7, .int (w2)), (0, .ref (ad (0))), (1, .int (a1)), (2, .int (a2)), (3, .int (nI (m))), (4, .int (a4)), (5, .int (a5)), (6, .int (a6))] []
                    refine V_iinc X (nI (i84 + 1)) [(8, .int (nI (i84 + 1))), (9, .ref (ad (38 + (i84)))), (7, .int (w2)), (0, .ref (ad (0))), (1, .int (a1)), (2, .int (a2)), (3, .int (nI (m))), (4, .int (a4)), (5, .int (a5)), (6, .int (a6))] dX12_go_167 1 rfl (zinc _) (by decide) rfl ?_
                    refine V_goto (tgt := 84) X dX12_go_170 (by decide) ?_
                    exact V.sub [0, 2, 3, 4, 5, 6, 7, 8, 9] rfl (ih84 _ (by omega) (i84 + 1) F85 rfl (by omega) hKF85)
            exact L84 _ (0) F rfl (by omega) rJ.rfl'
          · -- 53 false
            refine V_iload_n X dX12_go_56 4 rfl ?_
            refine V_aload_n X dX12_go_57 1 rfl ?_
            refine R_getf X fl_X12_251 hK (0) (rlv (by omega)) rfl rfl dX12_go_58 (V.topi (fun x86 ex86 => ?_))
            refine V_icmpge X (tgt := 81) dX12_go_61 (by decide) (fun h87 => ?_) (fun h87 => ?_)
            · -- 61 true
              refine V_iconst (v := nI 0) X dX12_go_81 (by decide) ?_
              refine V_istore X [(8, .int (nI (0))), (7, .int (w2)), (0, .ref (ad (0))), (1, .int (a1)), (2, .int (a2)), (3, .int (nI (m))), (4, .int (a4)), (5, .int (a5)), (6, .int (a6))] dX12_go_82 (by decide) rfl ?_
              have L84 : ∀ (n84 : Nat) (i84 : Nat) (G84 : Nat → Nat → Int32), n84 = N 4 - i84 → i84 ≤ N 4 → rJ F G84 → V g κ 10 (0) (0) (t, rO g ad N S G84 σ0) 84 [(8, .int (nI (i84))), (7, .int (w2)), (0, .ref (ad (0))), (1, .int (a1)), (2, .int (a2)), (3, .int (nI (m))), (4, .int (a4)), (5, .int (a5)), (6, .int (a6))] [] := by
                intro n84
                induction n84 using Nat.strongRecOn with
                | ind n84 ih84 =>
                  intro i84 G84 hn84 hi84 hJ84
                  refine V_iload X dX12_go_84 0 rfl ?_
                  refine V_aload_n X dX12_go_86 2 rfl ?_
                  refine R_getf X fl_X12_25 hK (0) (rlv (by omega)) rfl rfl dX12_go_87 ?_
                  refine V_callV (rest := [.int (nI (i84))]) X E.room ml_X12_42 in_Jx4a65c_size_8abf5 (ci := 3) rfl se_Jx4a65c_size_8abf5 (rO_list hK (i := 4) (by decide)) (by omega) (by decide) (r_size hK 4 (by decide)) rfl rfl (Nat.le_of_ble_eq_true rfl) ⟨by omega, by omega⟩ dX12_go_90 (fun _ _ h => False.elim h) (fun v88 σ' hp89 => ?_)
                  obtain ⟨hp89, rfl⟩ := hp89
                  cases (hp89 : _ = some (Value.int (nI (N 4))))
                  show V g κ 10 (0) (0) (t, rO g ad N S G84 σ0) 93 [(8, .int (nI (i84))), (7, .int (w2)), (0, .ref (ad (0))), (1, .int (a1)), (2, .int (a2)), (3, .int (nI (m))), (4, .int (a4)), (5, .int (a5)), (6, .int (a6))] [.int (nI (N 4)), .int (nI (i84))]
                  refine V_icmpgeN X (by omega) (by omega) (tgt := 173) dX12_go_93 (by decide) (fun h90 => ?_) (fun h90 => ?_)
                  · -- 93 true
                    exact V_vret X E (by omega) (by omega) ⟨rfl, ⟨_, rfl, hJ84⟩⟩ dX12_go_173
                  · -- 93 false
                    refine V_aload_n X dX12_go_96 2 rfl ?_
                    refine R_getf X fl_X12_25 hK (0) (rlv (by omega)) rfl rfl dX12_go_97 ?_
                    refine V_iload X dX12_go_100 0 rfl ?_
                    refine V_callV (rest := []) X E.room ml_X12_97 in_Jx4a65c_get_915e3 (ci := 3) rfl se_Jx4a65c_get_915e3 (rO_list hK (i := 4) (by decide)) (by omega) (by decide) (r_get hK 4 (by decide) (j := i84) (by omega) (by omega)) rfl rfl (Nat.le_of_ble_eq_true rfl) ⟨by omega, by omega⟩ dX12_go_102 (fun _ _ h => False.elim h) (fun v91 σ' hp92 => ?_)
                    obtain ⟨hp92, rfl⟩ := hp92
                    cases (hp92 : _ = some (Value.ref (ad (38 + (i84)))))
                    show V g κ 10 (0) (0) (t, rO g ad N S G84 σ0) 105 [(8, .int (nI (i84))), (7, .int (w2)), (0, .ref (ad (0))), (1, .int (a1)), (2, .int (a2)), (3, .int (nI (m))), (4, .int (a4)), (5, .int (a5)), (6, .int (a6))] [.ref (ad (38 + (i84)))]
                    refine V_cast X (C := RX11) rfl cl_X12_147 (R_recv hK (q := 38 + (i84)) (rlv (by omega)) (rCell_town (by omega))) dX12_go_105 ?_
                    refine V_astore X [(9, .ref (ad (38 + (i84)))), (8, .int (nI (i84))), (7, .int (w2)), (0, .ref (ad (0))), (1, .int (a1)), (2, .int (a2)), (3, .int (nI (m))), (4, .int (a4)), (5, .int (a5)), (6, .int (a6))] dX12_go_108 (by decide) rfl ?_
                    refine V_iload_n X dX12_go_110 6 rfl ?_
                    refine V_iload X dX12_go_111 1 rfl ?_
                    refine V_callS (rest := []) X E.room ml_X12_159 st_X12_isIn (by omega) (by decide) (k_X12_isIn (σ := (t, rO g ad N S G84 σ0)) (nI (m)) (nI (i84))) rfl rfl (Nat.le_of_ble_eq_true rfl) ⟨by omega, by omega⟩ dX12_go_113 (fun _ _ h => False.elim h) (fun v113 σ' hp113 => ?_)
                    obtain ⟨hp113, rfl⟩ := hp113
                    rcases hp113 with ⟨rfl, z93⟩ | ⟨rfl, z93⟩
                    · -- yes
                      show V g κ 10 (0) (0) (t, rO g ad N S G84 σ0) 116 [(9, .ref (ad (38 + (i84)))), (8, .int (nI (i84))), (7, .int (w2)), (0, .ref (ad (0))), (1, .int (a1)), (2, .int (a2)), (3, .int (nI (m))), (4, .int (a4)), (5, .int (a5)), (6, .int (a6))] [.int (nI (1))]
                      refine V_ifneN X (by omega) (tgt := 167) dX12_go_116 (by decide) (fun h94 => ?_) (fun h94 => absurd h94 (by omega))
                      refine V_iinc X (nI (i84 + 1)) [(8, .int (nI (i84 + 1))), (9, .ref (ad (38 + (i84)))), (7, .int (w2)), (0, .ref (ad (0))), (1, .int (a1)), (2, .int (a2)), (3, .int (nI (m))), (4, .int (a4)), (5, .int (a5)), (6, .int (a6))] dX12_go_167 1 rfl (zinc _) (by decide) rfl ?_
                      refine V_goto (tgt := 84) X dX12_go_170 (by decide) ?_
                      exact V.sub [0, 2, 3, 4, 5, 6, 7, 8, 9] rfl (ih84 _ (by omega) (i84 + 1) G84 rfl (by omega) hJ84)
                    · -- no
                      have hbit : m.testBit i84 = false := by cases hb : m.testBit i84 with | true => exact absurd ((zIn_nat (by omega) (by omega)).mpr hb) z93 | false => rfl
                      have hor := zpc_or m hm i84 (by omega) hbit
                      have ho5 := zpc_5 m hm
                      have hlt5 : m ||| 2 ^ i84 < 32 := zor (n := 5) hm (by omega)
                      have hr1 := zpc_5 _ hlt5
                      show V g κ 10 (0) (0) (t, rO g ad N S G84 σ0) 116 [(9, .ref (ad (38 + (i84)))), (8, .int (nI (i84))), (7, .int (w2)), (0, .ref (ad (0))), (1, .int (a1)), (2, .int (a2)), (3, .int (nI (m))), (4, .int (a4)), (5, .int (a5)), (6, .int (a6))] [.int (nI (0))]
                      refine V_ifneN X (by omega) (tgt := 167) dX12_go_116 (by decide) (fun h95 => absurd h95 (by omega)) (fun h95 => ?_)
                      refine V_aload_n X dX12_go_119 3 rfl ?_
                      refine V_aload X dX12_go_120 0 rfl ?_
                      refine R_getf X fl_X12_150 hK (38 + (i84)) (rlv (by omega)) (rCell_town (by omega)) rfl dX12_go_122 (V.topi (fun x96 ex96 => ?_))
                      refine V_aload X dX12_go_125 0 rfl ?_
                      refine R_getf X fl_X12_153 hK (38 + (i84)) (rlv (by omega)) (rCell_town (by omega)) rfl dX12_go_127 (V.topi (fun x97 ex97 => ?_))
                      refine V_iload_n X dX12_go_130 6 rfl ?_
                      refine V_iconst (v := nI 1) X dX12_go_131 (by decide) ?_
                      refine V_iload X dX12_go_132 1 rfl ?_
                      refine V_ishl1 X (by omega) dX12_go_134 ?_
                      refine V_iorN X dX12_go_135 ?_
                      refine V_iload X dX12_go_136 7 rfl ?_
                      refine V_aload X dX12_go_138 0 rfl ?_
                      refine R_getf X fl_X12_156 hK (38 + (i84)) (rlv (by omega)) (rCell_town (by omega)) rfl dX12_go_140 (V.topi (fun x98 ex98 => ?_))
                      refine V_iadd X dX12_go_143 (V.topi (fun w99 ew99 => ?_))
                      refine V_iload X dX12_go_144 8 rfl ?_
                      refine V_iload_n X dX12_go_146 4 rfl ?_
                      refine V_iload_n X dX12_go_147 5 rfl ?_
                      refine V_aload X dX12_go_148 0 rfl ?_
                      refine R_getf X fl_X12_150 hK (38 + (i84)) (rlv (by omega)) (rCell_town (by omega)) rfl dX12_go_150 (V.topi (fun x100 ex100 => ?_))
                      refine V_aload X dX12_go_153 0 rfl ?_
                      refine R_getf X fl_X12_153 hK (38 + (i84)) (rlv (by omega)) (rCell_town (by omega)) rfl dX12_go_155 (V.topi (fun x101 ex101 => ?_))
                      refine V_callS (rest := [.int (a5), .int (w99), .int (nI ((m) ||| (2 ^ (i84)))), .int (x97), .int (x96), .ref (ad (0))]) X E.room ml_X12_241 st_X12_miles (by omega) (by decide) (k_X12_miles (σ := (t, rO g ad N S G84 σ0)) (a1) (a2) (x100) (x101)) rfl rfl (Nat.le_of_ble_eq_true rfl) ⟨by omega, by omega⟩ dX12_go_158 (fun _ _ h => False.elim h) (fun v158 σ' hp158 => ?_)
                      obtain ⟨hp158, rfl⟩ := hp158
                      obtain ⟨r102, rfl, fr102⟩ := hp158
                      show V g κ 10 (0) (0) (t, rO g ad N S G84 σ0) 161 [(9, .ref (ad (38 + (i84)))), (8, .int (nI (i84))), (7, .int (w2)), (0, .ref (ad (0))), (1, .int (a1)), (2, .int (a2)), (3, .int (nI (m))), (4, .int (a4)), (5, .int (a5)), (6, .int (a6))] [.int (r102), .int (a5), .int (w99), .int (nI ((m) ||| (2 ^ (i84)))), .int (x97), .int (x96), .ref (ad (0))]
                      refine V_iadd X dX12_go_161 (V.topi (fun w103 ew103 => ?_))
                      refine V_iload X dX12_go_162 9 rfl ?_
                      refine V_callV (rest := []) X E.room ml_X12_254 in_X12_go (ci := 16) rfl se_X12_go (R_recv hK (q := 0) (rlv (by omega)) rfl) (by omega) (by decide) (ihr (r - 1) (by omega) (hI.mv hJ84) (m ||| 2 ^ i84) hlt5 (by omega) (x96) (x97) (w99) (w103) (a6)) rfl rfl (Nat.le_of_ble_eq_true rfl) ⟨by omega, by omega⟩ dX12_go_164 (fun _ _ h => False.elim h) (fun v164 σ' hp164 => ?_)
                      obtain ⟨hp164, F104, rfl, hJF104⟩ := hp164
                      have hKF104 : rJ F F104 := (hJ84 : rJ F G84).trans hJF104
                      cases (hp164 : _ = none)
                      show V g κ 10 (0) (0) (t, rO g ad N S F104 σ0) 167 [(9, .ref (ad (38 + (i84)))), (8, .int (nI (i84))), (7, .int (w2)), (0, .ref (ad (0))), (1, .int (a1)), (2, .int (a2)), (3, .int (nI (m))), (4, .int (a4)), (5, .int (a5)), (6, .int (a6))] []
                      refine V_iinc X (nI (i84 + 1)) [(8, .int (nI (i84 + 1))), (9, .ref (ad (38 + (i84)))), (7, .int (w2)), (0, .ref (ad (0))), (1, .int (a1)), (2, .int (a2)), (3, .int (nI (m))), (4, .int (a4)), (5, .int (a5)), (6, .int (a6))] dX12_go_167 1 rfl (zinc _) (by decide) rfl ?_
                      refine V_goto (tgt := 84) X dX12_go_170 (by decide) ?_
                      exact V.sub [0, 2, 3, 4, 5, 6, 7, 8, 9] rfl (ih84 _ (by omega) (i84 + 1) F104 rfl (by omega) hKF104)
              exact L84 _ (0) F rfl (by omega) rJ.rfl'
            · -- 61 false
              refine V_aload_n X dX12_go_64 1 rfl ?_
              refine V_iload X dX12_go_65 5 rfl ?_
              refine R_putf X fl_X12_245 zt_X12 hK (0) (rlv (by omega)) (by omega) rfl (Nat.le_of_ble_eq_true rfl) rfl rfl rfl rfl rfl dX12_go_67 (fun F105 hF105 => ?_)
              have hJF105 := (rJ.rfl' : rJ F F).set hF105 (rsc_t (by omega))
              refine V_aload_n X dX12_go_70 1 rfl ?_
              refine V_iload X dX12_go_71 0 rfl ?_
              refine R_putf X fl_X12_248 zt_X12 hK (0) (rlv (by omega)) (by omega) rfl (Nat.le_of_ble_eq_true rfl) rfl rfl rfl rfl rfl dX12_go_73 (fun F106 hF106 => ?_)
              have hJF106 := (hJF105 : rJ F F105).set hF106 (rsc_t (by omega))
              refine V_aload_n X dX12_go_76 1 rfl ?_
              refine V_iload_n X dX12_go_77 4 rfl ?_
              refine R_putf X fl_X12_251 zt_X12 hK (0) (rlv (by omega)) (by omega) rfl (Nat.le_of_ble_eq_true rfl) rfl rfl rfl rfl rfl dX12_go_78 (fun F107 hF107 => ?_)
              have hJF107 := (hJF106 : rJ F F106).set hF107 (rsc_t (by omega))
              refine V_iconst (v := nI 0) X dX12_go_81 (by decide) ?_
              refine V_istore X [(8, .int (nI (0))), (7, .int (w2)), (0, .ref (ad (0))), (1, .int (a1)), (2, .int (a2)), (3, .int (nI (m))), (4, .int (a4)), (5, .int (a5)), (6, .int (a6))] dX12_go_82 (by decide) rfl ?_
              have L84 : ∀ (n84 : Nat) (i84 : Nat) (G84 : Nat → Nat → Int32), n84 = N 4 - i84 → i84 ≤ N 4 → rJ F G84 → V g κ 10 (0) (0) (t, rO g ad N S G84 σ0) 84 [(8, .int (nI (i84))), (7, .int (w2)), (0, .ref (ad (0))), (1, .int (a1)), (2, .int (a2)), (3, .int (nI (m))), (4, .int (a4)), (5, .int (a5)), (6, .int (a6))] [] := by
                intro n84
                induction n84 using Nat.strongRecOn with
                | ind n84 ih84 =>
                  intro i84 G84 hn84 hi84 hJ84
                  refine V_iload X dX12_go_84 0 rfl ?_
                  refine V_aload_n X dX12_go_86 2 rfl ?_
                  refine R_getf X fl_X12_25 hK (0) (rlv (by omega)) rfl rfl dX12_go_87 ?_
                  refine V_callV (rest := [.int (nI (i84))]) X E.room ml_X12_42 in_Jx4a65c_size_8abf5 (ci := 3) rfl se_Jx4a65c_size_8abf5 (rO_list hK (i := 4) (by decide)) (by omega) (by decide) (r_size hK 4 (by decide)) rfl rfl (Nat.le_of_ble_eq_true rfl) ⟨by omega, by omega⟩ dX12_go_90 (fun _ _ h => False.elim h) (fun v108 σ' hp109 => ?_)
                  obtain ⟨hp109, rfl⟩ := hp109
                  cases (hp109 : _ = some (Value.int (nI (N 4))))
                  show V g κ 10 (0) (0) (t, rO g ad N S G84 σ0) 93 [(8, .int (nI (i84))), (7, .int (w2)), (0, .ref (ad (0))), (1, .int (a1)), (2, .int (a2)), (3, .int (nI (m))), (4, .int (a4)), (5, .int (a5)), (6, .int (a6))] [.int (nI (N 4)), .int (nI (i84))]
                  refine V_icmpgeN X (by omega) (by omega) (tgt := 173) dX12_go_93 (by decide) (fun h110 => ?_) (fun h110 => ?_)
                  · -- 93 true
                    exact V_vret X E (by omega) (by omega) ⟨rfl, ⟨_, rfl, hJ84⟩⟩ dX12_go_173
                  · -- 93 false
                    refine V_aload_n X dX12_go_96 2 rfl ?_
                    refine R_getf X fl_X12_25 hK (0) (rlv (by omega)) rfl rfl dX12_go_97 ?_
                    refine V_iload X dX12_go_100 0 rfl ?_
                    refine V_callV (rest := []) X E.room ml_X12_97 in_Jx4a65c_get_915e3 (ci := 3) rfl se_Jx4a65c_get_915e3 (rO_list hK (i := 4) (by decide)) (by omega) (by decide) (r_get hK 4 (by decide) (j := i84) (by omega) (by omega)) rfl rfl (Nat.le_of_ble_eq_true rfl) ⟨by omega, by omega⟩ dX12_go_102 (fun _ _ h => False.elim h) (fun v111 σ' hp112 => ?_)
                    obtain ⟨hp112, rfl⟩ := hp112
                    cases (hp112 : _ = some (Value.ref (ad (38 + (i84)))))
                    show V g κ 10 (0) (0) (t, rO g ad N S G84 σ0) 105 [(8, .int (nI (i84))), (7, .int (w2)), (0, .ref (ad (0))), (1, .int (a1)), (2, .int (a2)), (3, .int (nI (m))), (4, .int (a4)), (5, .int (a5)), (6, .int (a6))] [.ref (ad (38 + (i84)))]
                    refine V_cast X (C := RX11) rfl cl_X12_147 (R_recv hK (q := 38 + (i84)) (rlv (by omega)) (rCell_town (by omega))) dX12_go_105 ?_
                    refine V_astore X [(9, .ref (ad (38 + (i84)))), (8, .int (nI (i84))), (7, .int (w2)), (0, .ref (ad (0))), (1, .int (a1)), (2, .int (a2)), (3, .int (nI (m))), (4, .int (a4)), (5, .int (a5)), (6, .int (a6))] dX12_go_108 (by decide) rfl ?_
                    refine V_iload_n X dX12_go_110 6 rfl ?_
                    refine V_iload X dX12_go_111 1 rfl ?_
                    refine V_callS (rest := []) X E.room ml_X12_159 st_X12_isIn (by omega) (by decide) (k_X12_isIn (σ := (t, rO g ad N S G84 σ0)) (nI (m)) (nI (i84))) rfl rfl (Nat.le_of_ble_eq_true rfl) ⟨by omega, by omega⟩ dX12_go_113 (fun _ _ h => False.elim h) (fun v113 σ' hp113 => ?_)
                    obtain ⟨hp113, rfl⟩ := hp113
                    rcases hp113 with ⟨rfl, z113⟩ | ⟨rfl, z113⟩
                    · -- yes
                      show V g κ 10 (0) (0) (t, rO g ad N S G84 σ0) 116 [(9, .ref (ad (38 + (i84)))), (8, .int (nI (i84))), (7, .int (w2)), (0, .ref (ad (0))), (1, .int (a1)), (2, .int (a2)), (3, .int (nI (m))), (4, .int (a4)), (5, .int (a5)), (6, .int (a6))] [.int (nI (1))]
                      refine V_ifneN X (by omega) (tgt := 167) dX12_go_116 (by decide) (fun h114 => ?_) (fun h114 => absurd h114 (by omega))
                      refine V_iinc X (nI (i84 + 1)) [(8, .int (nI (i84 + 1))), (9, .ref (ad (38 + (i84)))), (7, .int (w2)), (0, .ref (ad (0))), (1, .int (a1)), (2, .int (a2)), (3, .int (nI (m))), (4, .int (a4)), (5, .int (a5)), (6, .int (a6))] dX12_go_167 1 rfl (zinc _) (by decide) rfl ?_
                      refine V_goto (tgt := 84) X dX12_go_170 (by decide) ?_
                      exact V.sub [0, 2, 3, 4, 5, 6, 7, 8, 9] rfl (ih84 _ (by omega) (i84 + 1) G84 rfl (by omega) hJ84)
                    · -- no
                      have hbit : m.testBit i84 = false := by cases hb : m.testBit i84 with | true => exact absurd ((zIn_nat (by omega) (by omega)).mpr hb) z113 | false => rfl
                      have hor := zpc_or m hm i84 (by omega) hbit
                      have ho5 := zpc_5 m hm
                      have hlt5 : m ||| 2 ^ i84 < 32 := zor (n := 5) hm (by omega)
                      have hr1 := zpc_5 _ hlt5
                      show V g κ 10 (0) (0) (t, rO g ad N S G84 σ0) 116 [(9, .ref (ad (38 + (i84)))), (8, .int (nI (i84))), (7, .int (w2)), (0, .ref (ad (0))), (1, .int (a1)), (2, .int (a2)), (3, .int (nI (m))), (4, .int (a4)), (5, .int (a5)), (6, .int (a6))] [.int (nI (0))]
                      refine V_ifneN X (by omega) (tgt := 167) dX12_go_116 (by decide) (fun h115 => absurd h115 (by omega)) (fun h115 => ?_)
                      refine V_aload_n X dX12_go_119 3 rfl ?_
                      refine V_aload X dX12_go_120 0 rfl ?_
                      refine R_getf X fl_X12_150 hK (38 + (i84)) (rlv (by omega)) (rCell_town (by omega)) rfl dX12_go_122 (V.topi (fun x116 ex116 => ?_))
                      refine V_aload X dX12_go_125 0 rfl ?_
                      refine R_getf X fl_X12_153 hK (38 + (i84)) (rlv (by omega)) (rCell_town (by omega)) rfl dX12_go_127 (V.topi (fun x117 ex117 => ?_))
                      refine V_iload_n X dX12_go_130 6 rfl ?_
                      refine V_iconst (v := nI 1) X dX12_go_131 (by decide) ?_
                      refine V_iload X dX12_go_132 1 rfl ?_
                      refine V_ishl1 X (by omega) dX12_go_134 ?_
                      refine V_iorN X dX12_go_135 ?_
                      refine V_iload X dX12_go_136 7 rfl ?_
                      refine V_aload X dX12_go_138 0 rfl ?_
                      refine R_getf X fl_X12_156 hK (38 + (i84)) (rlv (by omega)) (rCell_town (by omega)) rfl dX12_go_140 (V.topi (fun x118 ex118 => ?_))
                      refine V_iadd X dX12_go_143 (V.topi (fun w119 ew119 => ?_))
                      refine V_iload X dX12_go_144 8 rfl ?_
                      refine V_iload_n X dX12_go_146 4 rfl ?_
                      refine V_iload_n X dX12_go_147 5 rfl ?_
                      refine V_aload X dX12_go_148 0 rfl ?_
                      refine R_getf X fl_X12_150 hK (38 + (i84)) (rlv (by omega)) (rCell_town (by omega)) rfl dX12_go_150 (V.topi (fun x120 ex120 => ?_))
                      refine V_aload X dX12_go_153 0 rfl ?_
                      refine R_getf X fl_X12_153 hK (38 + (i84)) (rlv (by omega)) (rCell_town (by omega)) rfl dX12_go_155 (V.topi (fun x121 ex121 => ?_))
                      refine V_callS (rest := [.int (a5), .int (w119), .int (nI ((m) ||| (2 ^ (i84)))), .int (x117), .int (x116), .ref (ad (0))]) X E.room ml_X12_241 st_X12_miles (by omega) (by decide) (k_X12_miles (σ := (t, rO g ad N S G84 σ0)) (a1) (a2) (x120) (x121)) rfl rfl (Nat.le_of_ble_eq_true rfl) ⟨by omega, by omega⟩ dX12_go_158 (fun _ _ h => False.elim h) (fun v158 σ' hp158 => ?_)
                      obtain ⟨hp158, rfl⟩ := hp158
                      obtain ⟨r122, rfl, fr122⟩ := hp158
                      show V g κ 10 (0) (0) (t, rO g ad N S G84 σ0) 161 [(9, .ref (ad (38 + (i84)))), (8, .int (nI (i84))), (7, .int (w2)), (0, .ref (ad (0))), (1, .int (a1)), (2, .int (a2)), (3, .int (nI (m))), (4, .int (a4)), (5, .int (a5)), (6, .int (a6))] [.int (r122), .int (a5), .int (w119), .int (nI ((m) ||| (2 ^ (i84)))), .int (x117), .int (x116), .ref (ad (0))]
                      refine V_iadd X dX12_go_161 (V.topi (fun w123 ew123 => ?_))
                      refine V_iload X dX12_go_162 9 rfl ?_
                      refine V_callV (rest := []) X E.room ml_X12_254 in_X12_go (ci := 16) rfl se_X12_go (R_recv hK (q := 0) (rlv (by omega)) rfl) (by omega) (by decide) (ihr (r - 1) (by omega) (hI.mv hJ84) (m ||| 2 ^ i84) hlt5 (by omega) (x116) (x117) (w119) (w123) (a6)) rfl rfl (Nat.le_of_ble_eq_true rfl) ⟨by omega, by omega⟩ dX12_go_164 (fun _ _ h => False.elim h) (fun v164 σ' hp164 => ?_)
                      obtain ⟨hp164, F124, rfl, hJF124⟩ := hp164
                      have hKF124 : rJ F F124 := (hJ84 : rJ F G84).trans hJF124
                      cases (hp164 : _ = none)
                      show V g κ 10 (0) (0) (t, rO g ad N S F124 σ0) 167 [(9, .ref (ad (38 + (i84)))), (8, .int (nI (i84))), (7, .int (w2)), (0, .ref (ad (0))), (1, .int (a1)), (2, .int (a2)), (3, .int (nI (m))), (4, .int (a4)), (5, .int (a5)), (6, .int (a6))] []
                      refine V_iinc X (nI (i84 + 1)) [(8, .int (nI (i84 + 1))), (9, .ref (ad (38 + (i84)))), (7, .int (w2)), (0, .ref (ad (0))), (1, .int (a1)), (2, .int (a2)), (3, .int (nI (m))), (4, .int (a4)), (5, .int (a5)), (6, .int (a6))] dX12_go_167 1 rfl (zinc _) (by decide) rfl ?_
                      refine V_goto (tgt := 84) X dX12_go_170 (by decide) ?_
                      exact V.sub [0, 2, 3, 4, 5, 6, 7, 8, 9] rfl (ih84 _ (by omega) (i84 + 1) F124 rfl (by omega) hKF124)
              exact L84 _ (0) F107 rfl (by omega) hJF107
  · -- 16 false
    exact V_vret X E (by omega) (by omega) ⟨rfl, ⟨_, rfl, rJ.rfl'⟩⟩ dX12_go_19
set_option maxRecDepth 100000 in
set_option maxHeartbeats 4000000 in
theorem k_X12_tourNow {g : zG} {t : Nat × Nat} {ad N : Nat → Nat} {S : Int64} {σ0 : Nat → Option va_E} {F : Nat → Nat → Int32} (hK : rK g ad N) (hI : rI N F)  (a1 : Int32) (a2 : Int32) : Ct g 21 yX12_tourNow cX12_tourNow 3 (some FieldType.int) 0 0 [.ref (ad (0)), .int (a1), .int (a2)] (t, rO g ad N S F σ0) (qJ pI g t ad N S F σ0) zNo := by
  refine Ct.of (lv := [(0, .ref (ad (0))), (1, .int (a1)), (2, .int (a2))]) (by decide) (Nat.le_of_ble_eq_true rfl) rfl ?_
  intro κ X E B _
  have X : zX g κ RX12 cX12_tourNow 3 := X
  obtain ⟨b0, b1, b2, b3, b4⟩ := hI.bnd
  refine V_aload_n X dX12_tourNow_0 0 rfl ?_
  refine V_iconst (v := (-1)) X dX12_tourNow_1 (by decide) ?_
  refine R_putf X fl_X12_245 zt_X12 hK (0) (rlv (by omega)) (by omega) rfl (Nat.le_of_ble_eq_true rfl) rfl rfl rfl rfl rfl dX12_tourNow_2 (fun F1 hF1 => ?_)
  have hJF1 := (rJ.rfl' : rJ F F).set hF1 (rsc_t (by omega))
  refine V_aload_n X dX12_tourNow_5 0 rfl ?_
  refine V_iconst (v := nI 0) X dX12_tourNow_6 (by decide) ?_
  refine V_iconst (v := nI 0) X dX12_tourNow_7 (by decide) ?_
  refine V_iconst (v := nI 0) X dX12_tourNow_8 (by decide) ?_
  refine V_iconst (v := nI 0) X dX12_tourNow_9 (by decide) ?_
  refine V_iconst (v := nI 0) X dX12_tourNow_10 (by decide) ?_
  refine V_iload_n X dX12_tourNow_11 1 rfl ?_
  refine V_callV (rest := []) X E.room ml_X12_254 in_X12_go (ci := 16) rfl se_X12_go (R_recv hK (q := 0) (rlv (by omega)) rfl) (by omega) (by decide) (k_X12_go hK 5 (hI.mv hJF1) (0) (by omega) (by omega) (nI (0)) (nI (0)) (nI (0)) (nI (0)) (a1)) rfl rfl (Nat.le_of_ble_eq_true rfl) ⟨by omega, by omega⟩ dX12_tourNow_12 (fun _ _ h => False.elim h) (fun v12 σ' hp12 => ?_)
  obtain ⟨hp12, F2, rfl, hJF2⟩ := hp12
  have hKF2 : rJ F F2 := (hJF1 : rJ F F1).trans hJF2
  cases (hp12 : _ = none)
  show V g κ 3 (0) (0) (t, rO g ad N S F2 σ0) 15 [(0, .ref (ad (0))), (1, .int (a1)), (2, .int (a2))] []
  refine V_iload_n X dX12_tourNow_15 2 rfl ?_
  refine V_ifne X (tgt := 26) dX12_tourNow_16 (by decide) (fun h3 => ?_) (fun h3 => ?_)
  · -- 16 true
    refine V_iload_n X dX12_tourNow_26 2 rfl ?_
    refine V_iconst (v := nI 1) X dX12_tourNow_27 (by decide) ?_
    refine V_icmpne X (tgt := 38) dX12_tourNow_28 (by decide) (fun h4 => ?_) (fun h4 => ?_)
    · -- 28 true
      refine V_aload_n X dX12_tourNow_38 0 rfl ?_
      refine R_getf X fl_X12_248 hK (0) (rlv (by omega)) rfl rfl dX12_tourNow_39 (V.topi (fun x5 ex5 => ?_))
      exact V_iret X E (by omega) (by omega) ⟨⟨_, rfl⟩, ⟨_, rfl, hKF2⟩⟩ dX12_tourNow_42
    · -- 28 false
      refine V_aload_n X dX12_tourNow_31 0 rfl ?_
      refine R_getf X fl_X12_245 hK (0) (rlv (by omega)) rfl rfl dX12_tourNow_32 (V.topi (fun x6 ex6 => ?_))
      refine V_goto (tgt := 42) X dX12_tourNow_35 (by decide) ?_
      exact V_iret X E (by omega) (by omega) ⟨⟨_, rfl⟩, ⟨_, rfl, hKF2⟩⟩ dX12_tourNow_42
  · -- 16 false
    refine V_aload_n X dX12_tourNow_19 0 rfl ?_
    refine R_getf X fl_X12_251 hK (0) (rlv (by omega)) rfl rfl dX12_tourNow_20 (V.topi (fun x7 ex7 => ?_))
    refine V_goto (tgt := 42) X dX12_tourNow_23 (by decide) ?_
    exact V_iret X E (by omega) (by omega) ⟨⟨_, rfl⟩, ⟨_, rfl, hKF2⟩⟩ dX12_tourNow_42
