set_option maxRecDepth 100000 in
set_option maxHeartbeats 4000000 in
theorem k_X2_clashTogether {g : zG} {t : Nat × Nat} {X0 : Nat} {σ0 : Nat → Option va_E} {F : Nat → Nat → Int32} (hX : g.2.1.size ≤ X0) {nP nS nA nC nT : Nat} (hI : cI nP nS nA nC nT F) (a1 : Int32) : Ct g 11 yX2_clashTogether cX2_clashTogether 4 none 0 0 [.ref (X0 + 1), .int (a1), .ref (X0 + 15)] (t, cW g X0 F σ0) (qS pV g t X0 F σ0) zNo := by
  refine Ct.of (lv := [(0, .ref (X0 + 1)), (1, .int (a1)), (2, .ref (X0 + 15))]) (by decide) (Nat.le_of_ble_eq_true rfl) rfl ?_
  intro κ X E B _
  have X : zX g κ RX2 cX2_clashTogether 4 := X
  obtain ⟨b1, b2, b3, b4, b5⟩ := hI.bnd
  refine V_iconst (v := nI 0) X dX2_clashTogether_0 (by decide) ?_
  refine V_istore_n X [(3, .int (nI (0))), (0, .ref (X0 + 1)), (1, .int (a1)), (2, .ref (X0 + 15))] dX2_clashTogether_1 (by decide) rfl ?_
  have L2 : ∀ (n2 : Nat) (i2 : Nat) (G2 : Nat → Nat → Int32), n2 = nP - i2 → i2 ≤ nP → cJ F G2 → V g κ 4 0 0 (t, cW g X0 G2 σ0) 2 [(3, .int (nI (i2))), (0, .ref (X0 + 1)), (1, .int (a1)), (2, .ref (X0 + 15))] [] := by
    intro n2
    induction n2 using Nat.strongRecOn with
    | ind n2 ih2 =>
      intro i2 G2 hn2 hi2 hJ2
      refine V_iload_n X dX2_clashTogether_2 0 rfl ?_
      refine V_aload_n X dX2_clashTogether_3 1 rfl ?_
      refine C_getfN (z := nI (nP)) X fl_X2_27 1 (by decide) rfl rfl (hI.mv hJ2).f1_5 dX2_clashTogether_4 ?_
      refine V_icmpgeN X (by omega) (by omega) (tgt := 37) dX2_clashTogether_7 (by decide) (fun h1 => ?_) (fun h1 => ?_)
      · -- 7 true
        exact V_vret X E (Nat.zero_le _) (Nat.zero_le _) ⟨rfl, ⟨_, rfl, hJ2⟩⟩ dX2_clashTogether_37
      · -- 7 false
        refine V_iload_n X dX2_clashTogether_10 2 rfl ?_
        refine V_iload_n X dX2_clashTogether_11 0 rfl ?_
        refine V_callSN (rest := []) X E.room ml_X2_34 st_X5_has (by omega) (by decide) (k_X5_has (σ := (t, cW g X0 G2 σ0)) (a1) (nI (i2))) rfl rfl (Nat.le_of_ble_eq_true rfl) ⟨Nat.le_refl _, Nat.le_refl _⟩ dX2_clashTogether_12 (fun _ _ h => False.elim h) (fun v12 σ' hp12 => ?_)
        obtain ⟨hp12, rfl⟩ := hp12
        obtain ⟨r2, rfl, hr2, fr2⟩ := hp12
        show V g κ 4 0 0 (t, cW g X0 G2 σ0) 15 [(3, .int (nI (i2))), (0, .ref (X0 + 1)), (1, .int (a1)), (2, .ref (X0 + 15))] [.int (r2)]
        refine V_ifeq X (tgt := 31) dX2_clashTogether_15 (by decide) (fun h3 => ?_) (fun h3 => ?_)
        · -- 15 true
          have zh3 := mt fr2.mpr (not_not_intro h3)
          refine V_iinc X (nI (i2 + 1)) [(3, .int (nI (i2 + 1))), (0, .ref (X0 + 1)), (1, .int (a1)), (2, .ref (X0 + 15))] dX2_clashTogether_31 0 rfl (zinc _) (by decide) rfl ?_
          refine V_goto (tgt := 2) X dX2_clashTogether_34 (by decide) ?_
          exact V.sub [0, 1, 2, 3] rfl (ih2 _ (by omega) (i2 + 1) G2 rfl (by omega) hJ2)
        · -- 15 false
          have zh3 := fr2.mp h3
          refine V_aload_n X dX2_clashTogether_18 3 rfl ?_
          refine V_iload_n X dX2_clashTogether_19 0 rfl ?_
          refine V_dup2 X dX2_clashTogether_20 rfl rfl ?_
          refine C_iald X (N := 7) 15 (by decide) (i2) rfl (by omega) (by decide) rfl dX2_clashTogether_21 ?_
          refine V.topi (fun x4 ex4 => ?_)
          refine V_iload_n X dX2_clashTogether_22 2 rfl ?_
          refine V_iconst (v := nI 1) X dX2_clashTogether_23 (by decide) ?_
          refine V_iload_n X dX2_clashTogether_24 0 rfl ?_
          refine V_ishl1 X (by omega) dX2_clashTogether_25 ?_
          refine V_iconst (v := (-1)) X dX2_clashTogether_26 (by decide) ?_
          refine V_ixor X dX2_clashTogether_27 (V.topi (fun w5 ew5 => ?_))
          refine V_iand X dX2_clashTogether_28 (V.topi (fun w6 ew6 => ?_))
          refine V_ior X dX2_clashTogether_29 (V.topi (fun w7 ew7 => ?_))
          refine C_iast X (N := 7) 15 (by decide) hX (i2) rfl (by omega) (by decide) (fun _ => rfl) dX2_clashTogether_30 (fun F8 hF8 => ?_)
          have hJF8 := (hJ2 : cJ F G2).set hF8 (zscr (by omega))
          refine V_iinc X (nI (i2 + 1)) [(3, .int (nI (i2 + 1))), (0, .ref (X0 + 1)), (1, .int (a1)), (2, .ref (X0 + 15))] dX2_clashTogether_31 0 rfl (zinc _) (by decide) rfl ?_
          refine V_goto (tgt := 2) X dX2_clashTogether_34 (by decide) ?_
          exact V.sub [0, 1, 2, 3] rfl (ih2 _ (by omega) (i2 + 1) F8 rfl (by omega) hJF8)
  exact L2 _ 0 F rfl (by omega) cJ.rfl'
set_option maxRecDepth 100000 in
set_option maxHeartbeats 4000000 in
theorem k_X2_clashInTurn {g : zG} {t : Nat × Nat} {X0 : Nat} {σ0 : Nat → Option va_E} {F : Nat → Nat → Int32} (hX : g.2.1.size ≤ X0) {nP nS nA nC nT : Nat} (hI : cI nP nS nA nC nT F) (b : Nat) (hb : b < nS) (a2 : Int32) : Ct g 11 yX2_clashInTurn cX2_clashInTurn 6 none 0 0 [.ref (X0 + 1), .int (nI (b)), .int (a2), .ref (X0 + 15)] (t, cW g X0 F σ0) (qS pV g t X0 F σ0) zNo := by
  refine Ct.of (lv := [(0, .ref (X0 + 1)), (1, .int (nI (b))), (2, .int (a2)), (3, .ref (X0 + 15))]) (by decide) (Nat.le_of_ble_eq_true rfl) rfl ?_
  intro κ X E B _
  have X : zX g κ RX2 cX2_clashInTurn 6 := X
  obtain ⟨b1, b2, b3, b4, b5⟩ := hI.bnd
  refine V_iconst (v := nI 0) X dX2_clashInTurn_0 (by decide) ?_
  refine V_istore X [(4, .int (nI (0))), (0, .ref (X0 + 1)), (1, .int (nI (b))), (2, .int (a2)), (3, .ref (X0 + 15))] dX2_clashInTurn_1 (by decide) rfl ?_
  have L3 : ∀ (n3 : Nat) (i3 : Nat) (G3 : Nat → Nat → Int32), n3 = nP - i3 → i3 ≤ nP → cJ F G3 → V g κ 6 0 0 (t, cW g X0 G3 σ0) 3 [(4, .int (nI (i3))), (0, .ref (X0 + 1)), (1, .int (nI (b))), (2, .int (a2)), (3, .ref (X0 + 15))] [] := by
    intro n3
    induction n3 using Nat.strongRecOn with
    | ind n3 ih3 =>
      intro i3 G3 hn3 hi3 hJ3
      refine V_iload X dX2_clashInTurn_3 0 rfl ?_
      refine V_aload_n X dX2_clashInTurn_5 1 rfl ?_
      refine C_getfN (z := nI (nP)) X fl_X2_27 1 (by decide) rfl rfl (hI.mv hJ3).f1_5 dX2_clashInTurn_6 ?_
      refine V_icmpgeN X (by omega) (by omega) (tgt := 115) dX2_clashInTurn_9 (by decide) (fun h1 => ?_) (fun h1 => ?_)
      · -- 9 true
        exact V_vret X E (Nat.zero_le _) (Nat.zero_le _) ⟨rfl, ⟨_, rfl, hJ3⟩⟩ dX2_clashInTurn_115
      · -- 9 false
        refine V_aload_n X dX2_clashInTurn_12 1 rfl ?_
        refine C_getf X fl_X2_21 1 (by decide) rfl rfl dX2_clashInTurn_13 ?_
        refine V_iload_n X dX2_clashInTurn_16 2 rfl ?_
        refine C_iald X (N := 6) 5 (by decide) (b) rfl (by omega) (by decide) rfl dX2_clashInTurn_17 ?_
        obtain ⟨m2, hm2, em2⟩ := (hI.mv hJ3).sp (b) (by omega)
        rw [em2]
        refine V_iload X dX2_clashInTurn_18 0 rfl ?_
        refine V_callSN (rest := []) X E.room ml_X2_34 st_X5_has (by omega) (by decide) (k_X5_has (σ := (t, cW g X0 G3 σ0)) (nI (m2)) (nI (i3))) rfl rfl (Nat.le_of_ble_eq_true rfl) ⟨Nat.le_refl _, Nat.le_refl _⟩ dX2_clashInTurn_20 (fun _ _ h => False.elim h) (fun v20 σ' hp20 => ?_)
        obtain ⟨hp20, rfl⟩ := hp20
        obtain ⟨r3, rfl, hr3, fr3⟩ := hp20
        show V g κ 6 0 0 (t, cW g X0 G3 σ0) 23 [(4, .int (nI (i3))), (0, .ref (X0 + 1)), (1, .int (nI (b))), (2, .int (a2)), (3, .ref (X0 + 15))] [.int (r3)]
        refine V_ifne X (tgt := 29) dX2_clashInTurn_23 (by decide) (fun h4 => ?_) (fun h4 => ?_)
        · -- 23 true
          have zh4 := fr3.mp h4
          refine V_iconst (v := nI 0) X dX2_clashInTurn_29 (by decide) ?_
          refine V_istore X [(5, .int (nI (0))), (4, .int (nI (i3))), (0, .ref (X0 + 1)), (1, .int (nI (b))), (2, .int (a2)), (3, .ref (X0 + 15))] dX2_clashInTurn_30 (by decide) rfl ?_
          have L32 : ∀ (n32 : Nat) (i32 : Nat) (G32 : Nat → Nat → Int32), n32 = nP - i32 → i32 ≤ nP → cJ F G32 → V g κ 6 0 0 (t, cW g X0 G32 σ0) 32 [(5, .int (nI (i32))), (4, .int (nI (i3))), (0, .ref (X0 + 1)), (1, .int (nI (b))), (2, .int (a2)), (3, .ref (X0 + 15))] [] := by
            intro n32
            induction n32 using Nat.strongRecOn with
            | ind n32 ih32 =>
              intro i32 G32 hn32 hi32 hJ32
              refine V_iload X dX2_clashInTurn_32 0 rfl ?_
              refine V_aload_n X dX2_clashInTurn_34 2 rfl ?_
              refine C_getfN (z := nI (nP)) X fl_X2_27 1 (by decide) rfl rfl (hI.mv hJ32).f1_5 dX2_clashInTurn_35 ?_
              refine V_icmpgeN X (by omega) (by omega) (tgt := 109) dX2_clashInTurn_38 (by decide) (fun h5 => ?_) (fun h5 => ?_)
              · -- 38 true
                refine V_iinc X (nI (i3 + 1)) [(4, .int (nI (i3 + 1))), (5, .int (nI (i32))), (0, .ref (X0 + 1)), (1, .int (nI (b))), (2, .int (a2)), (3, .ref (X0 + 15))] dX2_clashInTurn_109 1 rfl (zinc _) (by decide) rfl ?_
                refine V_goto (tgt := 3) X dX2_clashInTurn_112 (by decide) ?_
                exact V.sub [0, 2, 3, 4, 5] rfl (ih3 _ (by omega) (i3 + 1) G32 rfl (by omega) hJ32)
              · -- 38 false
                refine V_iload X dX2_clashInTurn_41 0 rfl ?_
                refine V_iload X dX2_clashInTurn_43 1 rfl ?_
                refine V_icmpeqN X (by omega) (by omega) (tgt := 103) dX2_clashInTurn_45 (by decide) (fun h6 => ?_) (fun h6 => ?_)
                · -- 45 true
                  refine V_iinc X (nI (i32 + 1)) [(5, .int (nI (i32 + 1))), (4, .int (nI (i3))), (0, .ref (X0 + 1)), (1, .int (nI (b))), (2, .int (a2)), (3, .ref (X0 + 15))] dX2_clashInTurn_103 0 rfl (zinc _) (by decide) rfl ?_
                  refine V_goto (tgt := 32) X dX2_clashInTurn_106 (by decide) ?_
                  exact V.sub [0, 1, 2, 3, 4, 5] rfl (ih32 _ (by omega) (i32 + 1) G32 rfl (by omega) hJ32)
                · -- 45 false
                  refine V_iload_n X dX2_clashInTurn_48 4 rfl ?_
                  refine V_iload X dX2_clashInTurn_49 0 rfl ?_
                  refine V_callSN (rest := []) X E.room ml_X2_34 st_X5_has (by omega) (by decide) (k_X5_has (σ := (t, cW g X0 G32 σ0)) (a2) (nI (i32))) rfl rfl (Nat.le_of_ble_eq_true rfl) ⟨Nat.le_refl _, Nat.le_refl _⟩ dX2_clashInTurn_51 (fun _ _ h => False.elim h) (fun v51 σ' hp51 => ?_)
                  obtain ⟨hp51, rfl⟩ := hp51
                  obtain ⟨r7, rfl, hr7, fr7⟩ := hp51
                  show V g κ 6 0 0 (t, cW g X0 G32 σ0) 54 [(5, .int (nI (i32))), (4, .int (nI (i3))), (0, .ref (X0 + 1)), (1, .int (nI (b))), (2, .int (a2)), (3, .ref (X0 + 15))] [.int (r7)]
                  refine V_ifeq X (tgt := 103) dX2_clashInTurn_54 (by decide) (fun h8 => ?_) (fun h8 => ?_)
                  · -- 54 true
                    have zh8 := mt fr7.mpr (not_not_intro h8)
                    refine V_iinc X (nI (i32 + 1)) [(5, .int (nI (i32 + 1))), (4, .int (nI (i3))), (0, .ref (X0 + 1)), (1, .int (nI (b))), (2, .int (a2)), (3, .ref (X0 + 15))] dX2_clashInTurn_103 0 rfl (zinc _) (by decide) rfl ?_
                    refine V_goto (tgt := 32) X dX2_clashInTurn_106 (by decide) ?_
                    exact V.sub [0, 1, 2, 3, 4, 5] rfl (ih32 _ (by omega) (i32 + 1) G32 rfl (by omega) hJ32)
                  · -- 54 false
                    have zh8 := fr7.mp h8
                    refine V_aload_n X dX2_clashInTurn_57 2 rfl ?_
                    refine C_getf X fl_X2_18 1 (by decide) rfl rfl dX2_clashInTurn_58 ?_
                    refine V_iload X dX2_clashInTurn_61 1 rfl ?_
                    refine C_iald X (N := 7) 4 (by decide) (i3) rfl (by omega) (by decide) rfl dX2_clashInTurn_63 ?_
                    refine V.topi (fun x9 ex9 => ?_)
                    refine V_aload_n X dX2_clashInTurn_64 2 rfl ?_
                    refine C_getf X fl_X2_18 1 (by decide) rfl rfl dX2_clashInTurn_65 ?_
                    refine V_iload X dX2_clashInTurn_68 0 rfl ?_
                    refine C_iald X (N := 7) 4 (by decide) (i32) rfl (by omega) (by decide) rfl dX2_clashInTurn_70 ?_
                    refine V.topi (fun x10 ex10 => ?_)
                    refine V_iadd X dX2_clashInTurn_71 (V.topi (fun w11 ew11 => ?_))
                    refine V_aload_n X dX2_clashInTurn_72 2 rfl ?_
                    refine C_getf X fl_X2_24 1 (by decide) rfl rfl dX2_clashInTurn_73 ?_
                    refine V_iload_n X dX2_clashInTurn_76 3 rfl ?_
                    refine C_iald X (N := 6) 6 (by decide) (b) rfl (by omega) (by decide) rfl dX2_clashInTurn_77 ?_
                    refine V.topi (fun x12 ex12 => ?_)
                    refine V_icmple X (tgt := 103) dX2_clashInTurn_78 (by decide) (fun h13 => ?_) (fun h13 => ?_)
                    · -- 78 true
                      refine V_iinc X (nI (i32 + 1)) [(5, .int (nI (i32 + 1))), (4, .int (nI (i3))), (0, .ref (X0 + 1)), (1, .int (nI (b))), (2, .int (a2)), (3, .ref (X0 + 15))] dX2_clashInTurn_103 0 rfl (zinc _) (by decide) rfl ?_
                      refine V_goto (tgt := 32) X dX2_clashInTurn_106 (by decide) ?_
                      exact V.sub [0, 1, 2, 3, 4, 5] rfl (ih32 _ (by omega) (i32 + 1) G32 rfl (by omega) hJ32)
                    · -- 78 false
                      refine V_aload_n X dX2_clashInTurn_81 5 rfl ?_
                      refine V_iload X dX2_clashInTurn_82 1 rfl ?_
                      refine V_dup2 X dX2_clashInTurn_84 rfl rfl ?_
                      refine C_iald X (N := 7) 15 (by decide) (i3) rfl (by omega) (by decide) rfl dX2_clashInTurn_85 ?_
                      refine V.topi (fun x14 ex14 => ?_)
                      refine V_iconst (v := nI 1) X dX2_clashInTurn_86 (by decide) ?_
                      refine V_iload X dX2_clashInTurn_87 0 rfl ?_
                      refine V_ishl1 X (by omega) dX2_clashInTurn_89 ?_
                      refine V_ior X dX2_clashInTurn_90 (V.topi (fun w15 ew15 => ?_))
                      refine C_iast X (N := 7) 15 (by decide) hX (i3) rfl (by omega) (by decide) (fun _ => rfl) dX2_clashInTurn_91 (fun F16 hF16 => ?_)
                      have hJF16 := (hJ32 : cJ F G32).set hF16 (zscr (by omega))
                      refine V_aload_n X dX2_clashInTurn_92 5 rfl ?_
                      refine V_iload X dX2_clashInTurn_93 0 rfl ?_
                      refine V_dup2 X dX2_clashInTurn_95 rfl rfl ?_
                      refine C_iald X (N := 7) 15 (by decide) (i32) rfl (by omega) (by decide) rfl dX2_clashInTurn_96 ?_
                      refine V.topi (fun x17 ex17 => ?_)
                      refine V_iconst (v := nI 1) X dX2_clashInTurn_97 (by decide) ?_
                      refine V_iload X dX2_clashInTurn_98 1 rfl ?_
                      refine V_ishl1 X (by omega) dX2_clashInTurn_100 ?_
                      refine V_ior X dX2_clashInTurn_101 (V.topi (fun w18 ew18 => ?_))
                      refine C_iast X (N := 7) 15 (by decide) hX (i32) rfl (by omega) (by decide) (fun _ => rfl) dX2_clashInTurn_102 (fun F19 hF19 => ?_)
                      have hJF19 := (hJF16 : cJ F F16).set hF19 (zscr (by omega))
                      refine V_iinc X (nI (i32 + 1)) [(5, .int (nI (i32 + 1))), (4, .int (nI (i3))), (0, .ref (X0 + 1)), (1, .int (nI (b))), (2, .int (a2)), (3, .ref (X0 + 15))] dX2_clashInTurn_103 0 rfl (zinc _) (by decide) rfl ?_
                      refine V_goto (tgt := 32) X dX2_clashInTurn_106 (by decide) ?_
                      exact V.sub [0, 1, 2, 3, 4, 5] rfl (ih32 _ (by omega) (i32 + 1) F19 rfl (by omega) hJF19)
          exact L32 _ 0 G3 rfl (by omega) hJ3
        · -- 23 false
          have zh4 := mt fr3.mpr (not_not_intro h4)
          refine V_goto (tgt := 109) X dX2_clashInTurn_26 (by decide) ?_
          refine V_iinc X (nI (i3 + 1)) [(4, .int (nI (i3 + 1))), (0, .ref (X0 + 1)), (1, .int (nI (b))), (2, .int (a2)), (3, .ref (X0 + 15))] dX2_clashInTurn_109 0 rfl (zinc _) (by decide) rfl ?_
          refine V_goto (tgt := 3) X dX2_clashInTurn_112 (by decide) ?_
          exact V.sub [0, 1, 2, 3, 4] rfl (ih3 _ (by omega) (i3 + 1) G3 rfl (by omega) hJ3)
  exact L3 _ 0 F rfl (by omega) cJ.rfl'
set_option maxRecDepth 100000 in
set_option maxHeartbeats 4000000 in
theorem k_X1_sharesOf {g : zG} {t : Nat × Nat} {X0 : Nat} {σ0 : Nat → Option va_E} {F : Nat → Nat → Int32} (hX : g.2.1.size ≤ X0) {nP nS nA nC nT : Nat} (hI : cI nP nS nA nC nT F)  (a1 : Int32) : Ct g 11 yX1_sharesOf cX1_sharesOf 4 (some FieldType.int) 0 0 [.ref (X0 + 7), .int (a1)] (t, cW g X0 F σ0) (qR (fun v => v = some (.int (zss (F 10) (fun q => zIn a1 (nI q)) nA))) (t, cW g X0 F σ0)) zNo := by
  refine Ct.of (lv := [(0, .ref (X0 + 7)), (1, .int (a1))]) (by decide) (Nat.le_of_ble_eq_true rfl) rfl ?_
  intro κ X E B _
  have X : zX g κ RX1 cX1_sharesOf 4 := X
  obtain ⟨b1, b2, b3, b4, b5⟩ := hI.bnd
  refine V_iconst (v := nI 0) X dX1_sharesOf_0 (by decide) ?_
  refine V_istore_n X [(2, .int (nI (0))), (0, .ref (X0 + 7)), (1, .int (a1))] dX1_sharesOf_1 (by decide) rfl ?_
  refine V_iconst (v := nI 0) X dX1_sharesOf_2 (by decide) ?_
  refine V_istore_n X [(3, .int (nI (0))), (2, .int (nI (0))), (0, .ref (X0 + 7)), (1, .int (a1))] dX1_sharesOf_3 (by decide) rfl ?_
  have L4 : ∀ (n4 : Nat) (i4 : Nat) (x4_2 : Int32), n4 = nA - i4 → i4 ≤ nA → x4_2 = zss (F 10) (fun q => zIn a1 (nI q)) i4 → V g κ 4 0 0 (t, cW g X0 F σ0) 4 [(3, .int (nI (i4))), (2, .int (x4_2)), (0, .ref (X0 + 7)), (1, .int (a1))] [] := by
    intro n4
    induction n4 using Nat.strongRecOn with
    | ind n4 ih4 =>
      intro i4 x4_2 hn4 hi4 hv4_0
      refine V_iload_n X dX1_sharesOf_4 0 rfl ?_
      refine V_aload_n X dX1_sharesOf_5 2 rfl ?_
      refine C_getfN (z := nI (nA)) X fl_X1_24 7 (by decide) rfl rfl hI.f7_4 dX1_sharesOf_6 ?_
      refine V_icmpgeN X (by omega) (by omega) (tgt := 35) dX1_sharesOf_9 (by decide) (fun h1 => ?_) (fun h1 => ?_)
      · -- 9 true
        refine V_iload_n X dX1_sharesOf_35 1 rfl ?_
        exact V_iret X E (Nat.zero_le _) (Nat.zero_le _) ⟨(congrArg (fun z => some (Value.int z)) (by rw [← show i4 = nA by omega]; exact hv4_0)), rfl⟩ dX1_sharesOf_36
      · -- 9 false
        refine V_iload_n X dX1_sharesOf_12 3 rfl ?_
        refine V_iload_n X dX1_sharesOf_13 0 rfl ?_
        refine V_callSN (rest := []) X E.room ml_X1_37 st_X5_has (by omega) (by decide) (k_X5_has (σ := (t, cW g X0 F σ0)) (a1) (nI (i4))) rfl rfl (Nat.le_of_ble_eq_true rfl) ⟨Nat.le_refl _, Nat.le_refl _⟩ dX1_sharesOf_14 (fun _ _ h => False.elim h) (fun v14 σ' hp14 => ?_)
        obtain ⟨hp14, rfl⟩ := hp14
        obtain ⟨r2, rfl, hr2, fr2⟩ := hp14
        show V g κ 4 0 0 (t, cW g X0 F σ0) 17 [(3, .int (nI (i4))), (2, .int (x4_2)), (0, .ref (X0 + 7)), (1, .int (a1))] [.int (r2)]
        refine V_ifeq X (tgt := 29) dX1_sharesOf_17 (by decide) (fun h3 => ?_) (fun h3 => ?_)
        · -- 17 true
          have zh3 := mt fr2.mpr (not_not_intro h3)
          refine V_iinc X (nI (i4 + 1)) [(3, .int (nI (i4 + 1))), (2, .int (x4_2)), (0, .ref (X0 + 7)), (1, .int (a1))] dX1_sharesOf_29 0 rfl (zinc _) (by decide) rfl ?_
          refine V_goto (tgt := 4) X dX1_sharesOf_32 (by decide) ?_
          exact V.sub [0, 1, 2, 3] rfl (ih4 _ (by omega) (i4 + 1) x4_2 rfl (by omega) (zss_0 hv4_0 zh3))
        · -- 17 false
          have zh3 := fr2.mp h3
          refine V_iload_n X dX1_sharesOf_20 1 rfl ?_
          refine V_aload_n X dX1_sharesOf_21 2 rfl ?_
          refine C_getf X fl_X1_18 7 (by decide) rfl rfl dX1_sharesOf_22 ?_
          refine V_iload_n X dX1_sharesOf_25 0 rfl ?_
          refine C_iald X (N := 5) 10 (by decide) (i4) rfl (by omega) (by decide) rfl dX1_sharesOf_26 ?_
          refine V.topi (fun x4 ex4 => ?_)
          refine V_iadd X dX1_sharesOf_27 (V.topi (fun w5 ew5 => ?_))
          refine V_istore_n X [(2, .int (w5)), (3, .int (nI (i4))), (0, .ref (X0 + 7)), (1, .int (a1))] dX1_sharesOf_28 (by decide) rfl ?_
          refine V_iinc X (nI (i4 + 1)) [(3, .int (nI (i4 + 1))), (2, .int (w5)), (0, .ref (X0 + 7)), (1, .int (a1))] dX1_sharesOf_29 1 rfl (zinc _) (by decide) rfl ?_
          refine V_goto (tgt := 4) X dX1_sharesOf_32 (by decide) ?_
          exact V.sub [0, 1, 2, 3] rfl (ih4 _ (by omega) (i4 + 1) w5 rfl (by omega) (zss_1 hv4_0 zh3 ew5 ex4))
  exact L4 _ 0 (nI (0)) rfl (by omega) (rfl)
set_option maxRecDepth 100000 in
set_option maxHeartbeats 4000000 in
theorem k_X1_portion {g : zG} {t : Nat × Nat} {X0 : Nat} {σ0 : Nat → Option va_E} {F : Nat → Nat → Int32} (hX : g.2.1.size ≤ X0) {nP nS nA nC nT : Nat} (hI : cI nP nS nA nC nT F) (a1 : Int32) (b : Nat) (hb : b < nA) (a3 : Int32) : Ct g 12 yX1_portion cX1_portion 10 (some FieldType.int) 0 0 [.ref (X0 + 7), .int (a1), .int (nI (b)), .int (a3)] (t, cW g X0 F σ0) (qR (fun v => v = some (.int (zPo (F 10) (fun q => zIn a3 (nI q)) nA a1 b))) (t, cW g X0 F σ0)) zNo := by
  refine Ct.of (lv := [(0, .ref (X0 + 7)), (1, .int (a1)), (2, .int (nI (b))), (3, .int (a3))]) (by decide) (Nat.le_of_ble_eq_true rfl) rfl ?_
  intro κ X E B _
  have X : zX g κ RX1 cX1_portion 10 := X
  obtain ⟨b1, b2, b3, b4, b5⟩ := hI.bnd
  refine V_aload_n X dX1_portion_0 0 rfl ?_
  refine V_iload_n X dX1_portion_1 3 rfl ?_
  refine V_callV (rest := []) X E.room ml_X1_41 in_X1_sharesOf (ci := 5) rfl se_X1_sharesOf (C_recv (q := 7) (by decide) rfl) (by decide) (by decide) (k_X1_sharesOf hX hI (a3)) rfl rfl (Nat.le_of_ble_eq_true rfl) ⟨Nat.le_refl _, Nat.le_refl _⟩ dX1_portion_2 (fun _ _ h => False.elim h) (fun v2 σ' hp2 => ?_)
  obtain ⟨hp2, rfl⟩ := hp2
  cases (hp2 : _ = some (Value.int (zss (F 10) (fun q => zIn (a3) (nI q)) nA)))
  show V g κ 10 0 0 (t, cW g X0 F σ0) 5 [(0, .ref (X0 + 7)), (1, .int (a1)), (2, .int (nI (b))), (3, .int (a3))] [.int (zss (F 10) (fun q => zIn (a3) (nI q)) nA)]
  refine V_istore X [(4, .int (zss (F 10) (fun q => zIn (a3) (nI q)) nA)), (0, .ref (X0 + 7)), (1, .int (a1)), (2, .int (nI (b))), (3, .int (a3))] dX1_portion_5 (by decide) rfl ?_
  refine V_iload X dX1_portion_7 0 rfl ?_
  refine V_ifeq X (tgt := 20) dX1_portion_9 (by decide) (fun h1 => ?_) (fun h1 => ?_)
  · -- 9 true
    refine V_iconst (v := nI 0) X dX1_portion_20 (by decide) ?_
    exact V_iret X E (Nat.zero_le _) (Nat.zero_le _) ⟨(congrArg (fun z => some (Value.int z)) (mite_1 (Or.inl h1)).symm), rfl⟩ dX1_portion_21
  · -- 9 false
    refine V_iload_n X dX1_portion_12 4 rfl ?_
    refine V_iload_n X dX1_portion_13 3 rfl ?_
    refine V_callSN (rest := []) X E.room ml_X1_37 st_X5_has (by omega) (by decide) (k_X5_has (σ := (t, cW g X0 F σ0)) (a3) (nI (b))) rfl rfl (Nat.le_of_ble_eq_true rfl) ⟨Nat.le_refl _, Nat.le_refl _⟩ dX1_portion_14 (fun _ _ h => False.elim h) (fun v14 σ' hp14 => ?_)
    obtain ⟨hp14, rfl⟩ := hp14
    obtain ⟨r2, rfl, hr2, fr2⟩ := hp14
    show V g κ 10 0 0 (t, cW g X0 F σ0) 17 [(4, .int (zss (F 10) (fun q => zIn (a3) (nI q)) nA)), (0, .ref (X0 + 7)), (1, .int (a1)), (2, .int (nI (b))), (3, .int (a3))] [.int (r2)]
    refine V_ifne X (tgt := 22) dX1_portion_17 (by decide) (fun h3 => ?_) (fun h3 => ?_)
    · -- 17 true
      have zh3 := fr2.mp h3
      refine V_iload_n X dX1_portion_22 2 rfl ?_
      refine V_aload_n X dX1_portion_23 1 rfl ?_
      refine C_getf X fl_X1_18 7 (by decide) rfl rfl dX1_portion_24 ?_
      refine V_iload_n X dX1_portion_27 3 rfl ?_
      refine C_iald X (N := 5) 10 (by decide) (b) rfl (by omega) (by decide) rfl dX1_portion_28 ?_
      refine V.topi (fun x4 ex4 => ?_)
      refine V_imul X dX1_portion_29 (V.topi (fun w5 ew5 => ?_))
      refine V_iload X dX1_portion_30 0 rfl ?_
      refine V_irem X (by assumption) dX1_portion_32 (V.topi (fun w6 ew6 => ?_))
      refine V_istore X [(5, .int (w6)), (4, .int (zss (F 10) (fun q => zIn (a3) (nI q)) nA)), (0, .ref (X0 + 7)), (1, .int (a1)), (2, .int (nI (b))), (3, .int (a3))] dX1_portion_33 (by decide) rfl ?_
      have hr5 : w6 = (zrst (a1 * F 10 b) (zss (F 10) (fun q => zIn a3 (nI q)) nA)) := by rw [ew6, ew5, ex4]; rfl
      refine V_iload_n X dX1_portion_35 3 rfl ?_
      refine V_istore X [(6, .int (a1)), (5, .int (w6)), (4, .int (zss (F 10) (fun q => zIn (a3) (nI q)) nA)), (0, .ref (X0 + 7)), (1, .int (a1)), (2, .int (nI (b))), (3, .int (a3))] dX1_portion_36 (by decide) rfl ?_
      refine V_iconst (v := nI 0) X dX1_portion_38 (by decide) ?_
      refine V_istore X [(7, .int (nI (0))), (6, .int (a1)), (5, .int (w6)), (4, .int (zss (F 10) (fun q => zIn (a3) (nI q)) nA)), (0, .ref (X0 + 7)), (1, .int (a1)), (2, .int (nI (b))), (3, .int (a3))] dX1_portion_39 (by decide) rfl ?_
      refine V_iconst (v := nI 0) X dX1_portion_41 (by decide) ?_
      refine V_istore X [(8, .int (nI (0))), (7, .int (nI (0))), (6, .int (a1)), (5, .int (w6)), (4, .int (zss (F 10) (fun q => zIn (a3) (nI q)) nA)), (0, .ref (X0 + 7)), (1, .int (a1)), (2, .int (nI (b))), (3, .int (a3))] dX1_portion_42 (by decide) rfl ?_
      have L44 : ∀ (n44 : Nat) (i44 : Nat) (y44_7 : Nat) (x44_6 : Int32), n44 = nA - i44 → i44 ≤ nA → y44_7 = zAh (F 10) (fun q => zIn a3 (nI q)) (zss (F 10) (fun q => zIn a3 (nI q)) nA) a1 (zrst (a1 * F 10 b) (zss (F 10) (fun q => zIn a3 (nI q)) nA)) b i44 → x44_6 = zLe (F 10) (fun q => zIn a3 (nI q)) (zss (F 10) (fun q => zIn a3 (nI q)) nA) a1 i44 → V g κ 10 0 0 (t, cW g X0 F σ0) 44 [(8, .int (nI (i44))), (7, .int (nI (y44_7))), (6, .int (x44_6)), (5, .int (w6)), (4, .int (zss (F 10) (fun q => zIn (a3) (nI q)) nA)), (0, .ref (X0 + 7)), (1, .int (a1)), (2, .int (nI (b))), (3, .int (a3))] [] := by
        intro n44
        induction n44 using Nat.strongRecOn with
        | ind n44 ih44 =>
          intro i44 y44_7 x44_6 hn44 hi44 hy44_7 hv44_0
          refine V_iload X dX1_portion_44 0 rfl ?_
          refine V_aload_n X dX1_portion_46 5 rfl ?_
          refine C_getfN (z := nI (nA)) X fl_X1_24 7 (by decide) rfl rfl hI.f7_4 dX1_portion_47 ?_
          refine V_icmpgeN X (by omega) (by omega) (tgt := 125) dX1_portion_50 (by decide) (fun h7 => ?_) (fun h7 => ?_)
          · -- 50 true
            refine V_iload_n X dX1_portion_125 6 rfl ?_
            refine V_aload_n X dX1_portion_126 5 rfl ?_
            refine C_getf X fl_X1_18 7 (by decide) rfl rfl dX1_portion_127 ?_
            refine V_iload_n X dX1_portion_130 7 rfl ?_
            refine C_iald X (N := 5) 10 (by decide) (b) rfl (by omega) (by decide) rfl dX1_portion_131 ?_
            refine V.topi (fun x8 ex8 => ?_)
            refine V_imul X dX1_portion_132 (V.topi (fun w9 ew9 => ?_))
            refine V_iload X dX1_portion_133 4 rfl ?_
            refine V_idiv X (by assumption) dX1_portion_135 (V.topi (fun w10 ew10 => ?_))
            refine V_iload X dX1_portion_136 1 rfl ?_
            refine V_iload X dX1_portion_138 2 rfl ?_
            refine V_icmpge X (tgt := 147) dX1_portion_140 (by decide) (fun h11 => ?_) (fun h11 => ?_)
            · -- 140 true
              have hz44 : i44 = nA := by omega
              have hv44_0' : x44_6 = zLe (F 10) (fun q => zIn a3 (nI q)) (zss (F 10) (fun q => zIn a3 (nI q)) nA) a1 nA := by rw [hv44_0, hz44]
              have hy44_7' : y44_7 = zAh (F 10) (fun q => zIn a3 (nI q)) (zss (F 10) (fun q => zIn a3 (nI q)) nA) a1 (zrst (a1 * F 10 b) (zss (F 10) (fun q => zIn a3 (nI q)) nA)) b nA := by rw [hy44_7, hz44]
              refine V_iconst (v := nI 0) X dX1_portion_147 (by decide) ?_
              refine V_iadd X dX1_portion_148 (V.topi (fun w12 ew12 => ?_))
              exact V_iret X E (Nat.zero_le _) (Nat.zero_le _) ⟨(congrArg (fun z => some (Value.int z)) (by rw [ew12, ew10, ew9, ex8]; unfold zPo; rw [mite_0 (not_or.mpr ⟨h1, not_not_intro zh3⟩), mite_0 (by rw [← hv44_0', ← hy44_7']; exact Int32.not_lt.mpr h11)])), rfl⟩ dX1_portion_149
            · -- 140 false
              have hz44 : i44 = nA := by omega
              have hv44_0' : x44_6 = zLe (F 10) (fun q => zIn a3 (nI q)) (zss (F 10) (fun q => zIn a3 (nI q)) nA) a1 nA := by rw [hv44_0, hz44]
              have hy44_7' : y44_7 = zAh (F 10) (fun q => zIn a3 (nI q)) (zss (F 10) (fun q => zIn a3 (nI q)) nA) a1 (zrst (a1 * F 10 b) (zss (F 10) (fun q => zIn a3 (nI q)) nA)) b nA := by rw [hy44_7, hz44]
              refine V_iconst (v := nI 1) X dX1_portion_143 (by decide) ?_
              refine V_goto (tgt := 148) X dX1_portion_144 (by decide) ?_
              refine V_iadd X dX1_portion_148 (V.topi (fun w13 ew13 => ?_))
              exact V_iret X E (Nat.zero_le _) (Nat.zero_le _) ⟨(congrArg (fun z => some (Value.int z)) (by rw [ew13, ew10, ew9, ex8]; unfold zPo; rw [mite_0 (not_or.mpr ⟨h1, not_not_intro zh3⟩), mite_1 (by rw [← hv44_0', ← hy44_7']; exact Int32.not_le.mp h11)])), rfl⟩ dX1_portion_149
          · -- 50 false
            refine V_iload_n X dX1_portion_53 8 rfl ?_
            refine V_iload X dX1_portion_54 0 rfl ?_
            refine V_callSN (rest := []) X E.room ml_X1_37 st_X5_has (by omega) (by decide) (k_X5_has (σ := (t, cW g X0 F σ0)) (a3) (nI (i44))) rfl rfl (Nat.le_of_ble_eq_true rfl) ⟨Nat.le_refl _, Nat.le_refl _⟩ dX1_portion_56 (fun _ _ h => False.elim h) (fun v56 σ' hp56 => ?_)
            obtain ⟨hp56, rfl⟩ := hp56
            obtain ⟨r14, rfl, hr14, fr14⟩ := hp56
            show V g κ 10 0 0 (t, cW g X0 F σ0) 59 [(8, .int (nI (i44))), (7, .int (nI (y44_7))), (6, .int (x44_6)), (5, .int (w6)), (4, .int (zss (F 10) (fun q => zIn (a3) (nI q)) nA)), (0, .ref (X0 + 7)), (1, .int (a1)), (2, .int (nI (b))), (3, .int (a3))] [.int (r14)]
            refine V_ifne X (tgt := 65) dX1_portion_59 (by decide) (fun h15 => ?_) (fun h15 => ?_)
            · -- 59 true
              have zh15 := fr14.mp h15
              refine V_iload X dX1_portion_65 2 rfl ?_
              refine V_iload_n X dX1_portion_67 6 rfl ?_
              refine V_aload_n X dX1_portion_68 5 rfl ?_
              refine C_getf X fl_X1_18 7 (by decide) rfl rfl dX1_portion_69 ?_
              refine V_iload X dX1_portion_72 0 rfl ?_
              refine C_iald X (N := 5) 10 (by decide) (i44) rfl (by omega) (by decide) rfl dX1_portion_74 ?_
              refine V.topi (fun x16 ex16 => ?_)
              refine V_imul X dX1_portion_75 (V.topi (fun w17 ew17 => ?_))
              refine V_iload X dX1_portion_76 4 rfl ?_
              refine V_idiv X (by assumption) dX1_portion_78 (V.topi (fun w18 ew18 => ?_))
              refine V_isub X dX1_portion_79 (V.topi (fun w19 ew19 => ?_))
              refine V_istore X [(6, .int (w19)), (8, .int (nI (i44))), (7, .int (nI (y44_7))), (5, .int (w6)), (4, .int (zss (F 10) (fun q => zIn (a3) (nI q)) nA)), (0, .ref (X0 + 7)), (1, .int (a1)), (2, .int (nI (b))), (3, .int (a3))] dX1_portion_80 (by decide) rfl ?_
              refine V_iload_n X dX1_portion_82 6 rfl ?_
              refine V_aload_n X dX1_portion_83 5 rfl ?_
              refine C_getf X fl_X1_18 7 (by decide) rfl rfl dX1_portion_84 ?_
              refine V_iload X dX1_portion_87 1 rfl ?_
              refine C_iald X (N := 5) 10 (by decide) (i44) rfl (by omega) (by decide) rfl dX1_portion_89 ?_
              refine V.topi (fun x20 ex20 => ?_)
              refine V_imul X dX1_portion_90 (V.topi (fun w21 ew21 => ?_))
              refine V_iload X dX1_portion_91 4 rfl ?_
              refine V_irem X (by assumption) dX1_portion_93 (V.topi (fun w22 ew22 => ?_))
              refine V_istore X [(9, .int (w22)), (6, .int (w19)), (8, .int (nI (i44))), (7, .int (nI (y44_7))), (5, .int (w6)), (4, .int (zss (F 10) (fun q => zIn (a3) (nI q)) nA)), (0, .ref (X0 + 7)), (1, .int (a1)), (2, .int (nI (b))), (3, .int (a3))] dX1_portion_94 (by decide) rfl ?_
              have hrow22 : w22 = zrst (a1 * F 10 i44) (zss (F 10) (fun q => zIn a3 (nI q)) nA) := by rw [ew22, ew21, ex20]; rfl
              refine V_iload X dX1_portion_96 0 rfl ?_
              refine V_iload X dX1_portion_98 4 rfl ?_
              refine V_icmpgt X (tgt := 116) dX1_portion_100 (by decide) (fun h23 => ?_) (fun h23 => ?_)
              · -- 100 true
                refine V_iinc X (nI (y44_7 + 1)) [(7, .int (nI (y44_7 + 1))), (9, .int (w22)), (6, .int (w19)), (8, .int (nI (i44))), (5, .int (w6)), (4, .int (zss (F 10) (fun q => zIn (a3) (nI q)) nA)), (0, .ref (X0 + 7)), (1, .int (a1)), (2, .int (nI (b))), (3, .int (a3))] dX1_portion_116 3 rfl (zinc _) (by decide) rfl ?_
                refine V_iinc X (nI (i44 + 1)) [(8, .int (nI (i44 + 1))), (7, .int (nI (y44_7 + 1))), (9, .int (w22)), (6, .int (w19)), (5, .int (w6)), (4, .int (zss (F 10) (fun q => zIn (a3) (nI q)) nA)), (0, .ref (X0 + 7)), (1, .int (a1)), (2, .int (nI (b))), (3, .int (a3))] dX1_portion_119 3 rfl (zinc _) (by decide) rfl ?_
                refine V_goto (tgt := 44) X dX1_portion_122 (by decide) ?_
                exact V.sub [0, 1, 3, 4, 5, 6, 7, 8, 9] rfl (ih44 _ (by omega) (i44 + 1) (y44_7 + 1) w19 rfl (by omega) (zAh_1 hy44_7 zh15 (Or.inl (by rw [← hrow22, ← hr5]; exact h23))) (zLe_1 hv44_0 zh15 (by rw [ew19, ew18, ew17, ex16])))
              · -- 100 false
                refine V_iload X dX1_portion_103 0 rfl ?_
                refine V_iload X dX1_portion_105 4 rfl ?_
                refine V_icmpne X (tgt := 119) dX1_portion_107 (by decide) (fun h24 => ?_) (fun h24 => ?_)
                · -- 107 true
                  refine V_iinc X (nI (i44 + 1)) [(8, .int (nI (i44 + 1))), (9, .int (w22)), (6, .int (w19)), (7, .int (nI (y44_7))), (5, .int (w6)), (4, .int (zss (F 10) (fun q => zIn (a3) (nI q)) nA)), (0, .ref (X0 + 7)), (1, .int (a1)), (2, .int (nI (b))), (3, .int (a3))] dX1_portion_119 2 rfl (zinc _) (by decide) rfl ?_
                  refine V_goto (tgt := 44) X dX1_portion_122 (by decide) ?_
                  exact V.sub [0, 3, 2, 4, 5, 6, 7, 8, 9] rfl (ih44 _ (by omega) (i44 + 1) (y44_7) w19 rfl (by omega) (zAh_0 hy44_7 (fun q => q.2.elim (fun z => h23 (by rw [← hrow22, ← hr5] at z; exact z)) (fun z => h24 (by rw [hrow22, hr5]; exact z.1)))) (zLe_1 hv44_0 zh15 (by rw [ew19, ew18, ew17, ex16])))
                · -- 107 false
                  refine V_iload X dX1_portion_110 2 rfl ?_
                  refine V_iload_n X dX1_portion_112 8 rfl ?_
                  refine V_icmpgeN X (by omega) (by omega) (tgt := 119) dX1_portion_113 (by decide) (fun h25 => ?_) (fun h25 => ?_)
                  · -- 113 true
                    refine V_iinc X (nI (i44 + 1)) [(8, .int (nI (i44 + 1))), (9, .int (w22)), (6, .int (w19)), (7, .int (nI (y44_7))), (5, .int (w6)), (4, .int (zss (F 10) (fun q => zIn (a3) (nI q)) nA)), (0, .ref (X0 + 7)), (1, .int (a1)), (2, .int (nI (b))), (3, .int (a3))] dX1_portion_119 2 rfl (zinc _) (by decide) rfl ?_
                    refine V_goto (tgt := 44) X dX1_portion_122 (by decide) ?_
                    exact V.sub [0, 3, 2, 4, 5, 6, 7, 8, 9] rfl (ih44 _ (by omega) (i44 + 1) (y44_7) w19 rfl (by omega) (zAh_0 hy44_7 (fun q => q.2.elim (fun z => h23 (by rw [← hrow22, ← hr5] at z; exact z)) (fun z => absurd z.2 (by omega)))) (zLe_1 hv44_0 zh15 (by rw [ew19, ew18, ew17, ex16])))
                  · -- 113 false
                    refine V_iinc X (nI (y44_7 + 1)) [(7, .int (nI (y44_7 + 1))), (9, .int (w22)), (6, .int (w19)), (8, .int (nI (i44))), (5, .int (w6)), (4, .int (zss (F 10) (fun q => zIn (a3) (nI q)) nA)), (0, .ref (X0 + 7)), (1, .int (a1)), (2, .int (nI (b))), (3, .int (a3))] dX1_portion_116 3 rfl (zinc _) (by decide) rfl ?_
                    refine V_iinc X (nI (i44 + 1)) [(8, .int (nI (i44 + 1))), (7, .int (nI (y44_7 + 1))), (9, .int (w22)), (6, .int (w19)), (5, .int (w6)), (4, .int (zss (F 10) (fun q => zIn (a3) (nI q)) nA)), (0, .ref (X0 + 7)), (1, .int (a1)), (2, .int (nI (b))), (3, .int (a3))] dX1_portion_119 3 rfl (zinc _) (by decide) rfl ?_
                    refine V_goto (tgt := 44) X dX1_portion_122 (by decide) ?_
                    exact V.sub [0, 1, 3, 4, 5, 6, 7, 8, 9] rfl (ih44 _ (by omega) (i44 + 1) (y44_7 + 1) w19 rfl (by omega) (zAh_1 hy44_7 zh15 (Or.inr ⟨by rw [← hrow22, ← hr5]; exact h24, by omega⟩)) (zLe_1 hv44_0 zh15 (by rw [ew19, ew18, ew17, ex16])))
            · -- 59 false
              have zh15 := mt fr14.mpr (not_not_intro h15)
              refine V_goto (tgt := 119) X dX1_portion_62 (by decide) ?_
              refine V_iinc X (nI (i44 + 1)) [(8, .int (nI (i44 + 1))), (7, .int (nI (y44_7))), (6, .int (x44_6)), (5, .int (w6)), (4, .int (zss (F 10) (fun q => zIn (a3) (nI q)) nA)), (0, .ref (X0 + 7)), (1, .int (a1)), (2, .int (nI (b))), (3, .int (a3))] dX1_portion_119 0 rfl (zinc _) (by decide) rfl ?_
              refine V_goto (tgt := 44) X dX1_portion_122 (by decide) ?_
              exact V.sub [0, 1, 2, 3, 4, 5, 6, 7, 8] rfl (ih44 _ (by omega) (i44 + 1) (y44_7) x44_6 rfl (by omega) (zAh_0 hy44_7 (fun q => zh15 q.1)) (zLe_0 hv44_0 zh15))
      exact L44 _ 0 (0) a1 rfl (by omega) (rfl) (rfl)
    · -- 17 false
      have zh3 := mt fr2.mpr (not_not_intro h3)
      refine V_iconst (v := nI 0) X dX1_portion_20 (by decide) ?_
      exact V_iret X E (Nat.zero_le _) (Nat.zero_le _) ⟨(congrArg (fun z => some (Value.int z)) (mite_1 (Or.inr zh3)).symm), rfl⟩ dX1_portion_21
set_option maxRecDepth 100000 in
set_option maxHeartbeats 4000000 in
theorem k_X0_actors {g : zG} {t : Nat × Nat} {X0 : Nat} {σ0 : Nat → Option va_E} {F : Nat → Nat → Int32} (hX : g.2.1.size ≤ X0) {nP nS nA nC nT : Nat} (hI : cI nP nS nA nC nT F)  : Ct g 10 yX0_actors cX0_actors 3 (some FieldType.int) 0 0 [.ref (X0 + 12)] (t, cW g X0 F σ0) (qR (fun v => ∃ x : Int32, v = some (.int x) ∧ zMk x (fun q => q < 5 ∧ ¬ F 13 q = 0)) (t, cW g X0 F σ0)) zNo := by
  refine Ct.of (lv := [(0, .ref (X0 + 12))]) (by decide) (Nat.le_of_ble_eq_true rfl) rfl ?_
  intro κ X E B _
  have X : zX g κ RX0 cX0_actors 3 := X
  obtain ⟨b1, b2, b3, b4, b5⟩ := hI.bnd
  refine V_iconst (v := nI 0) X dX0_actors_0 (by decide) ?_
  refine V_istore_n X [(1, .int (nI (0))), (0, .ref (X0 + 12))] dX0_actors_1 (by decide) rfl ?_
  refine V_iconst (v := nI 0) X dX0_actors_2 (by decide) ?_
  refine V_istore_n X [(2, .int (nI (0))), (1, .int (nI (0))), (0, .ref (X0 + 12))] dX0_actors_3 (by decide) rfl ?_
  have L4 : ∀ (n4 : Nat) (i4 : Nat) (x4_1 : Int32), n4 = 5 - i4 → i4 ≤ 5 → zMk x4_1 (fun q => q < i4 ∧ ¬ F 13 q = 0) → V g κ 3 0 0 (t, cW g X0 F σ0) 4 [(2, .int (nI (i4))), (1, .int (x4_1)), (0, .ref (X0 + 12))] [] := by
    intro n4
    induction n4 using Nat.strongRecOn with
    | ind n4 ih4 =>
      intro i4 x4_1 hn4 hi4 hv4_0
      refine V_iload_n X dX0_actors_4 0 rfl ?_
      refine V_iconst (v := nI 5) X dX0_actors_5 (by decide) ?_
      refine V_icmpgeN X (by omega) (by omega) (tgt := 30) dX0_actors_6 (by decide) (fun h1 => ?_) (fun h1 => ?_)
      · -- 6 true
        refine V_iload_n X dX0_actors_30 1 rfl ?_
        exact V_iret X E (Nat.zero_le _) (Nat.zero_le _) ⟨⟨_, rfl, (by rw [show i4 = 5 by omega] at hv4_0; exact hv4_0)⟩, rfl⟩ dX0_actors_31
      · -- 6 false
        refine V_aload_n X dX0_actors_9 2 rfl ?_
        refine C_getf X fl_X0_9 12 (by decide) rfl rfl dX0_actors_10 ?_
        refine V_iload_n X dX0_actors_13 0 rfl ?_
        refine C_iald X (N := 5) 13 (by decide) (i4) rfl (by omega) (by decide) rfl dX0_actors_14 ?_
        refine V.topi (fun x2 ex2 => ?_)
        refine V_ifeq X (tgt := 24) dX0_actors_15 (by decide) (fun h3 => ?_) (fun h3 => ?_)
        · -- 15 true
          refine V_iinc X (nI (i4 + 1)) [(2, .int (nI (i4 + 1))), (1, .int (x4_1)), (0, .ref (X0 + 12))] dX0_actors_24 0 rfl (zinc _) (by decide) rfl ?_
          refine V_goto (tgt := 4) X dX0_actors_27 (by decide) ?_
          exact V.sub [0, 1, 2] rfl (ih4 _ (by omega) (i4 + 1) x4_1 rfl (by omega) (by subst_vars; first | exact abl_yes hv4_0 (by assumption) (by omega) | exact abl_no hv4_0 (fun q => q (by first | assumption | exact Eq.symm (by assumption)))))
        · -- 15 false
          refine V_iload_n X dX0_actors_18 1 rfl ?_
          refine V_iconst (v := nI 1) X dX0_actors_19 (by decide) ?_
          refine V_iload_n X dX0_actors_20 0 rfl ?_
          refine V_ishl1 X (by omega) dX0_actors_21 ?_
          refine V_ior X dX0_actors_22 (V.topi (fun w4 ew4 => ?_))
          refine V_istore_n X [(1, .int (w4)), (2, .int (nI (i4))), (0, .ref (X0 + 12))] dX0_actors_23 (by decide) rfl ?_
          refine V_iinc X (nI (i4 + 1)) [(2, .int (nI (i4 + 1))), (1, .int (w4)), (0, .ref (X0 + 12))] dX0_actors_24 1 rfl (zinc _) (by decide) rfl ?_
          refine V_goto (tgt := 4) X dX0_actors_27 (by decide) ?_
          exact V.sub [0, 1, 2] rfl (ih4 _ (by omega) (i4 + 1) w4 rfl (by omega) (by subst_vars; first | exact abl_yes hv4_0 (by assumption) (by omega) | exact abl_no hv4_0 (fun q => q (by first | assumption | exact Eq.symm (by assumption)))))
  exact L4 _ 0 (nI (0)) rfl (by omega) (abl_0 (P := fun q => ¬ F 13 q = 0))
set_option maxRecDepth 100000 in
set_option maxHeartbeats 4000000 in
theorem k_X0_playerOf {g : zG} {t : Nat × Nat} {X0 : Nat} {σ0 : Nat → Option va_E} {F : Nat → Nat → Int32} (hX : g.2.1.size ≤ X0) {nP nS nA nC nT : Nat} (hI : cI nP nS nA nC nT F)  (a1 : Int32) : Ct g 11 yX0_playerOf cX0_playerOf 3 (some FieldType.int) 0 0 [.ref (X0 + 12), .int (a1)] (t, cW g X0 F σ0) (qR (zFi (fun i => zIn (F 13 i) a1) 5) (t, cW g X0 F σ0)) zNo := by
  refine Ct.of (lv := [(0, .ref (X0 + 12)), (1, .int (a1))]) (by decide) (Nat.le_of_ble_eq_true rfl) rfl ?_
  intro κ X E B _
  have X : zX g κ RX0 cX0_playerOf 3 := X
  obtain ⟨b1, b2, b3, b4, b5⟩ := hI.bnd
  refine V_iconst (v := nI 0) X dX0_playerOf_0 (by decide) ?_
  refine V_istore_n X [(2, .int (nI (0))), (0, .ref (X0 + 12)), (1, .int (a1))] dX0_playerOf_1 (by decide) rfl ?_
  have L2 : ∀ (n2 : Nat) (i2 : Nat), n2 = 5 - i2 → i2 ≤ 5 → (∀ j, j < i2 → ¬ zIn (F 13 j) a1) → V g κ 3 0 0 (t, cW g X0 F σ0) 2 [(2, .int (nI (i2))), (0, .ref (X0 + 12)), (1, .int (a1))] [] := by
    intro n2
    induction n2 using Nat.strongRecOn with
    | ind n2 ih2 =>
      intro i2 hn2 hi2 hv2_0
      refine V_iload_n X dX0_playerOf_2 0 rfl ?_
      refine V_iconst (v := nI 5) X dX0_playerOf_3 (by decide) ?_
      refine V_icmpgeN X (by omega) (by omega) (tgt := 28) dX0_playerOf_4 (by decide) (fun h1 => ?_) (fun h1 => ?_)
      · -- 4 true
        refine V_iconst (v := (-1)) X dX0_playerOf_28 (by decide) ?_
        exact V_iret X E (Nat.zero_le _) (Nat.zero_le _) ⟨Or.inl ⟨rfl, fun i hi => hv2_0 i (by omega)⟩, rfl⟩ dX0_playerOf_29
      · -- 4 false
        refine V_aload_n X dX0_playerOf_7 1 rfl ?_
        refine C_getf X fl_X0_9 12 (by decide) rfl rfl dX0_playerOf_8 ?_
        refine V_iload_n X dX0_playerOf_11 0 rfl ?_
        refine C_iald X (N := 5) 13 (by decide) (i2) rfl (by omega) (by decide) rfl dX0_playerOf_12 ?_
        refine V.topi (fun x2 ex2 => ?_)
        refine V_iload_n X dX0_playerOf_13 2 rfl ?_
        refine V_callSN (rest := []) X E.room ml_X0_86 st_X5_has (by omega) (by decide) (k_X5_has (σ := (t, cW g X0 F σ0)) (x2) (a1)) rfl rfl (Nat.le_of_ble_eq_true rfl) ⟨Nat.le_refl _, Nat.le_refl _⟩ dX0_playerOf_14 (fun _ _ h => False.elim h) (fun v14 σ' hp14 => ?_)
        obtain ⟨hp14, rfl⟩ := hp14
        obtain ⟨r3, rfl, hr3, fr3⟩ := hp14
        show V g κ 3 0 0 (t, cW g X0 F σ0) 17 [(2, .int (nI (i2))), (0, .ref (X0 + 12)), (1, .int (a1))] [.int (r3)]
        refine V_ifeq X (tgt := 22) dX0_playerOf_17 (by decide) (fun h4 => ?_) (fun h4 => ?_)
        · -- 17 true
          have zh4 := mt fr3.mpr (not_not_intro h4)
          refine V_iinc X (nI (i2 + 1)) [(2, .int (nI (i2 + 1))), (0, .ref (X0 + 12)), (1, .int (a1))] dX0_playerOf_22 0 rfl (zinc _) (by decide) rfl ?_
          refine V_goto (tgt := 2) X dX0_playerOf_25 (by decide) ?_
          exact V.sub [0, 1, 2] rfl (ih2 _ (by omega) (i2 + 1) rfl (by omega) (zal_s (P := fun j => zIn (F 13 j) a1) hv2_0 (by subst_vars; assumption)))
        · -- 17 false
          have zh4 := fr3.mp h4
          refine V_iload_n X dX0_playerOf_20 0 rfl ?_
          exact V_iret X E (Nat.zero_le _) (Nat.zero_le _) ⟨Or.inr ⟨_, by omega, rfl, by subst_vars; assumption, hv2_0⟩, rfl⟩ dX0_playerOf_21
  exact L2 _ 0 rfl (by omega) (fun j hj => absurd hj (Nat.not_lt_zero j))
set_option maxRecDepth 100000 in
set_option maxHeartbeats 4000000 in
theorem k_X4_wasteOf {g : zG} {t : Nat × Nat} {X0 : Nat} {σ0 : Nat → Option va_E} {F : Nat → Nat → Int32} (hX : g.2.1.size ≤ X0) {nP nS nA nC nT : Nat} (hI : cI nP nS nA nC nT F) (b : Nat) (hb : b < nC) (a2 : Int32) (a3 : Int32) : Ct g 11 yX4_wasteOf cX4_wasteOf 5 (some FieldType.int) 0 0 [.ref (X0 + 18), .int (nI (b)), .int (a2), .int (a3)] (t, cW g X0 F σ0) (qR pI (t, cW g X0 F σ0)) zNo := by
  refine Ct.of (lv := [(0, .ref (X0 + 18)), (1, .int (nI (b))), (2, .int (a2)), (3, .int (a3))]) (by decide) (Nat.le_of_ble_eq_true rfl) rfl ?_
  intro κ X E B _
  have X : zX g κ RX4 cX4_wasteOf 5 := X
  obtain ⟨b1, b2, b3, b4, b5⟩ := hI.bnd
  refine V_aload_n X dX4_wasteOf_0 0 rfl ?_
  refine C_getf X fl_X4_15 18 (by decide) rfl rfl dX4_wasteOf_1 ?_
  refine V_iload_n X dX4_wasteOf_4 1 rfl ?_
  refine C_iald X (N := 6) 20 (by decide) (b) rfl (by omega) (by decide) rfl dX4_wasteOf_5 ?_
  refine V.topi (fun x1 ex1 => ?_)
  refine V_iload_n X dX4_wasteOf_6 3 rfl ?_
  refine V_isub X dX4_wasteOf_7 (V.topi (fun w2 ew2 => ?_))
  refine V_mabs X E.room (Nat.le_refl _) (Nat.le_refl _) (by decide) ml_X4_49 st_J9_abs_0f7a4 rfl rfl (Nat.le_of_ble_eq_true rfl) dX4_wasteOf_8 (V.topi (fun w3 _ => ?_))
  refine V_istore X [(4, .int (w3)), (0, .ref (X0 + 18)), (1, .int (nI (b))), (2, .int (a2)), (3, .int (a3))] dX4_wasteOf_11 (by decide) rfl ?_
  refine V_aload_n X dX4_wasteOf_13 1 rfl ?_
  refine C_getf X fl_X4_54 18 (by decide) rfl rfl dX4_wasteOf_14 (V.topi (fun x4 ex4 => ?_))
  refine V_iload_n X dX4_wasteOf_17 2 rfl ?_
  refine V_callSN (rest := []) X E.room ml_X4_41 st_X5_has (by omega) (by decide) (k_X5_has (σ := (t, cW g X0 F σ0)) (x4) (nI (b))) rfl rfl (Nat.le_of_ble_eq_true rfl) ⟨Nat.le_refl _, Nat.le_refl _⟩ dX4_wasteOf_18 (fun _ _ h => False.elim h) (fun v18 σ' hp18 => ?_)
  obtain ⟨hp18, rfl⟩ := hp18
  obtain ⟨r5, rfl, hr5, fr5⟩ := hp18
  show V g κ 5 0 0 (t, cW g X0 F σ0) 21 [(4, .int (w3)), (0, .ref (X0 + 18)), (1, .int (nI (b))), (2, .int (a2)), (3, .int (a3))] [.int (r5)]
  refine V_ifne X (tgt := 40) dX4_wasteOf_21 (by decide) (fun h6 => ?_) (fun h6 => ?_)
  · -- 21 true
    have zh6 := fr5.mp h6
    refine V_iconst (v := (-1)) X dX4_wasteOf_40 (by decide) ?_
    exact V_iret X E (Nat.zero_le _) (Nat.zero_le _) ⟨⟨_, rfl⟩, rfl⟩ dX4_wasteOf_41
  · -- 21 false
    have zh6 := mt fr5.mpr (not_not_intro h6)
    refine V_aload_n X dX4_wasteOf_24 1 rfl ?_
    refine C_getf X fl_X4_9 18 (by decide) rfl rfl dX4_wasteOf_25 ?_
    refine V_iload_n X dX4_wasteOf_28 2 rfl ?_
    refine C_iald X (N := 6) 19 (by decide) (b) rfl (by omega) (by decide) rfl dX4_wasteOf_29 ?_
    refine V.topi (fun x7 ex7 => ?_)
    refine V_iload_n X dX4_wasteOf_30 3 rfl ?_
    refine V_icmplt X (tgt := 40) dX4_wasteOf_31 (by decide) (fun h8 => ?_) (fun h8 => ?_)
    · -- 31 true
      refine V_iconst (v := (-1)) X dX4_wasteOf_40 (by decide) ?_
      exact V_iret X E (Nat.zero_le _) (Nat.zero_le _) ⟨⟨_, rfl⟩, rfl⟩ dX4_wasteOf_41
    · -- 31 false
      refine V_iload X dX4_wasteOf_34 0 rfl ?_
      refine V_iconst (v := nI 2) X dX4_wasteOf_36 (by decide) ?_
      refine V_icmple X (tgt := 42) dX4_wasteOf_37 (by decide) (fun h9 => ?_) (fun h9 => ?_)
      · -- 37 true
        refine V_aload_n X dX4_wasteOf_42 1 rfl ?_
        refine C_getf X fl_X4_9 18 (by decide) rfl rfl dX4_wasteOf_43 ?_
        refine V_iload_n X dX4_wasteOf_46 2 rfl ?_
        refine C_iald X (N := 6) 19 (by decide) (b) rfl (by omega) (by decide) rfl dX4_wasteOf_47 ?_
        refine V.topi (fun x10 ex10 => ?_)
        refine V_iload_n X dX4_wasteOf_48 3 rfl ?_
        refine V_isub X dX4_wasteOf_49 (V.topi (fun w11 ew11 => ?_))
        refine V_iload X dX4_wasteOf_50 0 rfl ?_
        refine V_iadd X dX4_wasteOf_52 (V.topi (fun w12 ew12 => ?_))
        exact V_iret X E (Nat.zero_le _) (Nat.zero_le _) ⟨⟨_, rfl⟩, rfl⟩ dX4_wasteOf_53
      · -- 37 false
        refine V_iconst (v := (-1)) X dX4_wasteOf_40 (by decide) ?_
        exact V_iret X E (Nat.zero_le _) (Nat.zero_le _) ⟨⟨_, rfl⟩, rfl⟩ dX4_wasteOf_41
set_option maxRecDepth 100000 in
set_option maxHeartbeats 4000000 in
theorem k_X4_keepLess {g : zG} {t : Nat × Nat} {X0 : Nat} {σ0 : Nat → Option va_E} {F : Nat → Nat → Int32} (hX : g.2.1.size ≤ X0) {nP nS nA nC nT : Nat} (hI : cI nP nS nA nC nT F) (b : Nat) (hb : b < 64) (a2 : Int32) : Ct g 10 yX4_keepLess cX4_keepLess 3 none 0 0 [.ref (X0 + 18), .int (nI (b)), .int (a2)] (t, cW g X0 F σ0) (qS pV g t X0 F σ0) zNo := by
  refine Ct.of (lv := [(0, .ref (X0 + 18)), (1, .int (nI (b))), (2, .int (a2))]) (by decide) (Nat.le_of_ble_eq_true rfl) rfl ?_
  intro κ X E B _
  have X : zX g κ RX4 cX4_keepLess 3 := X
  obtain ⟨b1, b2, b3, b4, b5⟩ := hI.bnd
  refine V_aload_n X dX4_keepLess_0 0 rfl ?_
  refine C_getf X fl_X4_21 18 (by decide) rfl rfl dX4_keepLess_1 ?_
  refine V_iload_n X dX4_keepLess_4 1 rfl ?_
  refine C_iald X (N := 64) 22 (by decide) (b) rfl (by omega) (by decide) rfl dX4_keepLess_5 ?_
  refine V.topi (fun x1 ex1 => ?_)
  refine V_iconst (v := (-1)) X dX4_keepLess_6 (by decide) ?_
  refine V_icmpeq X (tgt := 20) dX4_keepLess_7 (by decide) (fun h2 => ?_) (fun h2 => ?_)
  · -- 7 true
    refine V_aload_n X dX4_keepLess_20 0 rfl ?_
    refine C_getf X fl_X4_21 18 (by decide) rfl rfl dX4_keepLess_21 ?_
    refine V_iload_n X dX4_keepLess_24 1 rfl ?_
    refine V_iload_n X dX4_keepLess_25 2 rfl ?_
    refine C_iast X (N := 64) 22 (by decide) hX (b) rfl (by omega) (by decide) (fun _ => rfl) dX4_keepLess_26 (fun F3 hF3 => ?_)
    have hJF3 := (cJ.rfl' : cJ F F).set hF3 (zscr (by omega))
    exact V_vret X E (Nat.zero_le _) (Nat.zero_le _) ⟨rfl, ⟨_, rfl, hJF3⟩⟩ dX4_keepLess_27
  · -- 7 false
    refine V_iload_n X dX4_keepLess_10 2 rfl ?_
    refine V_aload_n X dX4_keepLess_11 0 rfl ?_
    refine C_getf X fl_X4_21 18 (by decide) rfl rfl dX4_keepLess_12 ?_
    refine V_iload_n X dX4_keepLess_15 1 rfl ?_
    refine C_iald X (N := 64) 22 (by decide) (b) rfl (by omega) (by decide) rfl dX4_keepLess_16 ?_
    refine V.topi (fun x4 ex4 => ?_)
    refine V_icmpge X (tgt := 27) dX4_keepLess_17 (by decide) (fun h5 => ?_) (fun h5 => ?_)
    · -- 17 true
      exact V_vret X E (Nat.zero_le _) (Nat.zero_le _) ⟨rfl, ⟨_, rfl, cJ.rfl'⟩⟩ dX4_keepLess_27
    · -- 17 false
      refine V_aload_n X dX4_keepLess_20 0 rfl ?_
      refine C_getf X fl_X4_21 18 (by decide) rfl rfl dX4_keepLess_21 ?_
      refine V_iload_n X dX4_keepLess_24 1 rfl ?_
      refine V_iload_n X dX4_keepLess_25 2 rfl ?_
      refine C_iast X (N := 64) 22 (by decide) hX (b) rfl (by omega) (by decide) (fun _ => rfl) dX4_keepLess_26 (fun F6 hF6 => ?_)
      have hJF6 := (cJ.rfl' : cJ F F).set hF6 (zscr (by omega))
      exact V_vret X E (Nat.zero_le _) (Nat.zero_le _) ⟨rfl, ⟨_, rfl, hJF6⟩⟩ dX4_keepLess_27
set_option maxRecDepth 100000 in
set_option maxHeartbeats 4000000 in
theorem k_X4_startDressing {g : zG} {t : Nat × Nat} {X0 : Nat} {σ0 : Nat → Option va_E} {F : Nat → Nat → Int32} (hX : g.2.1.size ≤ X0) {nP nS nA nC nT : Nat} (hI : cI nP nS nA nC nT F)  : Ct g 10 yX4_startDressing cX4_startDressing 2 none 0 0 [.ref (X0 + 18)] (t, cW g X0 F σ0) (qS pV g t X0 F σ0) zNo := by
  refine Ct.of (lv := [(0, .ref (X0 + 18))]) (by decide) (Nat.le_of_ble_eq_true rfl) rfl ?_
  intro κ X E B _
  have X : zX g κ RX4 cX4_startDressing 2 := X
  obtain ⟨b1, b2, b3, b4, b5⟩ := hI.bnd
  refine V_iconst (v := nI 0) X dX4_startDressing_0 (by decide) ?_
  refine V_istore_n X [(1, .int (nI (0))), (0, .ref (X0 + 18))] dX4_startDressing_1 (by decide) rfl ?_
  have L2 : ∀ (n2 : Nat) (i2 : Nat) (G2 : Nat → Nat → Int32), n2 = 64 - i2 → i2 ≤ 64 → cJ F G2 → V g κ 2 0 0 (t, cW g X0 G2 σ0) 2 [(1, .int (nI (i2))), (0, .ref (X0 + 18))] [] := by
    intro n2
    induction n2 using Nat.strongRecOn with
    | ind n2 ih2 =>
      intro i2 G2 hn2 hi2 hJ2
      refine V_iload_n X dX4_startDressing_2 0 rfl ?_
      refine V_aload_n X dX4_startDressing_3 1 rfl ?_
      refine C_getf X fl_X4_21 18 (by decide) rfl rfl dX4_startDressing_4 ?_
      refine C_alen (N := 64) (v := nI 64) X 22 (by decide) rfl (by decide) dX4_startDressing_7 ?_
      refine V_icmpgeN X (by omega) (by omega) (tgt := 24) dX4_startDressing_8 (by decide) (fun h1 => ?_) (fun h1 => ?_)
      · -- 8 true
        refine V_aload_n X dX4_startDressing_24 1 rfl ?_
        refine C_getf X fl_X4_21 18 (by decide) rfl rfl dX4_startDressing_25 ?_
        refine V_iconst (v := nI 0) X dX4_startDressing_28 (by decide) ?_
        refine V_iconst (v := nI 0) X dX4_startDressing_29 (by decide) ?_
        refine C_iast X (N := 64) 22 (by decide) hX (0) rfl (by omega) (by decide) (fun _ => rfl) dX4_startDressing_30 (fun F2 hF2 => ?_)
        have hJF2 := (hJ2 : cJ F G2).set hF2 (zscr (by omega))
        refine V_aload_n X dX4_startDressing_31 1 rfl ?_
        refine V_iconst (v := nI 0) X dX4_startDressing_32 (by decide) ?_
        refine C_putf X fl_X4_28 zt_X4 18 (by decide) hX rfl (Nat.le_of_ble_eq_true rfl) rfl rfl rfl rfl rfl dX4_startDressing_33 (fun F3 hF3 => ?_)
        have hJF3 := (hJF2 : cJ F F2).set hF3 rfl
        exact V_vret X E (Nat.zero_le _) (Nat.zero_le _) ⟨rfl, ⟨_, rfl, hJF3⟩⟩ dX4_startDressing_36
      · -- 8 false
        refine V_aload_n X dX4_startDressing_11 1 rfl ?_
        refine C_getf X fl_X4_21 18 (by decide) rfl rfl dX4_startDressing_12 ?_
        refine V_iload_n X dX4_startDressing_15 0 rfl ?_
        refine V_iconst (v := (-1)) X dX4_startDressing_16 (by decide) ?_
        refine C_iast X (N := 64) 22 (by decide) hX (i2) rfl (by omega) (by decide) (fun _ => rfl) dX4_startDressing_17 (fun F4 hF4 => ?_)
        have hJF4 := (hJ2 : cJ F G2).set hF4 (zscr (by omega))
        refine V_iinc X (nI (i2 + 1)) [(1, .int (nI (i2 + 1))), (0, .ref (X0 + 18))] dX4_startDressing_18 0 rfl (zinc _) (by decide) rfl ?_
        refine V_goto (tgt := 2) X dX4_startDressing_21 (by decide) ?_
        exact V.sub [0, 1] rfl (ih2 _ (by omega) (i2 + 1) F4 rfl (by omega) hJF4)
  exact L2 _ 0 F rfl (by omega) cJ.rfl'
set_option maxRecDepth 100000 in
set_option maxHeartbeats 4000000 in
theorem k_X4_dressOneMore {g : zG} {t : Nat × Nat} {X0 : Nat} {σ0 : Nat → Option va_E} {F : Nat → Nat → Int32} (hX : g.2.1.size ≤ X0) {nP nS nA nC nT : Nat} (hI : cI nP nS nA nC nT F)  (a1 : Int32) (a2 : Int32) : Ct g 12 yX4_dressOneMore cX4_dressOneMore 6 none 0 0 [.ref (X0 + 18), .int (a1), .int (a2)] (t, cW g X0 F σ0) (qS pV g t X0 F σ0) zNo := by
  refine Ct.of (lv := [(0, .ref (X0 + 18)), (1, .int (a1)), (2, .int (a2))]) (by decide) (Nat.le_of_ble_eq_true rfl) rfl ?_
  intro κ X E B _
  have X : zX g κ RX4 cX4_dressOneMore 6 := X
  obtain ⟨b1, b2, b3, b4, b5⟩ := hI.bnd
  have h64 : 2 ^ nC ≤ 64 := zp2 (n := 6) (by omega)
  have h1 := Nat.one_le_two_pow (n := nC)
  refine V_iconst (v := nI 0) X dX4_dressOneMore_0 (by decide) ?_
  refine V_istore_n X [(3, .int (nI (0))), (0, .ref (X0 + 18)), (1, .int (a1)), (2, .int (a2))] dX4_dressOneMore_1 (by decide) rfl ?_
  have L2 : ∀ (n2 : Nat) (i2 : Nat) (G2 : Nat → Nat → Int32), n2 = 2 ^ (nC) - i2 → i2 ≤ 2 ^ (nC) → cJ F G2 → V g κ 6 0 0 (t, cW g X0 G2 σ0) 2 [(3, .int (nI (i2))), (0, .ref (X0 + 18)), (1, .int (a1)), (2, .int (a2))] [] := by
    intro n2
    induction n2 using Nat.strongRecOn with
    | ind n2 ih2 =>
      intro i2 G2 hn2 hi2 hJ2
      refine V_iload_n X dX4_dressOneMore_2 0 rfl ?_
      refine V_iconst (v := nI 1) X dX4_dressOneMore_3 (by decide) ?_
      refine V_aload_n X dX4_dressOneMore_4 1 rfl ?_
      refine C_getfN (z := nI (nC)) X fl_X4_24 18 (by decide) rfl rfl (hI.mv hJ2).f18_3 dX4_dressOneMore_5 ?_
      refine V_ishl1 X (by omega) dX4_dressOneMore_8 ?_
      refine V_icmpgeN X (by omega) (by omega) (tgt := 104) dX4_dressOneMore_9 (by decide) (fun h1 => ?_) (fun h1 => ?_)
      · -- 9 true
        refine V_aload_n X dX4_dressOneMore_104 1 rfl ?_
        refine V_dup X dX4_dressOneMore_105 rfl ?_
        refine C_getf X fl_X4_28 18 (by decide) rfl rfl dX4_dressOneMore_106 (V.topi (fun x2 ex2 => ?_))
        refine V_iconst (v := nI 1) X dX4_dressOneMore_109 (by decide) ?_
        refine V_iadd X dX4_dressOneMore_110 (V.topi (fun w3 ew3 => ?_))
        refine C_putf X fl_X4_28 zt_X4 18 (by decide) hX rfl (Nat.le_of_ble_eq_true rfl) rfl rfl rfl rfl rfl dX4_dressOneMore_111 (fun F4 hF4 => ?_)
        have hJF4 := (hJ2 : cJ F G2).set hF4 rfl
        exact V_vret X E (Nat.zero_le _) (Nat.zero_le _) ⟨rfl, ⟨_, rfl, hJF4⟩⟩ dX4_dressOneMore_114
      · -- 9 false
        refine V_iload_n X dX4_dressOneMore_12 0 rfl ?_
        refine V_callS (rest := []) X E.room ml_X4_31 st_J6_bitCount_0f7a4 (by omega) (by decide) (k_J6_bitCount_0f7a4 (σ := (t, cW g X0 G2 σ0)) (nI (i2))) rfl rfl (Nat.le_of_ble_eq_true rfl) ⟨Nat.le_refl _, Nat.le_refl _⟩ dX4_dressOneMore_13 (fun _ _ h => False.elim h) (fun v13 σ' hp13 => ?_)
        obtain ⟨hp13, rfl⟩ := hp13
        cases (hp13 : _ = some (Value.int (zbc (nI (i2)))))
        show V g κ 6 0 0 (t, cW g X0 G2 σ0) 16 [(3, .int (nI (i2))), (0, .ref (X0 + 18)), (1, .int (a1)), (2, .int (a2))] [.int (zbc (nI (i2)))]
        refine V_aload_n X dX4_dressOneMore_16 1 rfl ?_
        refine C_getf X fl_X4_28 18 (by decide) rfl rfl dX4_dressOneMore_17 (V.topi (fun x5 ex5 => ?_))
        refine V_icmpne X (tgt := 98) dX4_dressOneMore_20 (by decide) (fun h6 => ?_) (fun h6 => ?_)
        · -- 20 true
          refine V_iinc X (nI (i2 + 1)) [(3, .int (nI (i2 + 1))), (0, .ref (X0 + 18)), (1, .int (a1)), (2, .int (a2))] dX4_dressOneMore_98 0 rfl (zinc _) (by decide) rfl ?_
          refine V_goto (tgt := 2) X dX4_dressOneMore_101 (by decide) ?_
          exact V.sub [0, 1, 2, 3] rfl (ih2 _ (by omega) (i2 + 1) G2 rfl (by omega) hJ2)
        · -- 20 false
          refine V_aload_n X dX4_dressOneMore_23 1 rfl ?_
          refine C_getf X fl_X4_21 18 (by decide) rfl rfl dX4_dressOneMore_24 ?_
          refine V_iload_n X dX4_dressOneMore_27 0 rfl ?_
          refine C_iald X (N := 64) 22 (by decide) (i2) rfl (by omega) (by decide) rfl dX4_dressOneMore_28 ?_
          refine V.topi (fun x7 ex7 => ?_)
          refine V_iconst (v := (-1)) X dX4_dressOneMore_29 (by decide) ?_
          refine V_icmpne X (tgt := 36) dX4_dressOneMore_30 (by decide) (fun h8 => ?_) (fun h8 => ?_)
          · -- 30 true
            refine V_iconst (v := nI 0) X dX4_dressOneMore_36 (by decide) ?_
            refine V_istore X [(4, .int (nI (0))), (3, .int (nI (i2))), (0, .ref (X0 + 18)), (1, .int (a1)), (2, .int (a2))] dX4_dressOneMore_37 (by decide) rfl ?_
            have L39 : ∀ (n39 : Nat) (i39 : Nat) (G39 : Nat → Nat → Int32), n39 = nC - i39 → i39 ≤ nC → cJ F G39 → V g κ 6 0 0 (t, cW g X0 G39 σ0) 39 [(4, .int (nI (i39))), (3, .int (nI (i2))), (0, .ref (X0 + 18)), (1, .int (a1)), (2, .int (a2))] [] := by
              intro n39
              induction n39 using Nat.strongRecOn with
              | ind n39 ih39 =>
                intro i39 G39 hn39 hi39 hJ39
                refine V_iload X dX4_dressOneMore_39 0 rfl ?_
                refine V_aload_n X dX4_dressOneMore_41 2 rfl ?_
                refine C_getfN (z := nI (nC)) X fl_X4_24 18 (by decide) rfl rfl (hI.mv hJ39).f18_3 dX4_dressOneMore_42 ?_
                refine V_icmpgeN X (by omega) (by omega) (tgt := 98) dX4_dressOneMore_45 (by decide) (fun h9 => ?_) (fun h9 => ?_)
                · -- 45 true
                  refine V_iinc X (nI (i2 + 1)) [(3, .int (nI (i2 + 1))), (4, .int (nI (i39))), (0, .ref (X0 + 18)), (1, .int (a1)), (2, .int (a2))] dX4_dressOneMore_98 1 rfl (zinc _) (by decide) rfl ?_
                  refine V_goto (tgt := 2) X dX4_dressOneMore_101 (by decide) ?_
                  exact V.sub [0, 2, 3, 4] rfl (ih2 _ (by omega) (i2 + 1) G39 rfl (by omega) hJ39)
                · -- 45 false
                  refine V_aload_n X dX4_dressOneMore_48 2 rfl ?_
                  refine V_iload X dX4_dressOneMore_49 0 rfl ?_
                  refine V_iload_n X dX4_dressOneMore_51 3 rfl ?_
                  refine V_iload_n X dX4_dressOneMore_52 4 rfl ?_
                  refine V_callV (rest := []) X E.room ml_X4_37 in_X4_wasteOf (ci := 8) rfl se_X4_wasteOf (C_recv (q := 18) (by decide) rfl) (by decide) (by decide) (k_X4_wasteOf hX (hI.mv hJ39) (i39) (by omega) (a1) (a2)) rfl rfl (Nat.le_of_ble_eq_true rfl) ⟨Nat.le_refl _, Nat.le_refl _⟩ dX4_dressOneMore_53 (fun _ _ h => False.elim h) (fun v53 σ' hp53 => ?_)
                  obtain ⟨hp53, rfl⟩ := hp53
                  obtain ⟨r10, rfl⟩ := hp53
                  show V g κ 6 0 0 (t, cW g X0 G39 σ0) 56 [(4, .int (nI (i39))), (3, .int (nI (i2))), (0, .ref (X0 + 18)), (1, .int (a1)), (2, .int (a2))] [.int (r10)]
                  refine V_istore X [(5, .int (r10)), (4, .int (nI (i39))), (3, .int (nI (i2))), (0, .ref (X0 + 18)), (1, .int (a1)), (2, .int (a2))] dX4_dressOneMore_56 (by decide) rfl ?_
                  refine V_iload X dX4_dressOneMore_58 0 rfl ?_
                  refine V_iconst (v := (-1)) X dX4_dressOneMore_60 (by decide) ?_
                  refine V_icmpeq X (tgt := 92) dX4_dressOneMore_61 (by decide) (fun h11 => ?_) (fun h11 => ?_)
                  · -- 61 true
                    refine V_iinc X (nI (i39 + 1)) [(4, .int (nI (i39 + 1))), (5, .int (r10)), (3, .int (nI (i2))), (0, .ref (X0 + 18)), (1, .int (a1)), (2, .int (a2))] dX4_dressOneMore_92 1 rfl (zinc _) (by decide) rfl ?_
                    refine V_goto (tgt := 39) X dX4_dressOneMore_95 (by decide) ?_
                    exact V.sub [0, 2, 3, 4, 5] rfl (ih39 _ (by omega) (i39 + 1) G39 rfl (by omega) hJ39)
                  · -- 61 false
                    refine V_iload_n X dX4_dressOneMore_64 2 rfl ?_
                    refine V_iload X dX4_dressOneMore_65 1 rfl ?_
                    refine V_callSN (rest := []) X E.room ml_X4_41 st_X5_has (by omega) (by decide) (k_X5_has (σ := (t, cW g X0 G39 σ0)) (nI (i2)) (nI (i39))) rfl rfl (Nat.le_of_ble_eq_true rfl) ⟨Nat.le_refl _, Nat.le_refl _⟩ dX4_dressOneMore_67 (fun _ _ h => False.elim h) (fun v67 σ' hp67 => ?_)
                    obtain ⟨hp67, rfl⟩ := hp67
                    obtain ⟨r12, rfl, hr12, fr12⟩ := hp67
                    show V g κ 6 0 0 (t, cW g X0 G39 σ0) 70 [(5, .int (r10)), (4, .int (nI (i39))), (3, .int (nI (i2))), (0, .ref (X0 + 18)), (1, .int (a1)), (2, .int (a2))] [.int (r12)]
                    refine V_ifne X (tgt := 92) dX4_dressOneMore_70 (by decide) (fun h13 => ?_) (fun h13 => ?_)
                    · -- 70 true
                      have zh13 := fr12.mp h13
                      refine V_iinc X (nI (i39 + 1)) [(4, .int (nI (i39 + 1))), (5, .int (r10)), (3, .int (nI (i2))), (0, .ref (X0 + 18)), (1, .int (a1)), (2, .int (a2))] dX4_dressOneMore_92 1 rfl (zinc _) (by decide) rfl ?_
                      refine V_goto (tgt := 39) X dX4_dressOneMore_95 (by decide) ?_
                      exact V.sub [0, 2, 3, 4, 5] rfl (ih39 _ (by omega) (i39 + 1) G39 rfl (by omega) hJ39)
                    · -- 70 false
                      have zh13 := mt fr12.mpr (not_not_intro h13)
                      refine V_aload_n X dX4_dressOneMore_73 3 rfl ?_
                      refine V_iload_n X dX4_dressOneMore_74 2 rfl ?_
                      refine V_iconst (v := nI 1) X dX4_dressOneMore_75 (by decide) ?_
                      refine V_iload X dX4_dressOneMore_76 1 rfl ?_
                      refine V_ishl1 X (by omega) dX4_dressOneMore_78 ?_
                      refine V_iorN X dX4_dressOneMore_79 ?_
                      refine V_aload_n X dX4_dressOneMore_80 3 rfl ?_
                      refine C_getf X fl_X4_21 18 (by decide) rfl rfl dX4_dressOneMore_81 ?_
                      refine V_iload_n X dX4_dressOneMore_84 2 rfl ?_
                      refine C_iald X (N := 64) 22 (by decide) (i2) rfl (by omega) (by decide) rfl dX4_dressOneMore_85 ?_
                      refine V.topi (fun x14 ex14 => ?_)
                      refine V_iload X dX4_dressOneMore_86 0 rfl ?_
                      refine V_iadd X dX4_dressOneMore_88 (V.topi (fun w15 ew15 => ?_))
                      refine V_callV (rest := []) X E.room ml_X4_45 in_X4_keepLess (ci := 8) rfl se_X4_keepLess (C_recv (q := 18) (by decide) rfl) (by decide) (by decide) (k_X4_keepLess hX (hI.mv hJ39) ((i2) ||| (2 ^ (i39))) (zor (n := 6) (by omega) (by omega)) (w15)) rfl rfl (Nat.le_of_ble_eq_true rfl) ⟨Nat.le_refl _, Nat.le_refl _⟩ dX4_dressOneMore_89 (fun _ _ h => False.elim h) (fun v89 σ' hp89 => ?_)
                      obtain ⟨hp89, F16, rfl, hJF16⟩ := hp89
                      have hKF16 : cJ F F16 := (hJ39.trans hJF16)
                      cases (hp89 : _ = none)
                      show V g κ 6 0 0 (t, cW g X0 F16 σ0) 92 [(5, .int (r10)), (4, .int (nI (i39))), (3, .int (nI (i2))), (0, .ref (X0 + 18)), (1, .int (a1)), (2, .int (a2))] []
                      refine V_iinc X (nI (i39 + 1)) [(4, .int (nI (i39 + 1))), (5, .int (r10)), (3, .int (nI (i2))), (0, .ref (X0 + 18)), (1, .int (a1)), (2, .int (a2))] dX4_dressOneMore_92 1 rfl (zinc _) (by decide) rfl ?_
                      refine V_goto (tgt := 39) X dX4_dressOneMore_95 (by decide) ?_
                      exact V.sub [0, 2, 3, 4, 5] rfl (ih39 _ (by omega) (i39 + 1) F16 rfl (by omega) hKF16)
            exact L39 _ 0 G2 rfl (by omega) hJ2
          · -- 30 false
            refine V_goto (tgt := 98) X dX4_dressOneMore_33 (by decide) ?_
            refine V_iinc X (nI (i2 + 1)) [(3, .int (nI (i2 + 1))), (0, .ref (X0 + 18)), (1, .int (a1)), (2, .int (a2))] dX4_dressOneMore_98 0 rfl (zinc _) (by decide) rfl ?_
            refine V_goto (tgt := 2) X dX4_dressOneMore_101 (by decide) ?_
            exact V.sub [0, 1, 2, 3] rfl (ih2 _ (by omega) (i2 + 1) G2 rfl (by omega) hJ2)
  exact L2 _ 0 F rfl (by omega) cJ.rfl'
set_option maxRecDepth 100000 in
set_option maxHeartbeats 4000000 in
theorem k_X4_leastWaste {g : zG} {t : Nat × Nat} {X0 : Nat} {σ0 : Nat → Option va_E} {F : Nat → Nat → Int32} (hX : g.2.1.size ≤ X0) {nP nS nA nC nT : Nat} (hI : cI nP nS nA nC nT F)  : Ct g 11 yX4_leastWaste cX4_leastWaste 3 (some FieldType.int) 0 0 [.ref (X0 + 18)] (t, cW g X0 F σ0) (qR pI (t, cW g X0 F σ0)) zNo := by
  refine Ct.of (lv := [(0, .ref (X0 + 18))]) (by decide) (Nat.le_of_ble_eq_true rfl) rfl ?_
  intro κ X E B _
  have X : zX g κ RX4 cX4_leastWaste 3 := X
  obtain ⟨b1, b2, b3, b4, b5⟩ := hI.bnd
  have h64 : 2 ^ nC ≤ 64 := zp2 (n := 6) (by omega)
  have h1 := Nat.one_le_two_pow (n := nC)
  refine V_iconst (v := (-1)) X dX4_leastWaste_0 (by decide) ?_
  refine V_istore_n X [(1, .int (-1)), (0, .ref (X0 + 18))] dX4_leastWaste_1 (by decide) rfl ?_
  refine V_iconst (v := nI 0) X dX4_leastWaste_2 (by decide) ?_
  refine V_istore_n X [(2, .int (nI (0))), (1, .int (-1)), (0, .ref (X0 + 18))] dX4_leastWaste_3 (by decide) rfl ?_
  have L4 : ∀ (n4 : Nat) (i4 : Nat) (x4_1 : Int32), n4 = 2 ^ (nC) - i4 → i4 ≤ 2 ^ (nC) → V g κ 3 0 0 (t, cW g X0 F σ0) 4 [(2, .int (nI (i4))), (1, .int (x4_1)), (0, .ref (X0 + 18))] [] := by
    intro n4
    induction n4 using Nat.strongRecOn with
    | ind n4 ih4 =>
      intro i4 x4_1 hn4 hi4
      refine V_iload_n X dX4_leastWaste_4 0 rfl ?_
      refine V_iconst (v := nI 1) X dX4_leastWaste_5 (by decide) ?_
      refine V_aload_n X dX4_leastWaste_6 2 rfl ?_
      refine C_getfN (z := nI (nC)) X fl_X4_24 18 (by decide) rfl rfl hI.f18_3 dX4_leastWaste_7 ?_
      refine V_ishl1 X (by omega) dX4_leastWaste_10 ?_
      refine V_icmpgeN X (by omega) (by omega) (tgt := 63) dX4_leastWaste_11 (by decide) (fun h1 => ?_) (fun h1 => ?_)
      · -- 11 true
        refine V_iload_n X dX4_leastWaste_63 1 rfl ?_
        exact V_iret X E (Nat.zero_le _) (Nat.zero_le _) ⟨⟨_, rfl⟩, rfl⟩ dX4_leastWaste_64
      · -- 11 false
        refine V_iload_n X dX4_leastWaste_14 0 rfl ?_
        refine V_callS (rest := []) X E.room ml_X4_31 st_J6_bitCount_0f7a4 (by omega) (by decide) (k_J6_bitCount_0f7a4 (σ := (t, cW g X0 F σ0)) (nI (i4))) rfl rfl (Nat.le_of_ble_eq_true rfl) ⟨Nat.le_refl _, Nat.le_refl _⟩ dX4_leastWaste_15 (fun _ _ h => False.elim h) (fun v15 σ' hp15 => ?_)
        obtain ⟨hp15, rfl⟩ := hp15
        cases (hp15 : _ = some (Value.int (zbc (nI (i4)))))
        show V g κ 3 0 0 (t, cW g X0 F σ0) 18 [(2, .int (nI (i4))), (1, .int (x4_1)), (0, .ref (X0 + 18))] [.int (zbc (nI (i4)))]
        refine V_aload_n X dX4_leastWaste_18 2 rfl ?_
        refine C_getf X fl_X4_28 18 (by decide) rfl rfl dX4_leastWaste_19 (V.topi (fun x2 ex2 => ?_))
        refine V_icmpne X (tgt := 57) dX4_leastWaste_22 (by decide) (fun h3 => ?_) (fun h3 => ?_)
        · -- 22 true
          refine V_iinc X (nI (i4 + 1)) [(2, .int (nI (i4 + 1))), (1, .int (x4_1)), (0, .ref (X0 + 18))] dX4_leastWaste_57 0 rfl (zinc _) (by decide) rfl ?_
          refine V_goto (tgt := 4) X dX4_leastWaste_60 (by decide) ?_
          exact V.sub [0, 1, 2] rfl (ih4 _ (by omega) (i4 + 1) x4_1 rfl (by omega))
        · -- 22 false
          refine V_aload_n X dX4_leastWaste_25 2 rfl ?_
          refine C_getf X fl_X4_21 18 (by decide) rfl rfl dX4_leastWaste_26 ?_
          refine V_iload_n X dX4_leastWaste_29 0 rfl ?_
          refine C_iald X (N := 64) 22 (by decide) (i4) rfl (by omega) (by decide) rfl dX4_leastWaste_30 ?_
          refine V.topi (fun x4 ex4 => ?_)
          refine V_iconst (v := (-1)) X dX4_leastWaste_31 (by decide) ?_
          refine V_icmpeq X (tgt := 57) dX4_leastWaste_32 (by decide) (fun h5 => ?_) (fun h5 => ?_)
          · -- 32 true
            refine V_iinc X (nI (i4 + 1)) [(2, .int (nI (i4 + 1))), (1, .int (x4_1)), (0, .ref (X0 + 18))] dX4_leastWaste_57 0 rfl (zinc _) (by decide) rfl ?_
            refine V_goto (tgt := 4) X dX4_leastWaste_60 (by decide) ?_
            exact V.sub [0, 1, 2] rfl (ih4 _ (by omega) (i4 + 1) x4_1 rfl (by omega))
          · -- 32 false
            refine V_iload_n X dX4_leastWaste_35 1 rfl ?_
            refine V_iconst (v := (-1)) X dX4_leastWaste_36 (by decide) ?_
            refine V_icmpeq X (tgt := 50) dX4_leastWaste_37 (by decide) (fun h6 => ?_) (fun h6 => ?_)
            · -- 37 true
              refine V_aload_n X dX4_leastWaste_50 2 rfl ?_
              refine C_getf X fl_X4_21 18 (by decide) rfl rfl dX4_leastWaste_51 ?_
              refine V_iload_n X dX4_leastWaste_54 0 rfl ?_
              refine C_iald X (N := 64) 22 (by decide) (i4) rfl (by omega) (by decide) rfl dX4_leastWaste_55 ?_
              refine V.topi (fun x7 ex7 => ?_)
              refine V_istore_n X [(1, .int (x7)), (2, .int (nI (i4))), (0, .ref (X0 + 18))] dX4_leastWaste_56 (by decide) rfl ?_
              refine V_iinc X (nI (i4 + 1)) [(2, .int (nI (i4 + 1))), (1, .int (x7)), (0, .ref (X0 + 18))] dX4_leastWaste_57 1 rfl (zinc _) (by decide) rfl ?_
              refine V_goto (tgt := 4) X dX4_leastWaste_60 (by decide) ?_
              exact V.sub [0, 1, 2] rfl (ih4 _ (by omega) (i4 + 1) x7 rfl (by omega))
            · -- 37 false
              refine V_aload_n X dX4_leastWaste_40 2 rfl ?_
              refine C_getf X fl_X4_21 18 (by decide) rfl rfl dX4_leastWaste_41 ?_
              refine V_iload_n X dX4_leastWaste_44 0 rfl ?_
              refine C_iald X (N := 64) 22 (by decide) (i4) rfl (by omega) (by decide) rfl dX4_leastWaste_45 ?_
              refine V.topi (fun x8 ex8 => ?_)
              refine V_iload_n X dX4_leastWaste_46 1 rfl ?_
              refine V_icmpge X (tgt := 57) dX4_leastWaste_47 (by decide) (fun h9 => ?_) (fun h9 => ?_)
              · -- 47 true
                refine V_iinc X (nI (i4 + 1)) [(2, .int (nI (i4 + 1))), (1, .int (x4_1)), (0, .ref (X0 + 18))] dX4_leastWaste_57 0 rfl (zinc _) (by decide) rfl ?_
                refine V_goto (tgt := 4) X dX4_leastWaste_60 (by decide) ?_
                exact V.sub [0, 1, 2] rfl (ih4 _ (by omega) (i4 + 1) x4_1 rfl (by omega))
              · -- 47 false
                refine V_aload_n X dX4_leastWaste_50 2 rfl ?_
                refine C_getf X fl_X4_21 18 (by decide) rfl rfl dX4_leastWaste_51 ?_
                refine V_iload_n X dX4_leastWaste_54 0 rfl ?_
                refine C_iald X (N := 64) 22 (by decide) (i4) rfl (by omega) (by decide) rfl dX4_leastWaste_55 ?_
                refine V.topi (fun x10 ex10 => ?_)
                refine V_istore_n X [(1, .int (x10)), (2, .int (nI (i4))), (0, .ref (X0 + 18))] dX4_leastWaste_56 (by decide) rfl ?_
                refine V_iinc X (nI (i4 + 1)) [(2, .int (nI (i4 + 1))), (1, .int (x10)), (0, .ref (X0 + 18))] dX4_leastWaste_57 1 rfl (zinc _) (by decide) rfl ?_
                refine V_goto (tgt := 4) X dX4_leastWaste_60 (by decide) ?_
                exact V.sub [0, 1, 2] rfl (ih4 _ (by omega) (i4 + 1) x10 rfl (by omega))
  exact L4 _ 0 (-1) rfl (by omega)
set_option maxRecDepth 100000 in
set_option maxHeartbeats 4000000 in
theorem k_X3_milesHome {g : zG} {t : Nat × Nat} {X0 : Nat} {σ0 : Nat → Option va_E} {F : Nat → Nat → Int32} (hX : g.2.1.size ≤ X0) {nP nS nA nC nT : Nat} (hI : cI nP nS nA nC nT F) (b : Nat) (hb : b < nT) : Ct g 10 yX3_milesHome cX3_milesHome 2 (some FieldType.int) 0 0 [.ref (X0 + 23), .int (nI (b))] (t, cW g X0 F σ0) (qR (fun v => v = some (.int (F 24 b + F 25 b))) (t, cW g X0 F σ0)) zNo := by
  refine Ct.of (lv := [(0, .ref (X0 + 23)), (1, .int (nI (b)))]) (by decide) (Nat.le_of_ble_eq_true rfl) rfl ?_
  intro κ X E B _
  have X : zX g κ RX3 cX3_milesHome 2 := X
  obtain ⟨b1, b2, b3, b4, b5⟩ := hI.bnd
  refine V_aload_n X dX3_milesHome_0 0 rfl ?_
  refine C_getf X fl_X3_9 23 (by decide) rfl rfl dX3_milesHome_1 ?_
  refine V_iload_n X dX3_milesHome_4 1 rfl ?_
  refine C_iald X (N := 5) 24 (by decide) (b) rfl (by omega) (by decide) rfl dX3_milesHome_5 ?_
  refine V.topi (fun x1 ex1 => ?_)
  refine V_aload_n X dX3_milesHome_6 0 rfl ?_
  refine C_getf X fl_X3_15 23 (by decide) rfl rfl dX3_milesHome_7 ?_
  refine V_iload_n X dX3_milesHome_10 1 rfl ?_
  refine C_iald X (N := 5) 25 (by decide) (b) rfl (by omega) (by decide) rfl dX3_milesHome_11 ?_
  refine V.topi (fun x2 ex2 => ?_)
  refine V_iadd X dX3_milesHome_12 (V.topi (fun w3 ew3 => ?_))
  exact V_iret X E (Nat.zero_le _) (Nat.zero_le _) ⟨(by subst_vars; rfl), rfl⟩ dX3_milesHome_13
set_option maxRecDepth 100000 in
set_option maxHeartbeats 4000000 in
theorem k_X3_takingsOf {g : zG} {t : Nat × Nat} {X0 : Nat} {σ0 : Nat → Option va_E} {F : Nat → Nat → Int32} (hX : g.2.1.size ≤ X0) {nP nS nA nC nT : Nat} (hI : cI nP nS nA nC nT F)  (a1 : Int32) : Ct g 11 yX3_takingsOf cX3_takingsOf 4 (some FieldType.int) 0 0 [.ref (X0 + 23), .int (a1)] (t, cW g X0 F σ0) (qR (fun v => v = some (.int (zss (F 26) (fun q => zIn a1 (nI q)) nT))) (t, cW g X0 F σ0)) zNo := by
  refine Ct.of (lv := [(0, .ref (X0 + 23)), (1, .int (a1))]) (by decide) (Nat.le_of_ble_eq_true rfl) rfl ?_
  intro κ X E B _
  have X : zX g κ RX3 cX3_takingsOf 4 := X
  obtain ⟨b1, b2, b3, b4, b5⟩ := hI.bnd
  refine V_iconst (v := nI 0) X dX3_takingsOf_0 (by decide) ?_
  refine V_istore_n X [(2, .int (nI (0))), (0, .ref (X0 + 23)), (1, .int (a1))] dX3_takingsOf_1 (by decide) rfl ?_
  refine V_iconst (v := nI 0) X dX3_takingsOf_2 (by decide) ?_
  refine V_istore_n X [(3, .int (nI (0))), (2, .int (nI (0))), (0, .ref (X0 + 23)), (1, .int (a1))] dX3_takingsOf_3 (by decide) rfl ?_
  have L4 : ∀ (n4 : Nat) (i4 : Nat) (x4_2 : Int32), n4 = nT - i4 → i4 ≤ nT → x4_2 = zss (F 26) (fun q => zIn a1 (nI q)) i4 → V g κ 4 0 0 (t, cW g X0 F σ0) 4 [(3, .int (nI (i4))), (2, .int (x4_2)), (0, .ref (X0 + 23)), (1, .int (a1))] [] := by
    intro n4
    induction n4 using Nat.strongRecOn with
    | ind n4 ih4 =>
      intro i4 x4_2 hn4 hi4 hv4_0
      refine V_iload_n X dX3_takingsOf_4 0 rfl ?_
      refine V_aload_n X dX3_takingsOf_5 2 rfl ?_
      refine C_getfN (z := nI (nT)) X fl_X3_29 23 (by decide) rfl rfl hI.f23_4 dX3_takingsOf_6 ?_
      refine V_icmpgeN X (by omega) (by omega) (tgt := 35) dX3_takingsOf_9 (by decide) (fun h1 => ?_) (fun h1 => ?_)
      · -- 9 true
        refine V_iload_n X dX3_takingsOf_35 1 rfl ?_
        exact V_iret X E (Nat.zero_le _) (Nat.zero_le _) ⟨(congrArg (fun z => some (Value.int z)) (by rw [← show i4 = nT by omega]; exact hv4_0)), rfl⟩ dX3_takingsOf_36
      · -- 9 false
        refine V_iload_n X dX3_takingsOf_12 3 rfl ?_
        refine V_iload_n X dX3_takingsOf_13 0 rfl ?_
        refine V_callSN (rest := []) X E.room ml_X3_37 st_X5_has (by omega) (by decide) (k_X5_has (σ := (t, cW g X0 F σ0)) (a1) (nI (i4))) rfl rfl (Nat.le_of_ble_eq_true rfl) ⟨Nat.le_refl _, Nat.le_refl _⟩ dX3_takingsOf_14 (fun _ _ h => False.elim h) (fun v14 σ' hp14 => ?_)
        obtain ⟨hp14, rfl⟩ := hp14
        obtain ⟨r2, rfl, hr2, fr2⟩ := hp14
        show V g κ 4 0 0 (t, cW g X0 F σ0) 17 [(3, .int (nI (i4))), (2, .int (x4_2)), (0, .ref (X0 + 23)), (1, .int (a1))] [.int (r2)]
        refine V_ifeq X (tgt := 29) dX3_takingsOf_17 (by decide) (fun h3 => ?_) (fun h3 => ?_)
        · -- 17 true
          have zh3 := mt fr2.mpr (not_not_intro h3)
          refine V_iinc X (nI (i4 + 1)) [(3, .int (nI (i4 + 1))), (2, .int (x4_2)), (0, .ref (X0 + 23)), (1, .int (a1))] dX3_takingsOf_29 0 rfl (zinc _) (by decide) rfl ?_
          refine V_goto (tgt := 4) X dX3_takingsOf_32 (by decide) ?_
          exact V.sub [0, 1, 2, 3] rfl (ih4 _ (by omega) (i4 + 1) x4_2 rfl (by omega) (zss_0 hv4_0 zh3))
        · -- 17 false
          have zh3 := fr2.mp h3
          refine V_iload_n X dX3_takingsOf_20 1 rfl ?_
          refine V_aload_n X dX3_takingsOf_21 2 rfl ?_
          refine C_getf X fl_X3_18 23 (by decide) rfl rfl dX3_takingsOf_22 ?_
          refine V_iload_n X dX3_takingsOf_25 0 rfl ?_
          refine C_iald X (N := 5) 26 (by decide) (i4) rfl (by omega) (by decide) rfl dX3_takingsOf_26 ?_
          refine V.topi (fun x4 ex4 => ?_)
          refine V_iadd X dX3_takingsOf_27 (V.topi (fun w5 ew5 => ?_))
          refine V_istore_n X [(2, .int (w5)), (3, .int (nI (i4))), (0, .ref (X0 + 23)), (1, .int (a1))] dX3_takingsOf_28 (by decide) rfl ?_
          refine V_iinc X (nI (i4 + 1)) [(3, .int (nI (i4 + 1))), (2, .int (w5)), (0, .ref (X0 + 23)), (1, .int (a1))] dX3_takingsOf_29 1 rfl (zinc _) (by decide) rfl ?_
          refine V_goto (tgt := 4) X dX3_takingsOf_32 (by decide) ?_
          exact V.sub [0, 1, 2, 3] rfl (ih4 _ (by omega) (i4 + 1) w5 rfl (by omega) (zss_1 hv4_0 zh3 ew5 ex4))
  exact L4 _ 0 (nI (0)) rfl (by omega) (rfl)
set_option maxRecDepth 100000 in
set_option maxHeartbeats 4000000 in
theorem k_X3_bestTour {g : zG} {t : Nat × Nat} {X0 : Nat} {σ0 : Nat → Option va_E} {F : Nat → Nat → Int32} (hX : g.2.1.size ≤ X0) {nP nS nA nC nT : Nat} (hI : cI nP nS nA nC nT F)  (a1 : Int32) : Ct g 12 yX3_bestTour cX3_bestTour 5 (some FieldType.int) 0 0 [.ref (X0 + 23), .int (a1)] (t, cW g X0 F σ0) (qR (pN 32) (t, cW g X0 F σ0)) zNo := by
  refine Ct.of (lv := [(0, .ref (X0 + 23)), (1, .int (a1))]) (by decide) (Nat.le_of_ble_eq_true rfl) rfl ?_
  intro κ X E B _
  have X : zX g κ RX3 cX3_bestTour 5 := X
  obtain ⟨b1, b2, b3, b4, b5⟩ := hI.bnd
  have h32 : 2 ^ nT ≤ 32 := zp2 (n := 5) (by omega)
  have h1 := Nat.one_le_two_pow (n := nT)
  refine V_iconst (v := nI 0) X dX3_bestTour_0 (by decide) ?_
  refine V_istore_n X [(2, .int (nI (0))), (0, .ref (X0 + 23)), (1, .int (a1))] dX3_bestTour_1 (by decide) rfl ?_
  refine V_iconst (v := nI 1) X dX3_bestTour_2 (by decide) ?_
  refine V_istore_n X [(3, .int (nI (1))), (2, .int (nI (0))), (0, .ref (X0 + 23)), (1, .int (a1))] dX3_bestTour_3 (by decide) rfl ?_
  have L4 : ∀ (n4 : Nat) (i4 : Nat) (y4_2 : Nat), n4 = (2 ^ nT) - i4 → i4 ≤ (2 ^ nT) → 1 ≤ i4 → y4_2 < 32 → V g κ 5 0 0 (t, cW g X0 F σ0) 4 [(3, .int (nI (i4))), (2, .int (nI (y4_2))), (0, .ref (X0 + 23)), (1, .int (a1))] [] := by
    intro n4
    induction n4 using Nat.strongRecOn with
    | ind n4 ih4 =>
      intro i4 y4_2 hn4 hi4 hl4 hy4_2
      refine V_iload_n X dX3_bestTour_4 0 rfl ?_
      refine V_iconst (v := nI 1) X dX3_bestTour_5 (by decide) ?_
      refine V_aload_n X dX3_bestTour_6 2 rfl ?_
      refine C_getfN (z := nI (nT)) X fl_X3_29 23 (by decide) rfl rfl hI.f23_4 dX3_bestTour_7 ?_
      refine V_ishl1 X (by omega) dX3_bestTour_10 ?_
      refine V_icmpgeN X (by omega) (by omega) (tgt := 73) dX3_bestTour_11 (by decide) (fun h1 => ?_) (fun h1 => ?_)
      · -- 11 true
        refine V_iload_n X dX3_bestTour_73 1 rfl ?_
        exact V_iret X E (Nat.zero_le _) (Nat.zero_le _) ⟨⟨_, (by omega), rfl⟩, rfl⟩ dX3_bestTour_74
      · -- 11 false
        refine V_aload_n X dX3_bestTour_14 2 rfl ?_
        refine C_getf X fl_X3_21 23 (by decide) rfl rfl dX3_bestTour_15 ?_
        refine V_iload_n X dX3_bestTour_18 0 rfl ?_
        refine C_iald X (N := 32) 27 (by decide) (i4) rfl (by omega) (by decide) rfl dX3_bestTour_19 ?_
        refine V.topi (fun x2 ex2 => ?_)
        refine V_iload_n X dX3_bestTour_20 3 rfl ?_
        refine V_icmple X (tgt := 27) dX3_bestTour_21 (by decide) (fun h3 => ?_) (fun h3 => ?_)
        · -- 21 true
          refine V_aload_n X dX3_bestTour_27 2 rfl ?_
          refine V_iload_n X dX3_bestTour_28 0 rfl ?_
          refine V_callV (rest := []) X E.room ml_X3_54 in_X3_takingsOf (ci := 7) rfl se_X3_takingsOf (C_recv (q := 23) (by decide) rfl) (by decide) (by decide) (k_X3_takingsOf hX hI (nI (i4))) rfl rfl (Nat.le_of_ble_eq_true rfl) ⟨Nat.le_refl _, Nat.le_refl _⟩ dX3_bestTour_29 (fun _ _ h => False.elim h) (fun v29 σ' hp29 => ?_)
          obtain ⟨hp29, rfl⟩ := hp29
          cases (hp29 : _ = some (Value.int (zss (F 26) (fun q => zIn (nI (i4)) (nI q)) nT)))
          show V g κ 5 0 0 (t, cW g X0 F σ0) 32 [(3, .int (nI (i4))), (2, .int (nI (y4_2))), (0, .ref (X0 + 23)), (1, .int (a1))] [.int (zss (F 26) (fun q => zIn (nI (i4)) (nI q)) nT)]
          refine V_aload_n X dX3_bestTour_32 2 rfl ?_
          refine V_iload_n X dX3_bestTour_33 1 rfl ?_
          refine V_callV (rest := [.int (zss (F 26) (fun q => zIn (nI (i4)) (nI q)) nT)]) X E.room ml_X3_54 in_X3_takingsOf (ci := 7) rfl se_X3_takingsOf (C_recv (q := 23) (by decide) rfl) (by decide) (by decide) (k_X3_takingsOf hX hI (nI (y4_2))) rfl rfl (Nat.le_of_ble_eq_true rfl) ⟨Nat.le_refl _, Nat.le_refl _⟩ dX3_bestTour_34 (fun _ _ h => False.elim h) (fun v34 σ' hp34 => ?_)
          obtain ⟨hp34, rfl⟩ := hp34
          cases (hp34 : _ = some (Value.int (zss (F 26) (fun q => zIn (nI (y4_2)) (nI q)) nT)))
          show V g κ 5 0 0 (t, cW g X0 F σ0) 37 [(3, .int (nI (i4))), (2, .int (nI (y4_2))), (0, .ref (X0 + 23)), (1, .int (a1))] [.int (zss (F 26) (fun q => zIn (nI (y4_2)) (nI q)) nT), .int (zss (F 26) (fun q => zIn (nI (i4)) (nI q)) nT)]
          refine V_isub X dX3_bestTour_37 (V.topi (fun w4 ew4 => ?_))
          refine V_istore X [(4, .int (w4)), (3, .int (nI (i4))), (2, .int (nI (y4_2))), (0, .ref (X0 + 23)), (1, .int (a1))] dX3_bestTour_38 (by decide) rfl ?_
          refine V_iload X dX3_bestTour_40 0 rfl ?_
          refine V_ifgt X (tgt := 65) dX3_bestTour_42 (by decide) (fun h5 => ?_) (fun h5 => ?_)
          · -- 42 true
            refine V_iload_n X dX3_bestTour_65 1 rfl ?_
            refine V_istore_n X [(2, .int (nI (i4))), (4, .int (w4)), (3, .int (nI (i4))), (0, .ref (X0 + 23)), (1, .int (a1))] dX3_bestTour_66 (by decide) rfl ?_
            refine V_iinc X (nI (i4 + 1)) [(3, .int (nI (i4 + 1))), (2, .int (nI (i4))), (4, .int (w4)), (0, .ref (X0 + 23)), (1, .int (a1))] dX3_bestTour_67 2 rfl (zinc _) (by decide) rfl ?_
            refine V_goto (tgt := 4) X dX3_bestTour_70 (by decide) ?_
            exact V.sub [0, 1, 3, 4] rfl (ih4 _ (by omega) (i4 + 1) (i4) rfl (by omega) (by omega) (by omega))
          · -- 42 false
            refine V_iload X dX3_bestTour_45 0 rfl ?_
            refine V_ifne X (tgt := 67) dX3_bestTour_47 (by decide) (fun h6 => ?_) (fun h6 => ?_)
            · -- 47 true
              refine V_iinc X (nI (i4 + 1)) [(3, .int (nI (i4 + 1))), (4, .int (w4)), (2, .int (nI (y4_2))), (0, .ref (X0 + 23)), (1, .int (a1))] dX3_bestTour_67 1 rfl (zinc _) (by decide) rfl ?_
              refine V_goto (tgt := 4) X dX3_bestTour_70 (by decide) ?_
              exact V.sub [0, 2, 3, 4] rfl (ih4 _ (by omega) (i4 + 1) (y4_2) rfl (by omega) (by omega) (by omega))
            · -- 47 false
              refine V_aload_n X dX3_bestTour_50 3 rfl ?_
              refine C_getf X fl_X3_21 23 (by decide) rfl rfl dX3_bestTour_51 ?_
              refine V_iload_n X dX3_bestTour_54 1 rfl ?_
              refine C_iald X (N := 32) 27 (by decide) (i4) rfl (by omega) (by decide) rfl dX3_bestTour_55 ?_
              refine V.topi (fun x7 ex7 => ?_)
              refine V_aload_n X dX3_bestTour_56 3 rfl ?_
              refine C_getf X fl_X3_21 23 (by decide) rfl rfl dX3_bestTour_57 ?_
              refine V_iload_n X dX3_bestTour_60 2 rfl ?_
              refine C_iald X (N := 32) 27 (by decide) (y4_2) rfl (by omega) (by decide) rfl dX3_bestTour_61 ?_
              refine V.topi (fun x8 ex8 => ?_)
              refine V_icmpge X (tgt := 67) dX3_bestTour_62 (by decide) (fun h9 => ?_) (fun h9 => ?_)
              · -- 62 true
                refine V_iinc X (nI (i4 + 1)) [(3, .int (nI (i4 + 1))), (4, .int (w4)), (2, .int (nI (y4_2))), (0, .ref (X0 + 23)), (1, .int (a1))] dX3_bestTour_67 1 rfl (zinc _) (by decide) rfl ?_
                refine V_goto (tgt := 4) X dX3_bestTour_70 (by decide) ?_
                exact V.sub [0, 2, 3, 4] rfl (ih4 _ (by omega) (i4 + 1) (y4_2) rfl (by omega) (by omega) (by omega))
              · -- 62 false
                refine V_iload_n X dX3_bestTour_65 1 rfl ?_
                refine V_istore_n X [(2, .int (nI (i4))), (4, .int (w4)), (3, .int (nI (i4))), (0, .ref (X0 + 23)), (1, .int (a1))] dX3_bestTour_66 (by decide) rfl ?_
                refine V_iinc X (nI (i4 + 1)) [(3, .int (nI (i4 + 1))), (2, .int (nI (i4))), (4, .int (w4)), (0, .ref (X0 + 23)), (1, .int (a1))] dX3_bestTour_67 2 rfl (zinc _) (by decide) rfl ?_
                refine V_goto (tgt := 4) X dX3_bestTour_70 (by decide) ?_
                exact V.sub [0, 1, 3, 4] rfl (ih4 _ (by omega) (i4 + 1) (i4) rfl (by omega) (by omega) (by omega))
        · -- 21 false
          refine V_goto (tgt := 67) X dX3_bestTour_24 (by decide) ?_
          refine V_iinc X (nI (i4 + 1)) [(3, .int (nI (i4 + 1))), (2, .int (nI (y4_2))), (0, .ref (X0 + 23)), (1, .int (a1))] dX3_bestTour_67 0 rfl (zinc _) (by decide) rfl ?_
          refine V_goto (tgt := 4) X dX3_bestTour_70 (by decide) ?_
          exact V.sub [0, 1, 2, 3] rfl (ih4 _ (by omega) (i4 + 1) (y4_2) rfl (by omega) (by omega) (by omega))
  exact L4 _ 1 (0) rfl (by omega) (by omega) (by omega)
