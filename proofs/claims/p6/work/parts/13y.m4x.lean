/-! ===== the search for a cast, exact ===== -/
set_option maxRecDepth 100000 in
set_option maxHeartbeats 4000000 in
theorem k_X2_clashTogether_x {g : zG} {t : Nat × Nat} {X0 : Nat} {σ0 : Nat → Option va_E} {F : Nat → Nat → Int32} (hX : g.2.1.size ≤ X0) {nP nS nA nC nT : Nat} (hI : cI nP nS nA nC nT F) (m : Nat) (hm : m < 2 ^ nP) (Eh : Nat → Nat → Prop) (hE : ∀ p, p < 7 → zMk (F 15 p) (Eh p)) : Ct g 11 yX2_clashTogether cX2_clashTogether 4 none 0 0 [.ref (X0 + 1), .int (nI (m)), .ref (X0 + 15)] (t, cW g X0 F σ0) (fun v σ' => v = none ∧ ∃ F' : Nat → Nat → Int32, σ' = (t, cW g X0 F' σ0) ∧ cRw s15 F F' ∧ ∀ p, p < 7 → zMk (F' 15 p) (fun q => Eh p q ∨ mTog nP (nI m) p q)) zNo := by
  refine Ct.of (lv := [(0, .ref (X0 + 1)), (1, .int (nI (m))), (2, .ref (X0 + 15))]) (by decide) (Nat.le_of_ble_eq_true rfl) rfl ?_
  intro κ X E B _
  have X : zX g κ RX2 cX2_clashTogether 4 := X
  obtain ⟨b1, b2, b3, b4, b5⟩ := hI.bnd
  have h128 : m < 128 := Nat.lt_of_lt_of_le hm (zp2 (n := 7) b1)
  refine V_iconst (v := nI 0) X dX2_clashTogether_0 (by decide) ?_
  refine V_istore_n X [(3, .int (nI (0))), (0, .ref (X0 + 1)), (1, .int (nI (m))), (2, .ref (X0 + 15))] dX2_clashTogether_1 (by decide) rfl ?_
  have L2 : ∀ (n2 : Nat) (i2 : Nat) (G2 : Nat → Nat → Int32), n2 = nP - i2 → i2 ≤ nP → cRw s15 F G2 → mJ (G2 15) Eh (mTog nP (nI m)) i2 → V g κ 4 0 0 (t, cW g X0 G2 σ0) 2 [(3, .int (nI (i2))), (0, .ref (X0 + 1)), (1, .int (nI (m))), (2, .ref (X0 + 15))] [] := by
    intro n2
    induction n2 using Nat.strongRecOn with
    | ind n2 ih2 =>
      intro i2 G2 hn2 hi2 hJ2 hv2_0
      refine V_iload_n X dX2_clashTogether_2 0 rfl ?_
      refine V_aload_n X dX2_clashTogether_3 1 rfl ?_
      refine C_getfN (z := nI (nP)) X fl_X2_27 1 (by decide) rfl rfl (hI.mv (hJ2.J s15J)).f1_5 dX2_clashTogether_4 ?_
      refine V_icmpgeN X (by omega) (by omega) (tgt := 37) dX2_clashTogether_7 (by decide) (fun h1 => ?_) (fun h1 => ?_)
      · -- 7 true
        exact V_vret X E (Nat.zero_le _) (Nat.zero_le _) ⟨rfl, _, rfl, hJ2, mJ_end hv2_0 (show i2 = nP by omega) (fun p q h => h.1)⟩ dX2_clashTogether_37
      · -- 7 false
        refine V_iload_n X dX2_clashTogether_10 2 rfl ?_
        refine V_iload_n X dX2_clashTogether_11 0 rfl ?_
        refine V_callSN (rest := []) X E.room ml_X2_34 st_X5_has (by omega) (by decide) (k_X5_has (σ := (t, cW g X0 G2 σ0)) (nI (m)) (nI (i2))) rfl rfl (Nat.le_of_ble_eq_true rfl) ⟨Nat.le_refl _, Nat.le_refl _⟩ dX2_clashTogether_12 (fun _ _ h => False.elim h) (fun v12 σ' hp12 => ?_)
        obtain ⟨hp12, rfl⟩ := hp12
        obtain ⟨r2, rfl, hr2, fr2⟩ := hp12
        show V g κ 4 0 0 (t, cW g X0 G2 σ0) 15 [(3, .int (nI (i2))), (0, .ref (X0 + 1)), (1, .int (nI (m))), (2, .ref (X0 + 15))] [.int (r2)]
        refine V_ifeq X (tgt := 31) dX2_clashTogether_15 (by decide) (fun h3 => ?_) (fun h3 => ?_)
        · -- 15 true
          have zh3 := mt fr2.mpr (not_not_intro h3)
          refine V_iinc X (nI (i2 + 1)) [(3, .int (nI (i2 + 1))), (0, .ref (X0 + 1)), (1, .int (nI (m))), (2, .ref (X0 + 15))] dX2_clashTogether_31 0 rfl (zinc _) (by decide) rfl ?_
          refine V_goto (tgt := 2) X dX2_clashTogether_34 (by decide) ?_
          exact V.sub [0, 1, 2, 3] rfl (ih2 _ (by omega) (i2 + 1) G2 rfl (by omega) hJ2 (mJ_no hv2_0 (fun q h => zh3 h.2.2.2.1)))
        · -- 15 false
          have zh3 := fr2.mp h3
          refine V_aload_n X dX2_clashTogether_18 3 rfl ?_
          refine V_iload_n X dX2_clashTogether_19 0 rfl ?_
          refine V_dup2 X dX2_clashTogether_20 rfl rfl ?_
          refine C_iald X (N := 7) 15 (by decide) (i2) rfl (by omega) (by decide) rfl dX2_clashTogether_21 ?_
          refine V.topi (fun x4 ex4 => ?_)
          refine V_iload_n X dX2_clashTogether_22 2 rfl ?_
          refine V_iconst (v := nI 1) X dX2_clashTogether_23 (by decide) ?_
          refine V_iload_n X dX2_clashTogether_24 0 rfl ?_
          refine V_ishl1 X (by omega) dX2_clashTogether_25 ?_
          refine V_iconst (v := (-1)) X dX2_clashTogether_26 (by decide) ?_
          refine V_ixor X dX2_clashTogether_27 (V.topi (fun w5 ew5 => ?_))
          refine V_iandL X (by omega) dX2_clashTogether_28 (fun j6 hj6 ej6 => ?_)
          refine V_ior X dX2_clashTogether_29 (V.topi (fun w7 ew7 => ?_))
          refine C_iast X (N := 7) 15 (by decide) hX (i2) rfl (by omega) (by decide) (fun _ => rfl) dX2_clashTogether_30 (fun F8 hF8 => ?_)
          have hJF8 := (hJ2 : cRw s15 F G2).set hF8 rfl
          have hyF8 : zMk (nI (j6)) (mTog nP (nI m) i2) := by rw [← ej6, ew5]; exact ((zMk_selfP b1 hm).rm (by omega)).cg (fun q => ⟨fun z => ⟨by omega, z.1.1, z.2, zh3, z.1.2⟩, fun z => ⟨⟨z.2.1, z.2.2.2.2⟩, z.2.2.1⟩⟩)
          have hvF8 := mJ_yes (c' := F8 15) hv2_0 (by omega) hyF8 (by rw [hF8, fset_eq, ew7, ex4]) (fun p hp => by rw [hF8, fset_ne (Or.inr hp)])
          refine V_iinc X (nI (i2 + 1)) [(3, .int (nI (i2 + 1))), (0, .ref (X0 + 1)), (1, .int (nI (m))), (2, .ref (X0 + 15))] dX2_clashTogether_31 0 rfl (zinc _) (by decide) rfl ?_
          refine V_goto (tgt := 2) X dX2_clashTogether_34 (by decide) ?_
          exact V.sub [0, 1, 2, 3] rfl (ih2 _ (by omega) (i2 + 1) F8 rfl (by omega) hJF8 (hvF8))
  exact L2 _ 0 F rfl (by omega) cRw.rfl' (mJ_0 hE)
set_option maxRecDepth 100000 in
set_option maxHeartbeats 4000000 in
theorem k_X2_clashInTurn_x {g : zG} {t : Nat × Nat} {X0 : Nat} {σ0 : Nat → Option va_E} {F : Nat → Nat → Int32} (hX : g.2.1.size ≤ X0) {nP nS nA nC nT : Nat} (hI : cI nP nS nA nC nT F) (b : Nat) (hb : b < nS) (l : Nat) (sp ch pa : Nat → Int32) (e5 : F 5 = sp) (e4 : F 4 = ch) (e6 : F 6 = pa) (Eh : Nat → Nat → Prop) (hE : ∀ p, p < 7 → zMk (F 15 p) (Eh p)) : Ct g 11 yX2_clashInTurn cX2_clashInTurn 6 none 0 0 [.ref (X0 + 1), .int (nI (b)), .int (nI (l)), .ref (X0 + 15)] (t, cW g X0 F σ0) (fun v σ' => v = none ∧ ∃ F' : Nat → Nat → Int32, σ' = (t, cW g X0 F' σ0) ∧ cRw s15 F F' ∧ ∀ p, p < 7 → zMk (F' 15 p) (fun q => Eh p q ∨ mTrn sp ch pa nP b (nI l) p q ∨ mTrn sp ch pa nP b (nI l) q p)) zNo := by
  refine Ct.of (lv := [(0, .ref (X0 + 1)), (1, .int (nI (b))), (2, .int (nI (l))), (3, .ref (X0 + 15))]) (by decide) (Nat.le_of_ble_eq_true rfl) rfl ?_
  intro κ X E B _
  have X : zX g κ RX2 cX2_clashInTurn 6 := X
  obtain ⟨b1, b2, b3, b4, b5⟩ := hI.bnd
  refine V_iconst (v := nI 0) X dX2_clashInTurn_0 (by decide) ?_
  refine V_istore X [(4, .int (nI (0))), (0, .ref (X0 + 1)), (1, .int (nI (b))), (2, .int (nI (l))), (3, .ref (X0 + 15))] dX2_clashInTurn_1 (by decide) rfl ?_
  have L3 : ∀ (n3 : Nat) (i3 : Nat) (G3 : Nat → Nat → Int32), n3 = nP - i3 → i3 ≤ nP → cRw s15 F G3 → mI (G3 15) Eh (mTrn sp ch pa nP b (nI l)) i3 0 → V g κ 6 0 0 (t, cW g X0 G3 σ0) 3 [(4, .int (nI (i3))), (0, .ref (X0 + 1)), (1, .int (nI (b))), (2, .int (nI (l))), (3, .ref (X0 + 15))] [] := by
    intro n3
    induction n3 using Nat.strongRecOn with
    | ind n3 ih3 =>
      intro i3 G3 hn3 hi3 hJ3 hv3_0
      refine V_iload X dX2_clashInTurn_3 0 rfl ?_
      refine V_aload_n X dX2_clashInTurn_5 1 rfl ?_
      refine C_getfN (z := nI (nP)) X fl_X2_27 1 (by decide) rfl rfl (hI.mv (hJ3.J s15J)).f1_5 dX2_clashInTurn_6 ?_
      refine V_icmpgeN X (by omega) (by omega) (tgt := 115) dX2_clashInTurn_9 (by decide) (fun h1 => ?_) (fun h1 => ?_)
      · -- 9 true
        exact V_vret X E (Nat.zero_le _) (Nat.zero_le _) ⟨rfl, _, rfl, hJ3, mI_end hv3_0 (show i3 = nP by omega) (fun p q h => h.1)⟩ dX2_clashInTurn_115
      · -- 9 false
        refine V_aload_n X dX2_clashInTurn_12 1 rfl ?_
        refine C_getf X fl_X2_21 1 (by decide) rfl rfl dX2_clashInTurn_13 ?_
        refine V_iload_n X dX2_clashInTurn_16 2 rfl ?_
        refine C_iald X (N := 6) 5 (by decide) (b) rfl (by omega) (by decide) rfl dX2_clashInTurn_17 ?_
        refine V.topi (fun x2 ex2 => ?_)
        refine V_iload X dX2_clashInTurn_18 0 rfl ?_
        refine V_callSN (rest := []) X E.room ml_X2_34 st_X5_has (by omega) (by decide) (k_X5_has (σ := (t, cW g X0 G3 σ0)) (x2) (nI (i3))) rfl rfl (Nat.le_of_ble_eq_true rfl) ⟨Nat.le_refl _, Nat.le_refl _⟩ dX2_clashInTurn_20 (fun _ _ h => False.elim h) (fun v20 σ' hp20 => ?_)
        obtain ⟨hp20, rfl⟩ := hp20
        obtain ⟨r3, rfl, hr3, fr3⟩ := hp20
        show V g κ 6 0 0 (t, cW g X0 G3 σ0) 23 [(4, .int (nI (i3))), (0, .ref (X0 + 1)), (1, .int (nI (b))), (2, .int (nI (l))), (3, .ref (X0 + 15))] [.int (r3)]
        refine V_ifne X (tgt := 29) dX2_clashInTurn_23 (by decide) (fun h4 => ?_) (fun h4 => ?_)
        · -- 23 true
          have zh4 := fr3.mp h4
          have zsh4 : zIn (sp b) (nI i3) := by rw [← e5, ← hJ3 5 b rfl, ← ex2]; exact zh4
          refine V_iconst (v := nI 0) X dX2_clashInTurn_29 (by decide) ?_
          refine V_istore X [(5, .int (nI (0))), (4, .int (nI (i3))), (0, .ref (X0 + 1)), (1, .int (nI (b))), (2, .int (nI (l))), (3, .ref (X0 + 15))] dX2_clashInTurn_30 (by decide) rfl ?_
          have L32 : ∀ (n32 : Nat) (i32 : Nat) (G32 : Nat → Nat → Int32), n32 = nP - i32 → i32 ≤ nP → cRw s15 F G32 → mI (G32 15) Eh (mTrn sp ch pa nP b (nI l)) i3 i32 → V g κ 6 0 0 (t, cW g X0 G32 σ0) 32 [(5, .int (nI (i32))), (4, .int (nI (i3))), (0, .ref (X0 + 1)), (1, .int (nI (b))), (2, .int (nI (l))), (3, .ref (X0 + 15))] [] := by
            intro n32
            induction n32 using Nat.strongRecOn with
            | ind n32 ih32 =>
              intro i32 G32 hn32 hi32 hJ32 hv32_0
              refine V_iload X dX2_clashInTurn_32 0 rfl ?_
              refine V_aload_n X dX2_clashInTurn_34 2 rfl ?_
              refine C_getfN (z := nI (nP)) X fl_X2_27 1 (by decide) rfl rfl (hI.mv (hJ32.J s15J)).f1_5 dX2_clashInTurn_35 ?_
              refine V_icmpgeN X (by omega) (by omega) (tgt := 109) dX2_clashInTurn_38 (by decide) (fun h5 => ?_) (fun h5 => ?_)
              · -- 38 true
                refine V_iinc X (nI (i3 + 1)) [(4, .int (nI (i3 + 1))), (5, .int (nI (i32))), (0, .ref (X0 + 1)), (1, .int (nI (b))), (2, .int (nI (l))), (3, .ref (X0 + 15))] dX2_clashInTurn_109 1 rfl (zinc _) (by decide) rfl ?_
                refine V_goto (tgt := 3) X dX2_clashInTurn_112 (by decide) ?_
                exact V.sub [0, 2, 3, 4, 5] rfl (ih3 _ (by omega) (i3 + 1) G32 rfl (by omega) hJ32 (mI_next hv32_0 (show i32 = nP by omega) (fun p q h => h.2.1)))
              · -- 38 false
                refine V_iload X dX2_clashInTurn_41 0 rfl ?_
                refine V_iload X dX2_clashInTurn_43 1 rfl ?_
                refine V_icmpeqN X (by omega) (by omega) (tgt := 103) dX2_clashInTurn_45 (by decide) (fun h6 => ?_) (fun h6 => ?_)
                · -- 45 true
                  refine V_iinc X (nI (i32 + 1)) [(5, .int (nI (i32 + 1))), (4, .int (nI (i3))), (0, .ref (X0 + 1)), (1, .int (nI (b))), (2, .int (nI (l))), (3, .ref (X0 + 15))] dX2_clashInTurn_103 0 rfl (zinc _) (by decide) rfl ?_
                  refine V_goto (tgt := 32) X dX2_clashInTurn_106 (by decide) ?_
                  exact V.sub [0, 1, 2, 3, 4, 5] rfl (ih32 _ (by omega) (i32 + 1) G32 rfl (by omega) hJ32 (mI_no hv32_0 (by intro h; first | exact h.2.2.1 (by omega) | exact absurd h.2.2.2.2.1 (by assumption) | exact h.2.2.2.2.2 (by assumption))))
                · -- 45 false
                  refine V_iload_n X dX2_clashInTurn_48 4 rfl ?_
                  refine V_iload X dX2_clashInTurn_49 0 rfl ?_
                  refine V_callSN (rest := []) X E.room ml_X2_34 st_X5_has (by omega) (by decide) (k_X5_has (σ := (t, cW g X0 G32 σ0)) (nI (l)) (nI (i32))) rfl rfl (Nat.le_of_ble_eq_true rfl) ⟨Nat.le_refl _, Nat.le_refl _⟩ dX2_clashInTurn_51 (fun _ _ h => False.elim h) (fun v51 σ' hp51 => ?_)
                  obtain ⟨hp51, rfl⟩ := hp51
                  obtain ⟨r7, rfl, hr7, fr7⟩ := hp51
                  show V g κ 6 0 0 (t, cW g X0 G32 σ0) 54 [(5, .int (nI (i32))), (4, .int (nI (i3))), (0, .ref (X0 + 1)), (1, .int (nI (b))), (2, .int (nI (l))), (3, .ref (X0 + 15))] [.int (r7)]
                  refine V_ifeq X (tgt := 103) dX2_clashInTurn_54 (by decide) (fun h8 => ?_) (fun h8 => ?_)
                  · -- 54 true
                    have zh8 := mt fr7.mpr (not_not_intro h8)
                    refine V_iinc X (nI (i32 + 1)) [(5, .int (nI (i32 + 1))), (4, .int (nI (i3))), (0, .ref (X0 + 1)), (1, .int (nI (b))), (2, .int (nI (l))), (3, .ref (X0 + 15))] dX2_clashInTurn_103 0 rfl (zinc _) (by decide) rfl ?_
                    refine V_goto (tgt := 32) X dX2_clashInTurn_106 (by decide) ?_
                    exact V.sub [0, 1, 2, 3, 4, 5] rfl (ih32 _ (by omega) (i32 + 1) G32 rfl (by omega) hJ32 (mI_no hv32_0 (by intro h; first | exact h.2.2.1 (by omega) | exact absurd h.2.2.2.2.1 (by assumption) | exact h.2.2.2.2.2 (by assumption))))
                  · -- 54 false
                    have zh8 := fr7.mp h8
                    refine V_aload_n X dX2_clashInTurn_57 2 rfl ?_
                    refine C_getf X fl_X2_18 1 (by decide) rfl rfl dX2_clashInTurn_58 ?_
                    refine V_iload X dX2_clashInTurn_61 1 rfl ?_
                    refine C_iald X (N := 7) 4 (by decide) (i3) rfl (by omega) (by decide) rfl dX2_clashInTurn_63 ?_
                    refine V.topi (fun x9 ex9 => ?_)
                    refine V_aload_n X dX2_clashInTurn_64 2 rfl ?_
                    refine C_getf X fl_X2_18 1 (by decide) rfl rfl dX2_clashInTurn_65 ?_
                    refine V_iload X dX2_clashInTurn_68 0 rfl ?_
                    refine C_iald X (N := 7) 4 (by decide) (i32) rfl (by omega) (by decide) rfl dX2_clashInTurn_70 ?_
                    refine V.topi (fun x10 ex10 => ?_)
                    refine V_iadd X dX2_clashInTurn_71 (V.topi (fun w11 ew11 => ?_))
                    refine V_aload_n X dX2_clashInTurn_72 2 rfl ?_
                    refine C_getf X fl_X2_24 1 (by decide) rfl rfl dX2_clashInTurn_73 ?_
                    refine V_iload_n X dX2_clashInTurn_76 3 rfl ?_
                    refine C_iald X (N := 6) 6 (by decide) (b) rfl (by omega) (by decide) rfl dX2_clashInTurn_77 ?_
                    refine V.topi (fun x12 ex12 => ?_)
                    refine V_icmple X (tgt := 103) dX2_clashInTurn_78 (by decide) (fun h13 => ?_) (fun h13 => ?_)
                    · -- 78 true
                      have hc : ch i3 + ch i32 ≤ pa b := by rw [← e4, ← e6, ← hJ32 4 i3 rfl, ← hJ32 4 i32 rfl, ← hJ32 6 b rfl, ← ex9, ← ex10, ← ex12, ← ew11]; exact h13
                      refine V_iinc X (nI (i32 + 1)) [(5, .int (nI (i32 + 1))), (4, .int (nI (i3))), (0, .ref (X0 + 1)), (1, .int (nI (b))), (2, .int (nI (l))), (3, .ref (X0 + 15))] dX2_clashInTurn_103 0 rfl (zinc _) (by decide) rfl ?_
                      refine V_goto (tgt := 32) X dX2_clashInTurn_106 (by decide) ?_
                      exact V.sub [0, 1, 2, 3, 4, 5] rfl (ih32 _ (by omega) (i32 + 1) G32 rfl (by omega) hJ32 (mI_no hv32_0 (by intro h; first | exact h.2.2.1 (by omega) | exact absurd h.2.2.2.2.1 (by assumption) | exact h.2.2.2.2.2 (by assumption))))
                    · -- 78 false
                      have hc : ¬ ch i3 + ch i32 ≤ pa b := by rw [← e4, ← e6, ← hJ32 4 i3 rfl, ← hJ32 4 i32 rfl, ← hJ32 6 b rfl, ← ex9, ← ex10, ← ex12, ← ew11]; exact h13
                      refine V_aload_n X dX2_clashInTurn_81 5 rfl ?_
                      refine V_iload X dX2_clashInTurn_82 1 rfl ?_
                      refine V_dup2 X dX2_clashInTurn_84 rfl rfl ?_
                      refine C_iald X (N := 7) 15 (by decide) (i3) rfl (by omega) (by decide) rfl dX2_clashInTurn_85 ?_
                      refine V.topi (fun x14 ex14 => ?_)
                      refine V_iconst (v := nI 1) X dX2_clashInTurn_86 (by decide) ?_
                      refine V_iload X dX2_clashInTurn_87 0 rfl ?_
                      refine V_ishl1 X (by omega) dX2_clashInTurn_89 ?_
                      refine V_ior X dX2_clashInTurn_90 (V.topi (fun w15 ew15 => ?_))
                      refine C_iast X (N := 7) 15 (by decide) hX (i3) rfl (by omega) (by decide) (fun _ => rfl) dX2_clashInTurn_91 (fun F16 hF16 => ?_)
                      have hJF16 := (hJ32 : cRw s15 F G32).set hF16 rfl
                      refine V_aload_n X dX2_clashInTurn_92 5 rfl ?_
                      refine V_iload X dX2_clashInTurn_93 0 rfl ?_
                      refine V_dup2 X dX2_clashInTurn_95 rfl rfl ?_
                      refine C_iald X (N := 7) 15 (by decide) (i32) rfl (by omega) (by decide) rfl dX2_clashInTurn_96 ?_
                      refine V.topi (fun x17 ex17 => ?_)
                      refine V_iconst (v := nI 1) X dX2_clashInTurn_97 (by decide) ?_
                      refine V_iload X dX2_clashInTurn_98 1 rfl ?_
                      refine V_ishl1 X (by omega) dX2_clashInTurn_100 ?_
                      refine V_ior X dX2_clashInTurn_101 (V.topi (fun w18 ew18 => ?_))
                      refine C_iast X (N := 7) 15 (by decide) hX (i32) rfl (by omega) (by decide) (fun _ => rfl) dX2_clashInTurn_102 (fun F19 hF19 => ?_)
                      have hJF19 := (hJF16 : cRw s15 F F16).set hF19 rfl
                      have hvF19 := mI_yes (c' := F16 15) (c2 := F19 15) hv32_0 (by omega) (by omega) (fun e => h6 (by omega)) ⟨by omega, by omega, fun e => h6 (by omega), zsh4, zh8, hc⟩ (by rw [hF16, fset_eq, ew15, ex14]) (fun p hp => by rw [hF16, fset_ne (Or.inr hp)]) (by rw [hF19, fset_eq, ew18, ex17]) (fun p hp => by rw [hF19, fset_ne (Or.inr hp)])
                      refine V_iinc X (nI (i32 + 1)) [(5, .int (nI (i32 + 1))), (4, .int (nI (i3))), (0, .ref (X0 + 1)), (1, .int (nI (b))), (2, .int (nI (l))), (3, .ref (X0 + 15))] dX2_clashInTurn_103 0 rfl (zinc _) (by decide) rfl ?_
                      refine V_goto (tgt := 32) X dX2_clashInTurn_106 (by decide) ?_
                      exact V.sub [0, 1, 2, 3, 4, 5] rfl (ih32 _ (by omega) (i32 + 1) F19 rfl (by omega) hJF19 (hvF19))
          exact L32 _ 0 G3 rfl (by omega) hJ3 (hv3_0)
        · -- 23 false
          have zh4 := mt fr3.mpr (not_not_intro h4)
          have zsh4 : ¬ zIn (sp b) (nI i3) := by rw [← e5, ← hJ3 5 b rfl, ← ex2]; exact zh4
          refine V_goto (tgt := 109) X dX2_clashInTurn_26 (by decide) ?_
          refine V_iinc X (nI (i3 + 1)) [(4, .int (nI (i3 + 1))), (0, .ref (X0 + 1)), (1, .int (nI (b))), (2, .int (nI (l))), (3, .ref (X0 + 15))] dX2_clashInTurn_109 0 rfl (zinc _) (by decide) rfl ?_
          refine V_goto (tgt := 3) X dX2_clashInTurn_112 (by decide) ?_
          exact V.sub [0, 1, 2, 3, 4] rfl (ih3 _ (by omega) (i3 + 1) G3 rfl (by omega) hJ3 (mI_row hv3_0 (fun q h => absurd h.2.2.2.1 (by assumption))))
  exact L3 _ 0 F rfl (by omega) cRw.rfl' (mI_0 hE)
set_option maxRecDepth 100000 in
set_option maxHeartbeats 4000000 in
theorem k_X2_fillClashes_x {g : zG} {t : Nat × Nat} {X0 : Nat} {σ0 : Nat → Option va_E} {F : Nat → Nat → Int32} (hX : g.2.1.size ≤ X0) {nP nS nA nC nT : Nat} (hI : cI nP nS nA nC nT F) (a1 : Int32) (hB : cBd nP nS nA F) : Ct g 12 yX2_fillClashes cX2_fillClashes 5 none 0 0 [.ref (X0 + 1), .int (a1), .ref (X0 + 15)] (t, cW g X0 F σ0) (fun v σ' => v = none ∧ ∃ F' : Nat → Nat → Int32, σ' = (t, cW g X0 F' σ0) ∧ cRw s15 F F' ∧ ∀ p, p < 7 → zMk (F' 15 p) (mCl (F 5) (F 4) (F 6) nP a1 nS p)) zNo := by
  refine Ct.of (lv := [(0, .ref (X0 + 1)), (1, .int (a1)), (2, .ref (X0 + 15))]) (by decide) (Nat.le_of_ble_eq_true rfl) rfl ?_
  intro κ X E B _
  have X : zX g κ RX2 cX2_fillClashes 5 := X
  obtain ⟨b1, b2, b3, b4, b5⟩ := hI.bnd
  refine V_iconst (v := nI 0) X dX2_fillClashes_0 (by decide) ?_
  refine V_istore_n X [(3, .int (nI (0))), (0, .ref (X0 + 1)), (1, .int (a1)), (2, .ref (X0 + 15))] dX2_fillClashes_1 (by decide) rfl ?_
  have L2 : ∀ (n2 : Nat) (i2 : Nat) (G2 : Nat → Nat → Int32), n2 = 7 - i2 → i2 ≤ 7 → cRw s15 F G2 → (∀ p, p < i2 → G2 15 p = nI 0) → V g κ 5 0 0 (t, cW g X0 G2 σ0) 2 [(3, .int (nI (i2))), (0, .ref (X0 + 1)), (1, .int (a1)), (2, .ref (X0 + 15))] [] := by
    intro n2
    induction n2 using Nat.strongRecOn with
    | ind n2 ih2 =>
      intro i2 G2 hn2 hi2 hJ2 hv2_0
      refine V_iload_n X dX2_fillClashes_2 0 rfl ?_
      refine V_aload_n X dX2_fillClashes_3 3 rfl ?_
      refine C_alen (N := 7) (v := nI 7) X 15 (by decide) rfl (by decide) dX2_fillClashes_4 ?_
      refine V_icmpgeN X (by omega) (by omega) (tgt := 18) dX2_fillClashes_5 (by decide) (fun h1 => ?_) (fun h1 => ?_)
      · -- 5 true
        refine V_iconst (v := (-1)) X dX2_fillClashes_18 (by decide) ?_
        refine V_istore_n X [(3, .int (-1)), (0, .ref (X0 + 1)), (1, .int (a1)), (2, .ref (X0 + 15))] dX2_fillClashes_19 (by decide) rfl ?_
        refine V_iconst (v := nI 0) X dX2_fillClashes_20 (by decide) ?_
        refine V_istore X [(4, .int (nI (0))), (3, .int (-1)), (0, .ref (X0 + 1)), (1, .int (a1)), (2, .ref (X0 + 15))] dX2_fillClashes_21 (by decide) rfl ?_
        have L23 : ∀ (n23 : Nat) (i23 : Nat) (x23_3 : Int32) (G23 : Nat → Nat → Int32), n23 = nS - i23 → i23 ≤ nS → cRw s15 F G23 → ((x23_3 = -1 ∧ mBn a1 i23) ∨ ∃ b, b < nS ∧ x23_3 = nI b ∧ mBf a1 i23 b) → (∀ p, p < 7 → zMk (G23 15 p) (mCl (F 5) (F 4) (F 6) nP a1 i23 p)) → V g κ 5 0 0 (t, cW g X0 G23 σ0) 23 [(4, .int (nI (i23))), (3, .int (x23_3)), (0, .ref (X0 + 1)), (1, .int (a1)), (2, .ref (X0 + 15))] [] := by
          intro n23
          induction n23 using Nat.strongRecOn with
          | ind n23 ih23 =>
            intro i23 x23_3 G23 hn23 hi23 hJ23 hv23_0 hv23_1
            refine V_iload X dX2_fillClashes_23 0 rfl ?_
            refine V_aload_n X dX2_fillClashes_25 2 rfl ?_
            refine C_getfN (z := nI (nS)) X fl_X2_31 1 (by decide) rfl rfl (hI.mv (hJ23.J s15J)).f1_6 dX2_fillClashes_26 ?_
            refine V_icmpgeN X (by omega) (by omega) (tgt := 83) dX2_fillClashes_29 (by decide) (fun h2 => ?_) (fun h2 => ?_)
            · -- 29 true
              exact V_vret X E (Nat.zero_le _) (Nat.zero_le _) ⟨rfl, _, rfl, hJ23, by rw [← show i23 = nS by omega]; exact hv23_1⟩ dX2_fillClashes_83
            · -- 29 false
              refine V_iload_n X dX2_fillClashes_32 3 rfl ?_
              refine V_iload X dX2_fillClashes_33 0 rfl ?_
              refine V_callSN (rest := []) X E.room ml_X2_34 st_X5_has (by omega) (by decide) (k_X5_has (σ := (t, cW g X0 G23 σ0)) (a1) (nI (i23))) rfl rfl (Nat.le_of_ble_eq_true rfl) ⟨Nat.le_refl _, Nat.le_refl _⟩ dX2_fillClashes_35 (fun _ _ h => False.elim h) (fun v35 σ' hp35 => ?_)
              obtain ⟨hp35, rfl⟩ := hp35
              obtain ⟨r3, rfl, hr3, fr3⟩ := hp35
              show V g κ 5 0 0 (t, cW g X0 G23 σ0) 38 [(4, .int (nI (i23))), (3, .int (x23_3)), (0, .ref (X0 + 1)), (1, .int (a1)), (2, .ref (X0 + 15))] [.int (r3)]
              refine V_ifne X (tgt := 44) dX2_fillClashes_38 (by decide) (fun h4 => ?_) (fun h4 => ?_)
              · -- 38 true
                have zh4 := fr3.mp h4
                refine V_aload_n X dX2_fillClashes_44 2 rfl ?_
                refine V_aload_n X dX2_fillClashes_45 2 rfl ?_
                refine C_getf X fl_X2_21 1 (by decide) rfl rfl dX2_fillClashes_46 ?_
                refine V_iload X dX2_fillClashes_49 0 rfl ?_
                refine C_iald X (N := 6) 5 (by decide) (i23) rfl (by omega) (by decide) rfl dX2_fillClashes_51 ?_
                obtain ⟨m5, hm5, em5⟩ := hB.2.2 (i23) (by omega)
                rw [show G23 5 (i23) = nI m5 from (hJ23 5 (i23) rfl).trans em5]
                refine V_aload_n X dX2_fillClashes_52 4 rfl ?_
                refine V_callV (rest := []) X E.room ml_X2_38 in_X2_clashTogether (ci := 6) rfl se_X2_clashTogether (C_recv (q := 1) (by decide) rfl) (by decide) (by decide) (k_X2_clashTogether_x hX (hI.mv (hJ23.J s15J)) (m5) hm5 (fun p q => mCl (F 5) (F 4) (F 6) nP a1 i23 p q) hv23_1) rfl rfl (Nat.le_of_ble_eq_true rfl) ⟨Nat.le_refl _, Nat.le_refl _⟩ dX2_fillClashes_53 (fun _ _ h => False.elim h) (fun v53 σ' hp53 => ?_)
                obtain ⟨hp53, F6, rfl, hJF6, hVF6⟩ := hp53
                have hKF6 : cRw s15 F F6 := hJ23.trans hJF6
                cases (hp53 : _ = none)
                show V g κ 5 0 0 (t, cW g X0 F6 σ0) 56 [(4, .int (nI (i23))), (3, .int (x23_3)), (0, .ref (X0 + 1)), (1, .int (a1)), (2, .ref (X0 + 15))] []
                refine V_iload_n X dX2_fillClashes_56 1 rfl ?_
                refine V_iconst (v := (-1)) X dX2_fillClashes_57 (by decide) ?_
                refine V_icmpeq X (tgt := 74) dX2_fillClashes_58 (by decide) (fun h7 => ?_) (fun h7 => ?_)
                · -- 58 true
                  have hbn : mBn a1 i23 := by
                    rcases hv23_0 with y | ⟨b, y1, y2, -⟩
                    · exact y.2
                    · exact absurd (y2.symm.trans h7) (znm1 (by omega))
                  rw [show nI m5 = F 5 i23 from em5.symm] at hVF6
                  have hvc := mCl_first zh4 hbn hVF6
                  refine V_iload X dX2_fillClashes_74 0 rfl ?_
                  refine V_istore_n X [(3, .int (nI (i23))), (4, .int (nI (i23))), (0, .ref (X0 + 1)), (1, .int (a1)), (2, .ref (X0 + 15))] dX2_fillClashes_76 (by decide) rfl ?_
                  refine V_iinc X (nI (i23 + 1)) [(4, .int (nI (i23 + 1))), (3, .int (nI (i23))), (0, .ref (X0 + 1)), (1, .int (a1)), (2, .ref (X0 + 15))] dX2_fillClashes_77 1 rfl (zinc _) (by decide) rfl ?_
                  refine V_goto (tgt := 23) X dX2_fillClashes_80 (by decide) ?_
                  exact V.sub [0, 1, 2, 3, 4] rfl (ih23 _ (by omega) (i23 + 1) (nI (i23)) F6 rfl (by omega) hKF6 (Or.inr ⟨_, by omega, rfl, mBf_n zh4⟩) (hvc))
                · -- 58 false
                  refine V_aload_n X dX2_fillClashes_61 2 rfl ?_
                  refine V_iload_n X dX2_fillClashes_62 1 rfl ?_
                  refine V_aload_n X dX2_fillClashes_63 2 rfl ?_
                  refine C_getf X fl_X2_21 1 (by decide) rfl rfl dX2_fillClashes_64 ?_
                  refine V_iload X dX2_fillClashes_67 0 rfl ?_
                  refine C_iald X (N := 6) 5 (by decide) (i23) rfl (by omega) (by decide) rfl dX2_fillClashes_69 ?_
                  obtain ⟨m8, hm8, em8⟩ := hB.2.2 (i23) (by omega)
                  rw [show F6 5 (i23) = nI m8 from (hKF6 5 (i23) rfl).trans em8]
                  refine V_aload_n X dX2_fillClashes_70 4 rfl ?_
                  obtain ⟨b9, hb9, rfl, hbf⟩ := hv23_0.resolve_left (fun y => absurd y.1 (by assumption))
                  refine V_callV (rest := []) X E.room ml_X2_42 in_X2_clashInTurn (ci := 6) rfl se_X2_clashInTurn (C_recv (q := 1) (by decide) rfl) (by decide) (by decide) (k_X2_clashInTurn_x hX (hI.mv (hKF6.J s15J)) (b9) (by omega) (m8) (F 5) (F 4) (F 6) (funext fun j => hKF6 5 j rfl) (funext fun j => hKF6 4 j rfl) (funext fun j => hKF6 6 j rfl) (fun p q => mCl (F 5) (F 4) (F 6) nP a1 i23 p q ∨ mTog nP (nI m5) p q) hVF6) rfl rfl (Nat.le_of_ble_eq_true rfl) ⟨Nat.le_refl _, Nat.le_refl _⟩ dX2_fillClashes_71 (fun _ _ h => False.elim h) (fun v71 σ' hp71 => ?_)
                  obtain ⟨hp71, F9, rfl, hJF9, hVF9⟩ := hp71
                  have hKF9 : cRw s15 F F9 := hKF6.trans hJF9
                  cases (hp71 : _ = none)
                  show V g κ 5 0 0 (t, cW g X0 F9 σ0) 74 [(4, .int (nI (i23))), (3, .int (nI (b9))), (0, .ref (X0 + 1)), (1, .int (a1)), (2, .ref (X0 + 15))] []
                  rw [show nI m8 = F 5 i23 from em8.symm, show nI m5 = F 5 i23 from em5.symm] at hVF9
                  have hvc := mCl_more zh4 hbf hVF9
                  refine V_iload X dX2_fillClashes_74 0 rfl ?_
                  refine V_istore_n X [(3, .int (nI (i23))), (4, .int (nI (i23))), (0, .ref (X0 + 1)), (1, .int (a1)), (2, .ref (X0 + 15))] dX2_fillClashes_76 (by decide) rfl ?_
                  refine V_iinc X (nI (i23 + 1)) [(4, .int (nI (i23 + 1))), (3, .int (nI (i23))), (0, .ref (X0 + 1)), (1, .int (a1)), (2, .ref (X0 + 15))] dX2_fillClashes_77 1 rfl (zinc _) (by decide) rfl ?_
                  refine V_goto (tgt := 23) X dX2_fillClashes_80 (by decide) ?_
                  exact V.sub [0, 1, 2, 3, 4] rfl (ih23 _ (by omega) (i23 + 1) (nI (i23)) F9 rfl (by omega) hKF9 (Or.inr ⟨_, by omega, rfl, mBf_n zh4⟩) (hvc))
              · -- 38 false
                have zh4 := mt fr3.mpr (not_not_intro h4)
                refine V_goto (tgt := 77) X dX2_fillClashes_41 (by decide) ?_
                refine V_iinc X (nI (i23 + 1)) [(4, .int (nI (i23 + 1))), (3, .int (x23_3)), (0, .ref (X0 + 1)), (1, .int (a1)), (2, .ref (X0 + 15))] dX2_fillClashes_77 0 rfl (zinc _) (by decide) rfl ?_
                refine V_goto (tgt := 23) X dX2_fillClashes_80 (by decide) ?_
                exact V.sub [0, 1, 2, 3, 4] rfl (ih23 _ (by omega) (i23 + 1) x23_3 G23 rfl (by omega) hJ23 ((hv23_0.imp (fun y => ⟨y.1, mBn_s y.2 zh4⟩) (fun ⟨b, y1, y2, y3⟩ => ⟨b, y1, y2, mBf_s y3 zh4⟩))) (mCl_no hv23_1 zh4))
        exact L23 _ 0 (-1) G2 rfl (by omega) hJ2 (Or.inl ⟨rfl, mBn_0⟩) (mCl_0 (fun p hp => hv2_0 p (by omega)))
      · -- 5 false
        refine V_aload_n X dX2_fillClashes_8 3 rfl ?_
        refine V_iload_n X dX2_fillClashes_9 0 rfl ?_
        refine V_iconst (v := nI 0) X dX2_fillClashes_10 (by decide) ?_
        refine C_iast X (N := 7) 15 (by decide) hX (i2) rfl (by omega) (by decide) (fun _ => rfl) dX2_fillClashes_11 (fun F10 hF10 => ?_)
        have hJF10 := (hJ2 : cRw s15 F G2).set hF10 rfl
        have hvF10 : ∀ p, p < i2 + 1 → F10 15 p = nI 0 := fun p hp => by
          by_cases e : p = i2
          · rw [e, hF10, fset_eq]
          · rw [hF10, fset_ne (Or.inr e)]; exact hv2_0 p (by omega)
        refine V_iinc X (nI (i2 + 1)) [(3, .int (nI (i2 + 1))), (0, .ref (X0 + 1)), (1, .int (a1)), (2, .ref (X0 + 15))] dX2_fillClashes_12 0 rfl (zinc _) (by decide) rfl ?_
        refine V_goto (tgt := 2) X dX2_fillClashes_15 (by decide) ?_
        exact V.sub [0, 1, 2, 3] rfl (ih2 _ (by omega) (i2 + 1) F10 rfl (by omega) hJF10 (hvF10))
  exact L2 _ 0 F rfl (by omega) cRw.rfl' (fun p hp => absurd hp (Nat.not_lt_zero p))
set_option maxRecDepth 100000 in
set_option maxHeartbeats 4000000 in
theorem k_X0_orderByChoice_x {g : zG} {t : Nat × Nat} {X0 : Nat} {σ0 : Nat → Option va_E} {F : Nat → Nat → Int32} (hX : g.2.1.size ≤ X0) {nP nS nA nC nT : Nat} (hI : cI nP nS nA nC nT F) (a1 : Int32) (D : Nat → Prop) (hz : zMk a1 D) (hk : ∀ p, D p → zkf (F 14) p < 6) : Ct g 11 yX0_orderByChoice cX0_orderByChoice 4 none 0 0 [.ref (X0 + 12), .int (a1)] (t, cW g X0 F σ0) (fun v σ' => v = none ∧ ∃ F' : Nat → Nat → Int32, σ' = (t, cW g X0 F' σ0) ∧ cRw sOr F F' ∧ mOl F' D) zNo := by
  refine Ct.of (lv := [(0, .ref (X0 + 12)), (1, .int (a1))]) (by decide) (Nat.le_of_ble_eq_true rfl) rfl ?_
  intro κ X E B _
  have X : zX g κ RX0 cX0_orderByChoice 4 := X
  obtain ⟨b1, b2, b3, b4, b5⟩ := hI.bnd
  refine V_aload_n X dX0_orderByChoice_0 0 rfl ?_
  refine V_iconst (v := nI 0) X dX0_orderByChoice_1 (by decide) ?_
  refine C_putf X fl_X0_108 zt_X0 12 (by decide) hX rfl (Nat.le_of_ble_eq_true rfl) rfl rfl rfl rfl rfl dX0_orderByChoice_2 (fun F1 hF1 => ?_)
  have hJF1 := (cRw.rfl' : cRw sOr F F).set hF1 rfl
  refine V_iconst (v := nI 0) X dX0_orderByChoice_5 (by decide) ?_
  refine V_istore_n X [(2, .int (nI (0))), (0, .ref (X0 + 12)), (1, .int (a1))] dX0_orderByChoice_6 (by decide) rfl ?_
  have L7 : ∀ (n7 : Nat) (i7 : Nat) (G7 : Nat → Nat → Int32), n7 = 6 - i7 → i7 ≤ 6 → cRw sOr F G7 → cOc i7 0 G7 → mOl G7 (mCh (zkf (F 14)) D i7 0) → V g κ 4 0 0 (t, cW g X0 G7 σ0) 7 [(2, .int (nI (i7))), (0, .ref (X0 + 12)), (1, .int (a1))] [] := by
    intro n7
    induction n7 using Nat.strongRecOn with
    | ind n7 ih7 =>
      intro i7 G7 hn7 hi7 hJ7 hv7_0 hv7_1
      refine V_iload_n X dX0_orderByChoice_7 0 rfl ?_
      refine V_iconst (v := nI 5) X dX0_orderByChoice_8 (by decide) ?_
      refine V_icmpgtN X (by omega) (by omega) (tgt := 73) dX0_orderByChoice_9 (by decide) (fun h2 => ?_) (fun h2 => ?_)
      · -- 9 true
        exact V_vret X E (Nat.zero_le _) (Nat.zero_le _) ⟨rfl, _, rfl, hJ7, hv7_1.cg (mCh_end (show i7 = 6 by omega) hk)⟩ dX0_orderByChoice_73
      · -- 9 false
        refine V_iconst (v := nI 0) X dX0_orderByChoice_12 (by decide) ?_
        refine V_istore_n X [(3, .int (nI (0))), (2, .int (nI (i7))), (0, .ref (X0 + 12)), (1, .int (a1))] dX0_orderByChoice_13 (by decide) rfl ?_
        have L14 : ∀ (n14 : Nat) (i14 : Nat) (G14 : Nat → Nat → Int32), n14 = 7 - i14 → i14 ≤ 7 → cRw sOr F G14 → cOc i7 i14 G14 → mOl G14 (mCh (zkf (F 14)) D i7 i14) → V g κ 4 0 0 (t, cW g X0 G14 σ0) 14 [(3, .int (nI (i14))), (2, .int (nI (i7))), (0, .ref (X0 + 12)), (1, .int (a1))] [] := by
          intro n14
          induction n14 using Nat.strongRecOn with
          | ind n14 ih14 =>
            intro i14 G14 hn14 hi14 hJ14 hv14_0 hv14_1
            refine V_iload_n X dX0_orderByChoice_14 0 rfl ?_
            refine V_bipush (v := nI 7) X dX0_orderByChoice_15 (by decide) ?_
            refine V_icmpgeN X (by omega) (by omega) (tgt := 67) dX0_orderByChoice_17 (by decide) (fun h3 => ?_) (fun h3 => ?_)
            · -- 17 true
              refine V_iinc X (nI (i7 + 1)) [(2, .int (nI (i7 + 1))), (3, .int (nI (i14))), (0, .ref (X0 + 12)), (1, .int (a1))] dX0_orderByChoice_67 1 rfl (zinc _) (by decide) rfl ?_
              refine V_goto (tgt := 7) X dX0_orderByChoice_70 (by decide) ?_
              exact V.sub [0, 2, 3] rfl (ih7 _ (by omega) (i7 + 1) G14 rfl (by omega) hJ14 (hv14_0.next' (by omega)) (hv14_1.cg (mCh_next (show i14 = 7 by omega) (fun p hp => hz.lt hp))))
            · -- 17 false
              refine V_iload_n X dX0_orderByChoice_20 3 rfl ?_
              refine V_iload_n X dX0_orderByChoice_21 0 rfl ?_
              refine V_callSN (rest := []) X E.room ml_X0_86 st_X5_has (by omega) (by decide) (k_X5_has (σ := (t, cW g X0 G14 σ0)) (a1) (nI (i14))) rfl rfl (Nat.le_of_ble_eq_true rfl) ⟨Nat.le_refl _, Nat.le_refl _⟩ dX0_orderByChoice_22 (fun _ _ h => False.elim h) (fun v22 σ' hp22 => ?_)
              obtain ⟨hp22, rfl⟩ := hp22
              obtain ⟨r4, rfl, hr4, fr4⟩ := hp22
              show V g κ 4 0 0 (t, cW g X0 G14 σ0) 25 [(3, .int (nI (i14))), (2, .int (nI (i7))), (0, .ref (X0 + 12)), (1, .int (a1))] [.int (r4)]
              refine V_ifeq X (tgt := 61) dX0_orderByChoice_25 (by decide) (fun h5 => ?_) (fun h5 => ?_)
              · -- 25 true
                have zh5 := mt fr4.mpr (not_not_intro h5)
                have hsk := mCh_skip (k := zkf (F 14)) (c := i7) (i := i14) (D := D) (fun y => zh5 ((hz.In (by omega)).mpr y.1))
                refine V_iinc X (nI (i14 + 1)) [(3, .int (nI (i14 + 1))), (2, .int (nI (i7))), (0, .ref (X0 + 12)), (1, .int (a1))] dX0_orderByChoice_61 0 rfl (zinc _) (by decide) rfl ?_
                refine V_goto (tgt := 14) X dX0_orderByChoice_64 (by decide) ?_
                exact V.sub [0, 1, 2, 3] rfl (ih14 _ (by omega) (i14 + 1) G14 rfl (by omega) hJ14 (hv14_0.skip) (hv14_1.cg hsk))
              · -- 25 false
                have zh5 := fr4.mp h5
                refine V_aload_n X dX0_orderByChoice_28 2 rfl ?_
                refine C_getf X fl_X0_15 12 (by decide) rfl rfl dX0_orderByChoice_29 ?_
                refine V_iload_n X dX0_orderByChoice_32 0 rfl ?_
                refine C_iald X (N := 7) 14 (by decide) (i14) rfl (by omega) (by decide) rfl dX0_orderByChoice_33 ?_
                refine V.topi (fun x6 ex6 => ?_)
                refine V_callS (rest := []) X E.room ml_X0_77 st_J6_bitCount_0f7a4 (by decide) (by decide) (k_J6_bitCount_0f7a4 (σ := (t, cW g X0 G14 σ0)) (x6)) rfl rfl (Nat.le_of_ble_eq_true rfl) ⟨Nat.le_refl _, Nat.le_refl _⟩ dX0_orderByChoice_34 (fun _ _ h => False.elim h) (fun v9 σ' hp9 => ?_)
                obtain ⟨hp9, rfl⟩ := hp9
                cases (hp9 : _ = some (Value.int (zbc (x6))))
                show V g κ 4 0 0 (t, cW g X0 G14 σ0) 37 [(3, .int (nI (i14))), (2, .int (nI (i7))), (0, .ref (X0 + 12)), (1, .int (a1))] [.int (zbc (x6))]
                refine V_iload_n X dX0_orderByChoice_37 1 rfl ?_
                refine V_icmpne X (tgt := 61) dX0_orderByChoice_38 (by decide) (fun h7 => ?_) (fun h7 => ?_)
                · -- 38 true
                  have hsk := mCh_skip (k := zkf (F 14)) (c := i7) (i := i14) (D := D) (fun y => h7 (by rw [ex6, hJ14 14 i14 rfl]; exact zkf_to (by omega) y.2))
                  refine V_iinc X (nI (i14 + 1)) [(3, .int (nI (i14 + 1))), (2, .int (nI (i7))), (0, .ref (X0 + 12)), (1, .int (a1))] dX0_orderByChoice_61 0 rfl (zinc _) (by decide) rfl ?_
                  refine V_goto (tgt := 14) X dX0_orderByChoice_64 (by decide) ?_
                  exact V.sub [0, 1, 2, 3] rfl (ih14 _ (by omega) (i14 + 1) G14 rfl (by omega) hJ14 (hv14_0.skip) (hv14_1.cg hsk))
                · -- 38 false
                  refine V_aload_n X dX0_orderByChoice_41 2 rfl ?_
                  refine C_getf X fl_X0_21 12 (by decide) rfl rfl dX0_orderByChoice_42 ?_
                  refine V_aload_n X dX0_orderByChoice_45 2 rfl ?_
                  obtain ⟨m8, hm8, em8, pm8⟩ := hv14_0
                  have hbc : zbc (G14 14 i14) = nI i7 := by rw [← ex6]; assumption
                  have hm7 : m8 < 7 := cOc.lt hm8 (by omega) (by omega) hbc
                  have hkk : zkf (F 14) i14 = i7 := zkf_of (by omega) (by rw [← hJ14 14 i14 rfl]; exact hbc)
                  refine C_getfN (z := nI m8) X fl_X0_108 12 (by decide) rfl rfl em8 dX0_orderByChoice_46 ?_
                  refine V_iload_n X dX0_orderByChoice_49 0 rfl ?_
                  refine C_iast X (N := 7) 16 (by decide) hX (m8) rfl (by omega) (by decide) (fun _ => rfl) dX0_orderByChoice_50 (fun F9 hF9 => ?_)
                  have hJF9 := (hJ14 : cRw sOr F G14).set hF9 rfl
                  refine V_aload_n X dX0_orderByChoice_51 2 rfl ?_
                  refine V_dup X dX0_orderByChoice_52 rfl ?_
                  refine C_getfN (z := nI m8) X fl_X0_108 12 (by decide) rfl rfl (by rw [hF9, fset_ne (Or.inl (by decide))]; exact em8) dX0_orderByChoice_53 ?_
                  refine V_iconst (v := nI 1) X dX0_orderByChoice_56 (by decide) ?_
                  refine V_iaddN X dX0_orderByChoice_57 ?_
                  refine C_putf X fl_X0_108 zt_X0 12 (by decide) hX rfl (Nat.le_of_ble_eq_true rfl) rfl rfl rfl rfl rfl dX0_orderByChoice_58 (fun F10 hF10 => ?_)
                  have hJF10 := (hJF9 : cRw sOr F F9).set hF10 rfl
                  refine V_iinc X (nI (i14 + 1)) [(3, .int (nI (i14 + 1))), (2, .int (nI (i7))), (0, .ref (X0 + 12)), (1, .int (a1))] dX0_orderByChoice_61 0 rfl (zinc _) (by decide) rfl ?_
                  refine V_goto (tgt := 14) X dX0_orderByChoice_64 (by decide) ?_
                  exact V.sub [0, 1, 2, 3] rfl (ih14 _ (by omega) (i14 + 1) F10 rfl (by omega) hJF10 (cOc.step hm8 pm8 hF9 (by omega) hF10 (by omega) hbc) (hv14_1.step em8 hm7 hF9 hF10 (mCh_new hkk) (mCh_add ((hz.In (by omega)).mp zh5) hkk)))
        exact L14 _ 0 G7 rfl (by omega) hJ7 (hv7_0) (hv7_1)
  exact L7 _ 0 F1 rfl (by omega) hJF1 (cOc.zero hF1) (mOl.zero hF1 mCh_0)
set_option maxRecDepth 100000 in
set_option maxHeartbeats 4000000 in
theorem k_X0_prepare_x {g : zG} {t : Nat × Nat} {X0 : Nat} {σ0 : Nat → Option va_E} {F : Nat → Nat → Int32} (hX : g.2.1.size ≤ X0) {nP nS nA nC nT : Nat} (hI : cI nP nS nA nC nT F) (a3 : Int32) (hB : cBd nP nS nA F) : Ct g 13 yX0_prepare cX0_prepare 5 none 0 0 [.ref (X0 + 12), .ref (X0 + 1), .ref (X0 + 7), .int (a3)] (t, cW g X0 F σ0) (fun v σ' => v = none ∧ ∃ F' : Nat → Nat → Int32, σ' = (t, cW g X0 F' σ0) ∧ cJ F F' ∧ ∃ L : List Nat, cPr F' (mPm F nA) (mCl (F 5) (F 4) (F 6) nP a3 nS) L ∧ ∀ p, p ∈ L ↔ mDu (F 5) a3 nS p) zNo := by
  refine Ct.of (lv := [(0, .ref (X0 + 12)), (1, .ref (X0 + 1)), (2, .ref (X0 + 7)), (3, .int (a3))]) (by decide) (Nat.le_of_ble_eq_true rfl) rfl ?_
  intro κ X E B _
  have X : zX g κ RX0 cX0_prepare 5 := X
  obtain ⟨b1, b2, b3, b4, b5⟩ := hI.bnd
  refine V_aload_n X dX0_prepare_0 1 rfl ?_
  refine V_iload_n X dX0_prepare_1 3 rfl ?_
  refine V_aload_n X dX0_prepare_2 0 rfl ?_
  refine C_getf X fl_X0_18 12 (by decide) rfl rfl dX0_prepare_3 ?_
  refine V_callV (rest := []) X E.room ml_X0_90 in_X2_fillClashes (ci := 6) rfl se_X2_fillClashes (C_recv (q := 1) (by decide) rfl) (by decide) (by decide) (k_X2_fillClashes_x hX hI (a3) hB) rfl rfl (Nat.le_of_ble_eq_true rfl) ⟨Nat.le_refl _, Nat.le_refl _⟩ dX0_prepare_6 (fun _ _ h => False.elim h) (fun v6 σ' hp6 => ?_)
  obtain ⟨hp6, F1, rfl, hJF1, hVF1⟩ := hp6
  have hKF1 : cJ F F1 := (cJ.rfl' : cJ F F).trans (hJF1.J s15J)
  cases (hp6 : _ = none)
  show V g κ 5 0 0 (t, cW g X0 F1 σ0) 9 [(0, .ref (X0 + 12)), (1, .ref (X0 + 1)), (2, .ref (X0 + 7)), (3, .int (a3))] []
  refine V_iconst (v := nI 0) X dX0_prepare_9 (by decide) ?_
  refine V_istore X [(4, .int (nI (0))), (0, .ref (X0 + 12)), (1, .ref (X0 + 1)), (2, .ref (X0 + 7)), (3, .int (a3))] dX0_prepare_10 (by decide) rfl ?_
  have L12 : ∀ (n12 : Nat) (i12 : Nat) (G12 : Nat → Nat → Int32), n12 = nP - i12 → i12 ≤ nP → cJ F G12 → (∀ p, p < 7 → zMk (G12 15 p) (mCl (F 5) (F 4) (F 6) nP a3 nS p)) → (∀ p, p < i12 → zMk (G12 14 p) (fun q => mPm F nA q p)) → V g κ 5 0 0 (t, cW g X0 G12 σ0) 12 [(4, .int (nI (i12))), (0, .ref (X0 + 12)), (1, .ref (X0 + 1)), (2, .ref (X0 + 7)), (3, .int (a3))] [] := by
    intro n12
    induction n12 using Nat.strongRecOn with
    | ind n12 ih12 =>
      intro i12 G12 hn12 hi12 hJ12 hv12_0 hv12_1
      refine V_iload X dX0_prepare_12 0 rfl ?_
      refine V_aload_n X dX0_prepare_14 2 rfl ?_
      refine C_getfN (z := nI (nP)) X fl_X0_94 1 (by decide) rfl rfl (hI.mv hJ12).f1_5 dX0_prepare_15 ?_
      refine V_icmpgeN X (by omega) (by omega) (tgt := 47) dX0_prepare_18 (by decide) (fun h2 => ?_) (fun h2 => ?_)
      · -- 18 true
        refine V_aload_n X dX0_prepare_47 1 rfl ?_
        refine V_aload_n X dX0_prepare_48 2 rfl ?_
        refine V_iload_n X dX0_prepare_49 4 rfl ?_
        refine V_callV (rest := [.ref (X0 + 12)]) X E.room ml_X0_56 in_X2_partsOf (ci := 6) rfl se_X2_partsOf (C_recv (q := 1) (by decide) rfl) (by decide) (by decide) (k_X2_partsOf hX (hI.mv hJ12) (a3)) rfl rfl (Nat.le_of_ble_eq_true rfl) ⟨Nat.le_refl _, Nat.le_refl _⟩ dX0_prepare_50 (fun _ _ h => False.elim h) (fun v50 σ' hp50 => ?_)
        obtain ⟨hp50, rfl⟩ := hp50
        obtain ⟨r3, rfl, fr3⟩ := hp50
        show V g κ 5 0 0 (t, cW g X0 G12 σ0) 53 [(4, .int (nI (i12))), (0, .ref (X0 + 12)), (1, .ref (X0 + 1)), (2, .ref (X0 + 7)), (3, .int (a3))] [.int (r3), .ref (X0 + 12)]
        refine V_callV (rest := []) X E.room ml_X0_105 in_X0_orderByChoice (ci := 4) rfl se_X0_orderByChoice (C_recv (q := 12) (by decide) rfl) (by decide) (by decide) (k_X0_orderByChoice_x hX (hI.mv hJ12) (r3) (mDu (F 5) a3 nS) (by rw [← show G12 5 = F 5 from funext fun j => hJ12 5 j (by simp [scr])]; exact fr3) (fun p hp => zkf_lt (hv12_1 p (by have := du_lt b1 hB hp; omega)) (fun q hq => by have := hq.1; omega))) rfl rfl (Nat.le_of_ble_eq_true rfl) ⟨Nat.le_refl _, Nat.le_refl _⟩ dX0_prepare_53 (fun _ _ h => False.elim h) (fun v53 σ' hp53 => ?_)
        obtain ⟨hp53, F4, rfl, hJF4, hVF4⟩ := hp53
        have hKF4 : cJ F F4 := (hJ12 : cJ F G12).trans (hJF4.J sOrJ)
        cases (hp53 : _ = none)
        show V g κ 5 0 0 (t, cW g X0 F4 σ0) 56 [(4, .int (nI (i12))), (0, .ref (X0 + 12)), (1, .ref (X0 + 1)), (2, .ref (X0 + 7)), (3, .int (a3))] []
        exact V_vret X E (Nat.zero_le _) (Nat.zero_le _) ⟨rfl, by
      obtain ⟨L, l1, l2, l3, l4, l5⟩ := hVF4
      exact ⟨_, rfl, hKF4, L, ⟨l1, l3, l4, l5, fun p hp => ⟨((l2 p).mp hp).1, by rw [hJF4 15 p rfl]; exact hv12_0 p ((l2 p).mp hp).1, by rw [hJF4 14 p rfl]; exact hv12_1 p (by have := du_lt b1 hB ((l2 p).mp hp); omega)⟩⟩, l2⟩⟩ dX0_prepare_56
      · -- 18 false
        refine V_aload_n X dX0_prepare_21 1 rfl ?_
        refine C_getf X fl_X0_15 12 (by decide) rfl rfl dX0_prepare_22 ?_
        refine V_iload X dX0_prepare_25 0 rfl ?_
        refine V_aload_n X dX0_prepare_27 3 rfl ?_
        refine V_iconst (v := nI 1) X dX0_prepare_28 (by decide) ?_
        refine V_aload_n X dX0_prepare_29 2 rfl ?_
        refine C_getf X fl_X0_97 1 (by decide) rfl rfl dX0_prepare_30 ?_
        refine V_iload X dX0_prepare_33 0 rfl ?_
        refine C_iald X (N := 7) 2 (by decide) (i12) rfl (by omega) (by decide) rfl dX0_prepare_35 ?_
        obtain ⟨v5, hv5, ev5⟩ := (hB.mv hJ12).1 (i12) (by omega)
        rw [ev5]
        refine V_ishl1 X (by omega) dX0_prepare_36 ?_
        refine V_callV (rest := [.int (nI (i12)), .ref (X0 + 14)]) X E.room ml_X0_100 in_X1_ableOfAny (ci := 5) rfl se_X1_ableOfAny (C_recv (q := 7) (by decide) rfl) (by decide) (by decide) (k_X1_ableOfAny hX (hI.mv hJ12) (nI (2 ^ (v5)))) rfl rfl (Nat.le_of_ble_eq_true rfl) ⟨Nat.le_refl _, Nat.le_refl _⟩ dX0_prepare_37 (fun _ _ h => False.elim h) (fun v37 σ' hp37 => ?_)
        obtain ⟨hp37, rfl⟩ := hp37
        obtain ⟨r6, rfl, fr6⟩ := hp37
        show V g κ 5 0 0 (t, cW g X0 G12 σ0) 40 [(4, .int (nI (i12))), (0, .ref (X0 + 12)), (1, .ref (X0 + 1)), (2, .ref (X0 + 7)), (3, .int (a3))] [.int (r6), .int (nI (i12)), .ref (X0 + 14)]
        refine C_iast X (N := 7) 14 (by decide) hX (i12) rfl (by omega) (by decide) (fun _ => rfl) dX0_prepare_40 (fun F7 hF7 => ?_)
        have hJF7 := (hJ12 : cJ F G12).set hF7 (zscr (by omega))
        have hyF7 : zMk r6 (fun q => mPm F nA q i12) := (mPm_of (hB.mv hJ12) hv5 ev5 fr6).cg (fun q => mPm_mv hJ12)
        have haF7 : ∀ p, p < i12 + 1 → zMk (F7 14 p) (fun q => mPm F nA q p) := ab_st (P := fun p q => mPm F nA q p) hv12_1 hF7 hyF7
        have hcF7 : ∀ p, p < 7 → zMk (F7 15 p) (mCl (F 5) (F 4) (F 6) nP a3 nS p) := fun p hp => by rw [hF7, fset_ne (Or.inl (by decide))]; exact hv12_0 p hp
        refine V_iinc X (nI (i12 + 1)) [(4, .int (nI (i12 + 1))), (0, .ref (X0 + 12)), (1, .ref (X0 + 1)), (2, .ref (X0 + 7)), (3, .int (a3))] dX0_prepare_41 0 rfl (zinc _) (by decide) rfl ?_
        refine V_goto (tgt := 12) X dX0_prepare_44 (by decide) ?_
        exact V.sub [0, 1, 2, 3, 4] rfl (ih12 _ (by omega) (i12 + 1) F7 rfl (by omega) hJF7 (hcF7) (haF7))
  exact L12 _ 0 F1 rfl (by omega) hKF1 (hVF1) (fun p hp => absurd hp (Nat.not_lt_zero p))
set_option maxRecDepth 100000 in
set_option maxHeartbeats 4000000 in
theorem k_X0_canPlaceFrom_x {g : zG} {t : Nat × Nat} {X0 : Nat} {σ0 : Nat → Option va_E} (hX : g.2.1.size ≤ X0) {nP nS nA nC nT : Nat} {pm cl : Nat → Nat → Prop} {L : List Nat} (hs : ∀ p q, cl p q → cl q p) : ∀ (r : Nat) {F : Nat → Nat → Int32} (hI : cI nP nS nA nC nT F) (hP : cPr F pm cl L) (dep : Nat) (hr : 7 ≤ dep + r) (hd : dep ≤ L.length) (k : Nat) (hk : k ≤ 5) (R : Nat → Nat → Prop) (hR : ∀ i, i < 5 → zMk (F 17 i) (R i)) (hD : ∀ i p, p ∈ L.drop dep → ¬ R i p), Ct g (11 + r) yX0_canPlaceFrom cX0_canPlaceFrom 6 (some .boolean) 0 0 [.ref (X0 + 12), .int (nI dep), .int (nI k)] (t, cW g X0 F σ0) (fun v σ' => ∃ x : Int32, v = some (.int x) ∧ (x = 0 ∨ x = 1) ∧ ∃ F' : Nat → Nat → Int32, σ' = (t, cW g X0 F' σ0) ∧ cRw s17 F F' ∧ ((¬ x = 0 ∧ ∃ h : Nat → Nat, mFirst pm cl (L.drop dep) R k h ∧ ∀ i, i < 5 → zMk (F' 17 i) (fun q => R i q ∨ (q ∈ L.drop dep ∧ h q = i))) ∨ (x = 0 ∧ (∀ h, ¬ mExt pm cl (L.drop dep) R k h) ∧ ∀ i, i < 5 → zMk (F' 17 i) (R i)))) zNo := by
  intro r
  induction r using Nat.strongRecOn with
  | ind r ihr =>
  intro F hI hP dep hr hd k hk R hR hD
  refine Ct.of (lv := [(0, .ref (X0 + 12)), (1, .int (nI (dep))), (2, .int (nI (k)))]) (by decide) (Nat.le_of_ble_eq_true rfl) rfl ?_
  intro κ X E B _
  have X : zX g κ RX0 cX0_canPlaceFrom 6 := X
  obtain ⟨b1, b2, b3, b4, b5⟩ := hI.bnd
  have hL7 := hP.2.1
  refine V_iload_n X dX0_canPlaceFrom_0 1 rfl ?_
  refine V_aload_n X dX0_canPlaceFrom_1 0 rfl ?_
  refine C_getfN (z := nI (L.length)) X fl_X0_108 12 (by decide) rfl rfl hP.2.2.1 dX0_canPlaceFrom_2 ?_
  refine V_icmpltN X (by omega) (by omega) (tgt := 10) dX0_canPlaceFrom_5 (by decide) (fun h1 => ?_) (fun h1 => ?_)
  · -- 5 true
    refine V_aload_n X dX0_canPlaceFrom_10 0 rfl ?_
    refine C_getf X fl_X0_21 12 (by decide) rfl rfl dX0_canPlaceFrom_11 ?_
    refine V_iload_n X dX0_canPlaceFrom_14 1 rfl ?_
    refine C_iald X (N := 7) 16 (by decide) (dep) rfl (by omega) (by decide) rfl dX0_canPlaceFrom_15 ?_
    obtain ⟨p, ep⟩ : ∃ p, p = L[dep] := ⟨_, rfl⟩
    rw [show F 16 dep = nI p from (hP.2.2.2.1 dep (by omega)).trans (congrArg nI ep.symm)]
    have hT : L.drop dep = p :: L.drop (dep + 1) := by rw [ep]; exact List.drop_eq_getElem_cons (by omega)
    have hpL : p ∈ L := by rw [ep]; exact List.getElem_mem _
    obtain ⟨hp7, hclp, habp⟩ := hP.2.2.2.2 p hpL
    have hnd : p ∉ L.drop (dep + 1) := (List.nodup_cons.mp (show (p :: L.drop (dep + 1)).Nodup by rw [← hT]; exact List.Nodup.sublist (List.drop_sublist dep L) hP.1)).1
    have hDp : ∀ i, ¬ R i p := fun i => hD i p (by rw [hT]; exact List.mem_cons_self)
    refine V_istore_n X [(3, .int (nI (p))), (0, .ref (X0 + 12)), (1, .int (nI (dep))), (2, .int (nI (k)))] dX0_canPlaceFrom_16 (by decide) rfl ?_
    refine V_iconst (v := nI 0) X dX0_canPlaceFrom_17 (by decide) ?_
    refine V_istore X [(4, .int (nI (0))), (3, .int (nI (p))), (0, .ref (X0 + 12)), (1, .int (nI (dep))), (2, .int (nI (k)))] dX0_canPlaceFrom_18 (by decide) rfl ?_
    have L20 : ∀ (n20 : Nat) (i20 : Nat) (G20 : Nat → Nat → Int32), n20 = 5 - i20 → i20 ≤ 5 → cRw s17 F G20 → (∀ i, i < 5 → zMk (G20 17 i) (R i)) → mNo pm cl (L.drop (dep + 1)) R k p i20 → V g κ 6 0 0 (t, cW g X0 G20 σ0) 20 [(4, .int (nI (i20))), (3, .int (nI (p))), (0, .ref (X0 + 12)), (1, .int (nI (dep))), (2, .int (nI (k)))] [] := by
      intro n20
      induction n20 using Nat.strongRecOn with
      | ind n20 ih20 =>
        intro i20 G20 hn20 hi20 hJ20 hv20_0 hv20_1
        refine V_iload X dX0_canPlaceFrom_20 0 rfl ?_
        refine V_iconst (v := nI 5) X dX0_canPlaceFrom_22 (by decide) ?_
        refine V_icmpgeN X (by omega) (by omega) (tgt := 133) dX0_canPlaceFrom_23 (by decide) (fun h2 => ?_) (fun h2 => ?_)
        · -- 23 true
          refine V_iconst (v := nI 0) X dX0_canPlaceFrom_133 (by decide) ?_
          exact V_zret X E (zbool z01_0) (Nat.zero_le _) (Nat.zero_le _) ⟨_, rfl, z01_0, _, rfl, hJ20, Or.inr ⟨nI_0, by rw [hT]; exact mNo_5 (by rw [← show i20 = 5 by omega]; exact hv20_1), hv20_0⟩⟩ dX0_canPlaceFrom_134
        · -- 23 false
          refine V_aload_n X dX0_canPlaceFrom_26 2 rfl ?_
          refine C_getf X fl_X0_24 12 (by decide) rfl rfl dX0_canPlaceFrom_27 ?_
          refine V_iload X dX0_canPlaceFrom_30 0 rfl ?_
          refine C_iald X (N := 5) 17 (by decide) (i20) rfl (by omega) (by decide) rfl dX0_canPlaceFrom_32 ?_
          refine V.topi (fun x3 ex3 => ?_)
          refine V_ifne X (tgt := 40) dX0_canPlaceFrom_33 (by decide) (fun h4 => ?_) (fun h4 => ?_)
          · -- 33 true
            have hfr : mFr R i20 = 0 := mb_0 (fun q => h4 (ex3.trans ((zMk_z (hv20_0 i20 (by omega))).mpr q)))
            refine V_iconst (v := nI 0) X dX0_canPlaceFrom_40 (by decide) ?_
            refine V_istore X [(5, .int (nI (0))), (4, .int (nI (i20))), (3, .int (nI (p))), (0, .ref (X0 + 12)), (1, .int (nI (dep))), (2, .int (nI (k)))] dX0_canPlaceFrom_41 (by decide) rfl ?_
            refine V_aload_n X dX0_canPlaceFrom_43 3 rfl ?_
            refine C_getf X fl_X0_15 12 (by decide) rfl rfl dX0_canPlaceFrom_44 ?_
            refine V_iload_n X dX0_canPlaceFrom_47 2 rfl ?_
            refine C_iald X (N := 7) 14 (by decide) (p) rfl (by omega) (by decide) rfl dX0_canPlaceFrom_48 ?_
            refine V.topi (fun x5 ex5 => ?_)
            refine V_iload X dX0_canPlaceFrom_49 1 rfl ?_
            refine V_callSN (rest := []) X E.room ml_X0_86 st_X5_has (by omega) (by decide) (k_X5_has (σ := (t, cW g X0 G20 σ0)) (x5) (nI (i20))) rfl rfl (Nat.le_of_ble_eq_true rfl) ⟨Nat.le_refl _, Nat.le_refl _⟩ dX0_canPlaceFrom_51 (fun _ _ h => False.elim h) (fun v51 σ' hp51 => ?_)
            obtain ⟨hp51, rfl⟩ := hp51
            obtain ⟨r6, rfl, hr6, fr6⟩ := hp51
            show V g κ 6 0 0 (t, cW g X0 G20 σ0) 54 [(5, .int (nI (0))), (4, .int (nI (i20))), (3, .int (nI (p))), (0, .ref (X0 + 12)), (1, .int (nI (dep))), (2, .int (nI (k)))] [.int (r6)]
            refine V_ifeq X (tgt := 127) dX0_canPlaceFrom_54 (by decide) (fun h7 => ?_) (fun h7 => ?_)
            · -- 54 true
              have zh7 := mt fr6.mpr (not_not_intro h7)
              have hab : ¬ pm i20 p := by
                rw [ex5, hJ20 14 p rfl] at zh7
                exact fun y => zh7 ((habp.In (by omega)).mpr y)
              refine V_iinc X (nI (i20 + 1)) [(4, .int (nI (i20 + 1))), (5, .int (nI (0))), (3, .int (nI (p))), (0, .ref (X0 + 12)), (1, .int (nI (dep))), (2, .int (nI (k)))] dX0_canPlaceFrom_127 1 rfl (zinc _) (by decide) rfl ?_
              refine V_goto (tgt := 20) X dX0_canPlaceFrom_130 (by decide) ?_
              exact V.sub [0, 2, 3, 4, 5] rfl (ih20 _ (by omega) (i20 + 1) G20 rfl (by omega) hJ20 (hv20_0) (mNo_s hs hnd hv20_1 (by rintro ⟨y1, y2, y3, -⟩; first | exact absurd y1 (by assumption) | exact absurd y2 (by assumption) | omega)))
            · -- 54 false
              have zh7 := fr6.mp h7
              have hab : pm i20 p := by
                rw [ex5, hJ20 14 p rfl] at zh7
                exact (habp.In (by omega)).mp zh7
              refine V_aload_n X dX0_canPlaceFrom_57 3 rfl ?_
              refine C_getf X fl_X0_24 12 (by decide) rfl rfl dX0_canPlaceFrom_58 ?_
              refine V_iload X dX0_canPlaceFrom_61 1 rfl ?_
              refine C_iald X (N := 5) 17 (by decide) (i20) rfl (by omega) (by decide) rfl dX0_canPlaceFrom_63 ?_
              refine V.topi (fun x8 ex8 => ?_)
              refine V_aload_n X dX0_canPlaceFrom_64 3 rfl ?_
              refine C_getf X fl_X0_18 12 (by decide) rfl rfl dX0_canPlaceFrom_65 ?_
              refine V_iload_n X dX0_canPlaceFrom_68 2 rfl ?_
              refine C_iald X (N := 7) 15 (by decide) (p) rfl (by omega) (by decide) rfl dX0_canPlaceFrom_69 ?_
              refine V.topi (fun x9 ex9 => ?_)
              refine V_iand X dX0_canPlaceFrom_70 (V.topi (fun w10 ew10 => ?_))
              refine V_ifne X (tgt := 127) dX0_canPlaceFrom_71 (by decide) (fun h11 => ?_) (fun h11 => ?_)
              · -- 71 true
                have hcf : ¬ (∀ q, R i20 q → ¬ cl p q) := by
                  rw [ew10, ex8, ex9, hJ20 15 p rfl] at h11
                  exact fun y => h11 ((zMk_and (hv20_0 i20 (by omega)) hclp).mpr (fun q z => y q z.1 z.2))
                refine V_iinc X (nI (i20 + 1)) [(4, .int (nI (i20 + 1))), (5, .int (nI (0))), (3, .int (nI (p))), (0, .ref (X0 + 12)), (1, .int (nI (dep))), (2, .int (nI (k)))] dX0_canPlaceFrom_127 1 rfl (zinc _) (by decide) rfl ?_
                refine V_goto (tgt := 20) X dX0_canPlaceFrom_130 (by decide) ?_
                exact V.sub [0, 2, 3, 4, 5] rfl (ih20 _ (by omega) (i20 + 1) G20 rfl (by omega) hJ20 (hv20_0) (mNo_s hs hnd hv20_1 (by rintro ⟨y1, y2, y3, -⟩; first | exact absurd y1 (by assumption) | exact absurd y2 (by assumption) | omega)))
              · -- 71 false
                have hcf : (∀ q, R i20 q → ¬ cl p q) := by
                  rw [ew10, ex8, ex9, hJ20 15 p rfl] at h11
                  exact fun q y z => (zMk_and (hv20_0 i20 (by omega)) hclp).mp h11 q ⟨y, z⟩
                refine V_iload X dX0_canPlaceFrom_74 0 rfl ?_
                refine V_iload_n X dX0_canPlaceFrom_76 5 rfl ?_
                refine V_icmpleN X (by omega) (by omega) (tgt := 83) dX0_canPlaceFrom_77 (by decide) (fun h12 => ?_) (fun h12 => ?_)
                · -- 77 true
                  refine V_aload_n X dX0_canPlaceFrom_83 3 rfl ?_
                  refine C_getf X fl_X0_24 12 (by decide) rfl rfl dX0_canPlaceFrom_84 ?_
                  refine V_iload X dX0_canPlaceFrom_87 1 rfl ?_
                  refine V_dup2 X dX0_canPlaceFrom_89 rfl rfl ?_
                  refine C_iald X (N := 5) 17 (by decide) (i20) rfl (by omega) (by decide) rfl dX0_canPlaceFrom_90 ?_
                  refine V.topi (fun x13 ex13 => ?_)
                  refine V_iconst (v := nI 1) X dX0_canPlaceFrom_91 (by decide) ?_
                  refine V_iload_n X dX0_canPlaceFrom_92 2 rfl ?_
                  refine V_ishl1 X (by omega) dX0_canPlaceFrom_93 ?_
                  refine V_ior X dX0_canPlaceFrom_94 (V.topi (fun w14 ew14 => ?_))
                  refine C_iast X (N := 5) 17 (by decide) hX (i20) rfl (by omega) (by decide) (fun _ => rfl) dX0_canPlaceFrom_95 (fun F15 hF15 => ?_)
                  have hJF15 := (hJ20 : cRw s17 F G20).set hF15 rfl
                  have hRF15 : ∀ i, i < 5 → zMk (F15 17 i) (mAdd R i20 p i) := fun i hi => by
                    by_cases e : i = i20
                    · subst e; rw [hF15, fset_eq, ew14, ex13]; exact ((hv20_0 i hi).or (zMk_bit hp7)).cg (fun q => ⟨fun y => y.imp id (fun z => ⟨rfl, z⟩), fun y => y.imp id And.right⟩)
                    · rw [hF15, fset_ne (Or.inr e)]; exact (hv20_0 i hi).cg (fun q => ⟨Or.inl, fun y => y.elim id (fun z => absurd z.1 e)⟩)
                  refine V_aload_n X dX0_canPlaceFrom_96 3 rfl ?_
                  refine V_iload_n X dX0_canPlaceFrom_97 4 rfl ?_
                  refine V_iconst (v := nI 1) X dX0_canPlaceFrom_98 (by decide) ?_
                  refine V_iaddN X dX0_canPlaceFrom_99 ?_
                  refine V_iload_n X dX0_canPlaceFrom_100 5 rfl ?_
                  refine V_iload X dX0_canPlaceFrom_101 0 rfl ?_
                  refine V_isubN X (by omega) dX0_canPlaceFrom_103 ?_
                  refine V_callS (rest := []) X E.room ml_X0_111 st_X0_canPlaceFrom (show 11 + (r - 1) < 11 + r by omega) (by decide) (ihr (r - 1) (by omega) (hI.mv (hJF15.J s17J)) (hP.mv hJF15) (dep + 1) (by omega) (by omega) (k - 0) (by omega) (mAdd R i20 p) hRF15 (fun i q hq y => y.elim (hD i q (by rw [hT]; exact List.mem_cons_of_mem _ hq)) (fun z => hnd (z.2 ▸ hq)))) rfl rfl (Nat.le_of_ble_eq_true rfl) ⟨Nat.le_refl _, Nat.le_refl _⟩ dX0_canPlaceFrom_104 (fun _ _ h => False.elim h) (fun v104 σ' hp104 => ?_)
                  obtain ⟨r17, rfl, hr17, F16, rfl, hJF16, hres⟩ := hp104
                  have hKF16 : cRw s17 F F16 := hJF15.trans hJF16
                  rw [show k - 0 = k - mFr R i20 by rw [hfr]] at hres
                  show V g κ 6 0 0 (t, cW g X0 F16 σ0) 107 [(5, .int (nI (0))), (4, .int (nI (i20))), (3, .int (nI (p))), (0, .ref (X0 + 12)), (1, .int (nI (dep))), (2, .int (nI (k)))] [.int (r17)]
                  refine V_ifeq X (tgt := 112) dX0_canPlaceFrom_107 (by decide) (fun h18 => ?_) (fun h18 => ?_)
                  · -- 107 true
                    obtain ⟨-, hno, hro⟩ := hres.resolve_left (fun y => y.1 h18)
                    refine V_aload_n X dX0_canPlaceFrom_112 3 rfl ?_
                    refine C_getf X fl_X0_24 12 (by decide) rfl rfl dX0_canPlaceFrom_113 ?_
                    refine V_iload X dX0_canPlaceFrom_116 1 rfl ?_
                    refine V_dup2 X dX0_canPlaceFrom_118 rfl rfl ?_
                    refine C_iald X (N := 5) 17 (by decide) (i20) rfl (by omega) (by decide) rfl dX0_canPlaceFrom_119 ?_
                    refine V.topi (fun x19 ex19 => ?_)
                    refine V_iconst (v := nI 1) X dX0_canPlaceFrom_120 (by decide) ?_
                    refine V_iload_n X dX0_canPlaceFrom_121 2 rfl ?_
                    refine V_ishl1 X (by omega) dX0_canPlaceFrom_122 ?_
                    refine V_iconst (v := (-1)) X dX0_canPlaceFrom_123 (by decide) ?_
                    refine V_ixor X dX0_canPlaceFrom_124 (V.topi (fun w20 ew20 => ?_))
                    refine V_iand X dX0_canPlaceFrom_125 (V.topi (fun w21 ew21 => ?_))
                    refine C_iast X (N := 5) 17 (by decide) hX (i20) rfl (by omega) (by decide) (fun _ => rfl) dX0_canPlaceFrom_126 (fun F22 hF22 => ?_)
                    have hJF22 := (hKF16 : cRw s17 F F16).set hF22 rfl
                    have hRF22 : ∀ i, i < 5 → zMk (F22 17 i) (R i) := fun i hi => by
                      by_cases e : i = i20
                      · subst e; rw [hF22, fset_eq, ew21, ex19, ew20]; exact ((hro i hi).rm hp7).cg (fun q => ⟨fun y => y.1.elim id (fun z => absurd z.2 y.2), fun y => ⟨Or.inl y, fun z => hDp i (z ▸ y)⟩⟩)
                      · rw [hF22, fset_ne (Or.inr e)]; exact (hro i hi).cg (fun q => ⟨fun y => y.elim id (fun z => absurd z.1 e), Or.inl⟩)
                    refine V_iinc X (nI (i20 + 1)) [(4, .int (nI (i20 + 1))), (5, .int (nI (0))), (3, .int (nI (p))), (0, .ref (X0 + 12)), (1, .int (nI (dep))), (2, .int (nI (k)))] dX0_canPlaceFrom_127 1 rfl (zinc _) (by decide) rfl ?_
                    refine V_goto (tgt := 20) X dX0_canPlaceFrom_130 (by decide) ?_
                    exact V.sub [0, 2, 3, 4, 5] rfl (ih20 _ (by omega) (i20 + 1) F22 rfl (by omega) hJF22 (hRF22) (mNo_s hs hnd hv20_1 (fun y => y.2.2.2.elim hno)))
                  · -- 107 false
                    obtain ⟨hh, hfi, hro⟩ := (hres.resolve_right (fun y => h18 y.1)).2
                    refine V_iconst (v := nI 1) X dX0_canPlaceFrom_110 (by decide) ?_
                    exact V_zret X E (zbool z01_1) (Nat.zero_le _) (Nat.zero_le _) ⟨_, rfl, z01_1, _, rfl, hKF16, Or.inl ⟨by decide, _, by rw [hT]; exact mFirst_cons hs hnd (by omega) hv20_1 hab hcf (by omega) hfi, fun i hi => by rw [hT]; exact (hro i hi).cg (cpf_ro hnd)⟩⟩ dX0_canPlaceFrom_111
                · -- 77 false
                  refine V_goto (tgt := 127) X dX0_canPlaceFrom_80 (by decide) ?_
                  refine V_iinc X (nI (i20 + 1)) [(4, .int (nI (i20 + 1))), (5, .int (nI (0))), (3, .int (nI (p))), (0, .ref (X0 + 12)), (1, .int (nI (dep))), (2, .int (nI (k)))] dX0_canPlaceFrom_127 1 rfl (zinc _) (by decide) rfl ?_
                  refine V_goto (tgt := 20) X dX0_canPlaceFrom_130 (by decide) ?_
                  exact V.sub [0, 2, 3, 4, 5] rfl (ih20 _ (by omega) (i20 + 1) G20 rfl (by omega) hJ20 (hv20_0) (mNo_s hs hnd hv20_1 (by rintro ⟨y1, y2, y3, -⟩; first | exact absurd y1 (by assumption) | exact absurd y2 (by assumption) | omega)))
          · -- 33 false
            have hfr : mFr R i20 = 1 := mb_1 ((zMk_z (hv20_0 i20 (by omega))).mp (ex3.symm.trans h4))
            refine V_iconst (v := nI 1) X dX0_canPlaceFrom_36 (by decide) ?_
            refine V_goto (tgt := 41) X dX0_canPlaceFrom_37 (by decide) ?_
            refine V_istore X [(5, .int (nI (1))), (4, .int (nI (i20))), (3, .int (nI (p))), (0, .ref (X0 + 12)), (1, .int (nI (dep))), (2, .int (nI (k)))] dX0_canPlaceFrom_41 (by decide) rfl ?_
            refine V_aload_n X dX0_canPlaceFrom_43 3 rfl ?_
            refine C_getf X fl_X0_15 12 (by decide) rfl rfl dX0_canPlaceFrom_44 ?_
            refine V_iload_n X dX0_canPlaceFrom_47 2 rfl ?_
            refine C_iald X (N := 7) 14 (by decide) (p) rfl (by omega) (by decide) rfl dX0_canPlaceFrom_48 ?_
            refine V.topi (fun x23 ex23 => ?_)
            refine V_iload X dX0_canPlaceFrom_49 1 rfl ?_
            refine V_callSN (rest := []) X E.room ml_X0_86 st_X5_has (by omega) (by decide) (k_X5_has (σ := (t, cW g X0 G20 σ0)) (x23) (nI (i20))) rfl rfl (Nat.le_of_ble_eq_true rfl) ⟨Nat.le_refl _, Nat.le_refl _⟩ dX0_canPlaceFrom_51 (fun _ _ h => False.elim h) (fun v51 σ' hp51 => ?_)
            obtain ⟨hp51, rfl⟩ := hp51
            obtain ⟨r24, rfl, hr24, fr24⟩ := hp51
            show V g κ 6 0 0 (t, cW g X0 G20 σ0) 54 [(5, .int (nI (1))), (4, .int (nI (i20))), (3, .int (nI (p))), (0, .ref (X0 + 12)), (1, .int (nI (dep))), (2, .int (nI (k)))] [.int (r24)]
            refine V_ifeq X (tgt := 127) dX0_canPlaceFrom_54 (by decide) (fun h25 => ?_) (fun h25 => ?_)
            · -- 54 true
              have zh25 := mt fr24.mpr (not_not_intro h25)
              have hab : ¬ pm i20 p := by
                rw [ex23, hJ20 14 p rfl] at zh25
                exact fun y => zh25 ((habp.In (by omega)).mpr y)
              refine V_iinc X (nI (i20 + 1)) [(4, .int (nI (i20 + 1))), (5, .int (nI (1))), (3, .int (nI (p))), (0, .ref (X0 + 12)), (1, .int (nI (dep))), (2, .int (nI (k)))] dX0_canPlaceFrom_127 1 rfl (zinc _) (by decide) rfl ?_
              refine V_goto (tgt := 20) X dX0_canPlaceFrom_130 (by decide) ?_
              exact V.sub [0, 2, 3, 4, 5] rfl (ih20 _ (by omega) (i20 + 1) G20 rfl (by omega) hJ20 (hv20_0) (mNo_s hs hnd hv20_1 (by rintro ⟨y1, y2, y3, -⟩; first | exact absurd y1 (by assumption) | exact absurd y2 (by assumption) | omega)))
            · -- 54 false
              have zh25 := fr24.mp h25
              have hab : pm i20 p := by
                rw [ex23, hJ20 14 p rfl] at zh25
                exact (habp.In (by omega)).mp zh25
              refine V_aload_n X dX0_canPlaceFrom_57 3 rfl ?_
              refine C_getf X fl_X0_24 12 (by decide) rfl rfl dX0_canPlaceFrom_58 ?_
              refine V_iload X dX0_canPlaceFrom_61 1 rfl ?_
              refine C_iald X (N := 5) 17 (by decide) (i20) rfl (by omega) (by decide) rfl dX0_canPlaceFrom_63 ?_
              refine V.topi (fun x26 ex26 => ?_)
              refine V_aload_n X dX0_canPlaceFrom_64 3 rfl ?_
              refine C_getf X fl_X0_18 12 (by decide) rfl rfl dX0_canPlaceFrom_65 ?_
              refine V_iload_n X dX0_canPlaceFrom_68 2 rfl ?_
              refine C_iald X (N := 7) 15 (by decide) (p) rfl (by omega) (by decide) rfl dX0_canPlaceFrom_69 ?_
              refine V.topi (fun x27 ex27 => ?_)
              refine V_iand X dX0_canPlaceFrom_70 (V.topi (fun w28 ew28 => ?_))
              refine V_ifne X (tgt := 127) dX0_canPlaceFrom_71 (by decide) (fun h29 => ?_) (fun h29 => ?_)
              · -- 71 true
                have hcf : ¬ (∀ q, R i20 q → ¬ cl p q) := by
                  rw [ew28, ex26, ex27, hJ20 15 p rfl] at h29
                  exact fun y => h29 ((zMk_and (hv20_0 i20 (by omega)) hclp).mpr (fun q z => y q z.1 z.2))
                refine V_iinc X (nI (i20 + 1)) [(4, .int (nI (i20 + 1))), (5, .int (nI (1))), (3, .int (nI (p))), (0, .ref (X0 + 12)), (1, .int (nI (dep))), (2, .int (nI (k)))] dX0_canPlaceFrom_127 1 rfl (zinc _) (by decide) rfl ?_
                refine V_goto (tgt := 20) X dX0_canPlaceFrom_130 (by decide) ?_
                exact V.sub [0, 2, 3, 4, 5] rfl (ih20 _ (by omega) (i20 + 1) G20 rfl (by omega) hJ20 (hv20_0) (mNo_s hs hnd hv20_1 (by rintro ⟨y1, y2, y3, -⟩; first | exact absurd y1 (by assumption) | exact absurd y2 (by assumption) | omega)))
              · -- 71 false
                have hcf : (∀ q, R i20 q → ¬ cl p q) := by
                  rw [ew28, ex26, ex27, hJ20 15 p rfl] at h29
                  exact fun q y z => (zMk_and (hv20_0 i20 (by omega)) hclp).mp h29 q ⟨y, z⟩
                refine V_iload X dX0_canPlaceFrom_74 0 rfl ?_
                refine V_iload_n X dX0_canPlaceFrom_76 5 rfl ?_
                refine V_icmpleN X (by omega) (by omega) (tgt := 83) dX0_canPlaceFrom_77 (by decide) (fun h30 => ?_) (fun h30 => ?_)
                · -- 77 true
                  refine V_aload_n X dX0_canPlaceFrom_83 3 rfl ?_
                  refine C_getf X fl_X0_24 12 (by decide) rfl rfl dX0_canPlaceFrom_84 ?_
                  refine V_iload X dX0_canPlaceFrom_87 1 rfl ?_
                  refine V_dup2 X dX0_canPlaceFrom_89 rfl rfl ?_
                  refine C_iald X (N := 5) 17 (by decide) (i20) rfl (by omega) (by decide) rfl dX0_canPlaceFrom_90 ?_
                  refine V.topi (fun x31 ex31 => ?_)
                  refine V_iconst (v := nI 1) X dX0_canPlaceFrom_91 (by decide) ?_
                  refine V_iload_n X dX0_canPlaceFrom_92 2 rfl ?_
                  refine V_ishl1 X (by omega) dX0_canPlaceFrom_93 ?_
                  refine V_ior X dX0_canPlaceFrom_94 (V.topi (fun w32 ew32 => ?_))
                  refine C_iast X (N := 5) 17 (by decide) hX (i20) rfl (by omega) (by decide) (fun _ => rfl) dX0_canPlaceFrom_95 (fun F33 hF33 => ?_)
                  have hJF33 := (hJ20 : cRw s17 F G20).set hF33 rfl
                  have hRF33 : ∀ i, i < 5 → zMk (F33 17 i) (mAdd R i20 p i) := fun i hi => by
                    by_cases e : i = i20
                    · subst e; rw [hF33, fset_eq, ew32, ex31]; exact ((hv20_0 i hi).or (zMk_bit hp7)).cg (fun q => ⟨fun y => y.imp id (fun z => ⟨rfl, z⟩), fun y => y.imp id And.right⟩)
                    · rw [hF33, fset_ne (Or.inr e)]; exact (hv20_0 i hi).cg (fun q => ⟨Or.inl, fun y => y.elim id (fun z => absurd z.1 e)⟩)
                  refine V_aload_n X dX0_canPlaceFrom_96 3 rfl ?_
                  refine V_iload_n X dX0_canPlaceFrom_97 4 rfl ?_
                  refine V_iconst (v := nI 1) X dX0_canPlaceFrom_98 (by decide) ?_
                  refine V_iaddN X dX0_canPlaceFrom_99 ?_
                  refine V_iload_n X dX0_canPlaceFrom_100 5 rfl ?_
                  refine V_iload X dX0_canPlaceFrom_101 0 rfl ?_
                  refine V_isubN X (by omega) dX0_canPlaceFrom_103 ?_
                  refine V_callS (rest := []) X E.room ml_X0_111 st_X0_canPlaceFrom (show 11 + (r - 1) < 11 + r by omega) (by decide) (ihr (r - 1) (by omega) (hI.mv (hJF33.J s17J)) (hP.mv hJF33) (dep + 1) (by omega) (by omega) (k - 1) (by omega) (mAdd R i20 p) hRF33 (fun i q hq y => y.elim (hD i q (by rw [hT]; exact List.mem_cons_of_mem _ hq)) (fun z => hnd (z.2 ▸ hq)))) rfl rfl (Nat.le_of_ble_eq_true rfl) ⟨Nat.le_refl _, Nat.le_refl _⟩ dX0_canPlaceFrom_104 (fun _ _ h => False.elim h) (fun v104 σ' hp104 => ?_)
                  obtain ⟨r35, rfl, hr35, F34, rfl, hJF34, hres⟩ := hp104
                  have hKF34 : cRw s17 F F34 := hJF33.trans hJF34
                  rw [show k - 1 = k - mFr R i20 by rw [hfr]] at hres
                  show V g κ 6 0 0 (t, cW g X0 F34 σ0) 107 [(5, .int (nI (1))), (4, .int (nI (i20))), (3, .int (nI (p))), (0, .ref (X0 + 12)), (1, .int (nI (dep))), (2, .int (nI (k)))] [.int (r35)]
                  refine V_ifeq X (tgt := 112) dX0_canPlaceFrom_107 (by decide) (fun h36 => ?_) (fun h36 => ?_)
                  · -- 107 true
                    obtain ⟨-, hno, hro⟩ := hres.resolve_left (fun y => y.1 h36)
                    refine V_aload_n X dX0_canPlaceFrom_112 3 rfl ?_
                    refine C_getf X fl_X0_24 12 (by decide) rfl rfl dX0_canPlaceFrom_113 ?_
                    refine V_iload X dX0_canPlaceFrom_116 1 rfl ?_
                    refine V_dup2 X dX0_canPlaceFrom_118 rfl rfl ?_
                    refine C_iald X (N := 5) 17 (by decide) (i20) rfl (by omega) (by decide) rfl dX0_canPlaceFrom_119 ?_
                    refine V.topi (fun x37 ex37 => ?_)
                    refine V_iconst (v := nI 1) X dX0_canPlaceFrom_120 (by decide) ?_
                    refine V_iload_n X dX0_canPlaceFrom_121 2 rfl ?_
                    refine V_ishl1 X (by omega) dX0_canPlaceFrom_122 ?_
                    refine V_iconst (v := (-1)) X dX0_canPlaceFrom_123 (by decide) ?_
                    refine V_ixor X dX0_canPlaceFrom_124 (V.topi (fun w38 ew38 => ?_))
                    refine V_iand X dX0_canPlaceFrom_125 (V.topi (fun w39 ew39 => ?_))
                    refine C_iast X (N := 5) 17 (by decide) hX (i20) rfl (by omega) (by decide) (fun _ => rfl) dX0_canPlaceFrom_126 (fun F40 hF40 => ?_)
                    have hJF40 := (hKF34 : cRw s17 F F34).set hF40 rfl
                    have hRF40 : ∀ i, i < 5 → zMk (F40 17 i) (R i) := fun i hi => by
                      by_cases e : i = i20
                      · subst e; rw [hF40, fset_eq, ew39, ex37, ew38]; exact ((hro i hi).rm hp7).cg (fun q => ⟨fun y => y.1.elim id (fun z => absurd z.2 y.2), fun y => ⟨Or.inl y, fun z => hDp i (z ▸ y)⟩⟩)
                      · rw [hF40, fset_ne (Or.inr e)]; exact (hro i hi).cg (fun q => ⟨fun y => y.elim id (fun z => absurd z.1 e), Or.inl⟩)
                    refine V_iinc X (nI (i20 + 1)) [(4, .int (nI (i20 + 1))), (5, .int (nI (1))), (3, .int (nI (p))), (0, .ref (X0 + 12)), (1, .int (nI (dep))), (2, .int (nI (k)))] dX0_canPlaceFrom_127 1 rfl (zinc _) (by decide) rfl ?_
                    refine V_goto (tgt := 20) X dX0_canPlaceFrom_130 (by decide) ?_
                    exact V.sub [0, 2, 3, 4, 5] rfl (ih20 _ (by omega) (i20 + 1) F40 rfl (by omega) hJF40 (hRF40) (mNo_s hs hnd hv20_1 (fun y => y.2.2.2.elim hno)))
                  · -- 107 false
                    obtain ⟨hh, hfi, hro⟩ := (hres.resolve_right (fun y => h36 y.1)).2
                    refine V_iconst (v := nI 1) X dX0_canPlaceFrom_110 (by decide) ?_
                    exact V_zret X E (zbool z01_1) (Nat.zero_le _) (Nat.zero_le _) ⟨_, rfl, z01_1, _, rfl, hKF34, Or.inl ⟨by decide, _, by rw [hT]; exact mFirst_cons hs hnd (by omega) hv20_1 hab hcf (by omega) hfi, fun i hi => by rw [hT]; exact (hro i hi).cg (cpf_ro hnd)⟩⟩ dX0_canPlaceFrom_111
                · -- 77 false
                  refine V_goto (tgt := 127) X dX0_canPlaceFrom_80 (by decide) ?_
                  refine V_iinc X (nI (i20 + 1)) [(4, .int (nI (i20 + 1))), (5, .int (nI (1))), (3, .int (nI (p))), (0, .ref (X0 + 12)), (1, .int (nI (dep))), (2, .int (nI (k)))] dX0_canPlaceFrom_127 1 rfl (zinc _) (by decide) rfl ?_
                  refine V_goto (tgt := 20) X dX0_canPlaceFrom_130 (by decide) ?_
                  exact V.sub [0, 2, 3, 4, 5] rfl (ih20 _ (by omega) (i20 + 1) G20 rfl (by omega) hJ20 (hv20_0) (mNo_s hs hnd hv20_1 (by rintro ⟨y1, y2, y3, -⟩; first | exact absurd y1 (by assumption) | exact absurd y2 (by assumption) | omega)))
    exact L20 _ 0 F rfl (by omega) cRw.rfl' (hR) (mNo_0)
  · -- 5 false
    refine V_iconst (v := nI 1) X dX0_canPlaceFrom_8 (by decide) ?_
    exact V_zret X E (zbool z01_1) (Nat.zero_le _) (Nat.zero_le _) ⟨_, rfl, z01_1, _, rfl, cRw.rfl', Or.inl ⟨by decide, fun _ => 0, by rw [List.drop_eq_nil_of_le (by omega)]; exact mFirst_nil, fun i hi => (hR i hi).cg (fun q => ⟨Or.inl, fun y => y.elim id (fun z => by rw [List.drop_eq_nil_of_le (by omega)] at z; exact absurd z.1 List.not_mem_nil)⟩)⟩⟩ dX0_canPlaceFrom_9
set_option maxRecDepth 100000 in
set_option maxHeartbeats 4000000 in
theorem k_X0_canPlace_x {g : zG} {t : Nat × Nat} {X0 : Nat} {σ0 : Nat → Option va_E} {F : Nat → Nat → Int32} (hX : g.2.1.size ≤ X0) {nP nS nA nC nT : Nat} (hI : cI nP nS nA nC nT F) {pm cl : Nat → Nat → Prop} {L : List Nat} (hs : ∀ p q, cl p q → cl q p) (hP : cPr F pm cl L) (k : Nat) (hk : k ≤ 5) : Ct g 19 yX0_canPlace cX0_canPlace 3 (some FieldType.boolean) 0 0 [.ref (X0 + 12), .int (nI (k))] (t, cW g X0 F σ0) (fun v σ' => ∃ x : Int32, v = some (.int x) ∧ (x = 0 ∨ x = 1) ∧ ∃ F' : Nat → Nat → Int32, σ' = (t, cW g X0 F' σ0) ∧ cRw s17 F F' ∧ ((¬ x = 0 ∧ ∃ h : Nat → Nat, mFirst pm cl L (fun _ _ => False) k h ∧ ∀ i, i < 5 → zMk (F' 17 i) (fun q => q ∈ L ∧ h q = i)) ∨ (x = 0 ∧ ∀ h, ¬ mExt pm cl L (fun _ _ => False) k h))) zNo := by
  refine Ct.of (lv := [(0, .ref (X0 + 12)), (1, .int (nI (k)))]) (by decide) (Nat.le_of_ble_eq_true rfl) rfl ?_
  intro κ X E B _
  have X : zX g κ RX0 cX0_canPlace 3 := X
  obtain ⟨b1, b2, b3, b4, b5⟩ := hI.bnd
  have hL7 := hP.2.1
  refine V_iconst (v := nI 0) X dX0_canPlace_0 (by decide) ?_
  refine V_istore_n X [(2, .int (nI (0))), (0, .ref (X0 + 12)), (1, .int (nI (k)))] dX0_canPlace_1 (by decide) rfl ?_
  have L2 : ∀ (n2 : Nat) (i2 : Nat) (G2 : Nat → Nat → Int32), n2 = 5 - i2 → i2 ≤ 5 → cRw s17 F G2 → (∀ p, p < i2 → G2 17 p = nI 0) → V g κ 3 0 0 (t, cW g X0 G2 σ0) 2 [(2, .int (nI (i2))), (0, .ref (X0 + 12)), (1, .int (nI (k)))] [] := by
    intro n2
    induction n2 using Nat.strongRecOn with
    | ind n2 ih2 =>
      intro i2 G2 hn2 hi2 hJ2 hv2_0
      refine V_iload_n X dX0_canPlace_2 0 rfl ?_
      refine V_iconst (v := nI 5) X dX0_canPlace_3 (by decide) ?_
      refine V_icmpgeN X (by omega) (by omega) (tgt := 20) dX0_canPlace_4 (by decide) (fun h1 => ?_) (fun h1 => ?_)
      · -- 4 true
        refine V_aload_n X dX0_canPlace_20 1 rfl ?_
        refine V_iconst (v := nI 0) X dX0_canPlace_21 (by decide) ?_
        refine V_iload_n X dX0_canPlace_22 2 rfl ?_
        refine V_callS (rest := []) X E.room ml_X0_111 st_X0_canPlaceFrom (by omega) (by decide) (k_X0_canPlaceFrom_x hX hs 7 (hI.mv (hJ2.J s17J)) (hP.mv hJ2) 0 (by omega) (by omega) k hk (fun _ _ => False) (fun i hi => by rw [hv2_0 i (by omega)]; exact zMk_0) (fun _ _ _ y => y)) rfl rfl (Nat.le_of_ble_eq_true rfl) ⟨Nat.le_refl _, Nat.le_refl _⟩ dX0_canPlace_23 (fun _ _ h => False.elim h) (fun v23 σ' hp23 => ?_)
        obtain ⟨r3, rfl, hr3, F2, rfl, hJF2, hres⟩ := hp23
        have hKF2 : cRw s17 F F2 := hJ2.trans hJF2
        rw [List.drop_zero] at hres
        show V g κ 3 0 0 (t, cW g X0 F2 σ0) 26 [(2, .int (nI (i2))), (0, .ref (X0 + 12)), (1, .int (nI (k)))] [.int (r3)]
        exact V_zret X E (zbool hr3) (Nat.zero_le _) (Nat.zero_le _) ⟨_, rfl, hr3, _, rfl, hKF2, hres.imp (fun ⟨y, h, f, z⟩ => ⟨y, h, f, fun i hi => (z i hi).cg (fun q => ⟨fun y => y.resolve_left id, Or.inr⟩)⟩) (fun y => ⟨y.1, y.2.1⟩)⟩ dX0_canPlace_26
      · -- 4 false
        refine V_aload_n X dX0_canPlace_7 1 rfl ?_
        refine C_getf X fl_X0_24 12 (by decide) rfl rfl dX0_canPlace_8 ?_
        refine V_iload_n X dX0_canPlace_11 0 rfl ?_
        refine V_iconst (v := nI 0) X dX0_canPlace_12 (by decide) ?_
        refine C_iast X (N := 5) 17 (by decide) hX (i2) rfl (by omega) (by decide) (fun _ => rfl) dX0_canPlace_13 (fun F4 hF4 => ?_)
        have hJF4 := (hJ2 : cRw s17 F G2).set hF4 rfl
        have hvF4 : ∀ p, p < i2 + 1 → F4 17 p = nI 0 := fun p hp => by
          by_cases e : p = i2
          · rw [e, hF4, fset_eq]
          · rw [hF4, fset_ne (Or.inr e)]; exact hv2_0 p (by omega)
        refine V_iinc X (nI (i2 + 1)) [(2, .int (nI (i2 + 1))), (0, .ref (X0 + 12)), (1, .int (nI (k)))] dX0_canPlace_14 0 rfl (zinc _) (by decide) rfl ?_
        refine V_goto (tgt := 2) X dX0_canPlace_17 (by decide) ?_
        exact V.sub [0, 1, 2] rfl (ih2 _ (by omega) (i2 + 1) F4 rfl (by omega) hJF4 (hvF4))
  exact L2 _ 0 F rfl (by omega) cRw.rfl' (fun p hp => absurd hp (Nat.not_lt_zero p))
set_option maxRecDepth 100000 in
set_option maxHeartbeats 4000000 in
theorem k_X0_fewest_x {g : zG} {t : Nat × Nat} {X0 : Nat} {σ0 : Nat → Option va_E} {F : Nat → Nat → Int32} (hX : g.2.1.size ≤ X0) {nP nS nA nC nT : Nat} (hI : cI nP nS nA nC nT F) (a3 : Int32) (hB : cBd nP nS nA F) : Ct g 20 yX0_fewest cX0_fewest 5 (some FieldType.int) 0 0 [.ref (X0 + 12), .ref (X0 + 1), .ref (X0 + 7), .int (a3)] (t, cW g X0 F σ0) (fun v σ' => ∃ x : Int32, v = some (.int x) ∧ mFew (mFit (mPm F nA) (mCl (F 5) (F 4) (F 6) nP a3 nS) (mDu (F 5) a3 nS)) x ∧ ∃ F' : Nat → Nat → Int32, σ' = (t, cW g X0 F' σ0) ∧ cJ F F' ∧ ∀ p, mDu (F 5) a3 nS p → zMk (F' 15 p) (mCl (F 5) (F 4) (F 6) nP a3 nS p) ∧ zMk (F' 14 p) (fun i => mPm F nA i p)) zNo := by
  refine Ct.of (lv := [(0, .ref (X0 + 12)), (1, .ref (X0 + 1)), (2, .ref (X0 + 7)), (3, .int (a3))]) (by decide) (Nat.le_of_ble_eq_true rfl) rfl ?_
  intro κ X E B _
  have X : zX g κ RX0 cX0_fewest 5 := X
  obtain ⟨b1, b2, b3, b4, b5⟩ := hI.bnd
  have hsy : ∀ p q, mCl (F 5) (F 4) (F 6) nP a3 nS p q → mCl (F 5) (F 4) (F 6) nP a3 nS q p := fun _ _ h => h.symm
  refine V_aload_n X dX0_fewest_0 0 rfl ?_
  refine V_aload_n X dX0_fewest_1 1 rfl ?_
  refine V_aload_n X dX0_fewest_2 2 rfl ?_
  refine V_iload_n X dX0_fewest_3 3 rfl ?_
  refine V_callV (rest := []) X E.room ml_X0_82 in_X0_prepare (ci := 4) rfl se_X0_prepare (C_recv (q := 12) (by decide) rfl) (by decide) (by decide) (k_X0_prepare_x hX hI (a3) hB) rfl rfl (Nat.le_of_ble_eq_true rfl) ⟨Nat.le_refl _, Nat.le_refl _⟩ dX0_fewest_4 (fun _ _ h => False.elim h) (fun v4 σ' hp4 => ?_)
  obtain ⟨hp4, F1, rfl, hJF1, L, hP, hL⟩ := hp4
  have hKF1 : cJ F F1 := (cJ.rfl' : cJ F F).trans hJF1
  cases (hp4 : _ = none)
  show V g κ 5 0 0 (t, cW g X0 F1 σ0) 7 [(0, .ref (X0 + 12)), (1, .ref (X0 + 1)), (2, .ref (X0 + 7)), (3, .int (a3))] []
  refine V_aload_n X dX0_fewest_7 0 rfl ?_
  refine V_iconst (v := nI 5) X dX0_fewest_8 (by decide) ?_
  refine V_callV (rest := []) X E.room ml_X0_64 in_X0_canPlace (ci := 4) rfl se_X0_canPlace (C_recv (q := 12) (by decide) rfl) (by decide) (by decide) (k_X0_canPlace_x hX (hI.mv hKF1) hsy hP (5) (by omega)) rfl rfl (Nat.le_of_ble_eq_true rfl) ⟨Nat.le_refl _, Nat.le_refl _⟩ dX0_fewest_9 (fun _ _ h => False.elim h) (fun v9 σ' hp9 => ?_)
  obtain ⟨r3, rfl, hr3, F2, rfl, hJF2, hresF2⟩ := hp9
  have hKF2 : cJ F F2 := (hKF1 : cJ F F1).trans (hJF2.J s17J)
  have hPF2 := hP.mv hJF2
  show V g κ 5 0 0 (t, cW g X0 F2 σ0) 12 [(0, .ref (X0 + 12)), (1, .ref (X0 + 1)), (2, .ref (X0 + 7)), (3, .int (a3))] [.int (r3)]
  refine V_ifne X (tgt := 17) dX0_fewest_12 (by decide) (fun h4 => ?_) (fun h4 => ?_)
  · -- 12 true
    have hf5 : (mFit (mPm F nA) (mCl (F 5) (F 4) (F 6) nP a3 nS) (mDu (F 5) a3 nS) 5) := (mFit_ext hL).mp (hresF2.elim (fun y => y.2.elim fun h z => ⟨h, z.1.1⟩) (fun y => absurd y.1 h4))
    refine V_iconst (v := nI 0) X dX0_fewest_17 (by decide) ?_
    refine V_istore X [(4, .int (nI (0))), (0, .ref (X0 + 12)), (1, .ref (X0 + 1)), (2, .ref (X0 + 7)), (3, .int (a3))] dX0_fewest_18 (by decide) rfl ?_
    have L20 : ∀ (n20 : Nat) (i20 : Nat) (G20 : Nat → Nat → Int32), n20 = 5 - i20 → i20 ≤ 5 → cJ F G20 → cPr G20 (mPm F nA) (mCl (F 5) (F 4) (F 6) nP a3 nS) L → (∀ j, j < i20 → ¬ (mFit (mPm F nA) (mCl (F 5) (F 4) (F 6) nP a3 nS) (mDu (F 5) a3 nS) j)) → V g κ 5 0 0 (t, cW g X0 G20 σ0) 20 [(4, .int (nI (i20))), (0, .ref (X0 + 12)), (1, .ref (X0 + 1)), (2, .ref (X0 + 7)), (3, .int (a3))] [] := by
      intro n20
      induction n20 using Nat.strongRecOn with
      | ind n20 ih20 =>
        intro i20 G20 hn20 hi20 hJ20 hv20_0 hv20_1
        refine V_iload X dX0_fewest_20 0 rfl ?_
        refine V_iconst (v := nI 5) X dX0_fewest_22 (by decide) ?_
        refine V_icmpgeN X (by omega) (by omega) (tgt := 44) dX0_fewest_23 (by decide) (fun h6 => ?_) (fun h6 => ?_)
        · -- 23 true
          refine V_iconst (v := nI 5) X dX0_fewest_44 (by decide) ?_
          exact V_iret X E (Nat.zero_le _) (Nat.zero_le _) ⟨_, rfl, Or.inr ⟨5, Nat.le_refl _, rfl, hf5, fun j hj => hv20_1 j (by omega)⟩, _, rfl, hJ20, fun p hp => (hv20_0.2.2.2.2 p ((hL p).mpr hp)).2⟩ dX0_fewest_45
        · -- 23 false
          refine V_aload_n X dX0_fewest_26 1 rfl ?_
          refine V_iload X dX0_fewest_27 0 rfl ?_
          refine V_callV (rest := []) X E.room ml_X0_64 in_X0_canPlace (ci := 4) rfl se_X0_canPlace (C_recv (q := 12) (by decide) rfl) (by decide) (by decide) (k_X0_canPlace_x hX (hI.mv hJ20) hsy hv20_0 (i20) (by omega)) rfl rfl (Nat.le_of_ble_eq_true rfl) ⟨Nat.le_refl _, Nat.le_refl _⟩ dX0_fewest_29 (fun _ _ h => False.elim h) (fun v29 σ' hp29 => ?_)
          obtain ⟨r8, rfl, hr8, F7, rfl, hJF7, hresF7⟩ := hp29
          have hKF7 : cJ F F7 := (hJ20 : cJ F G20).trans (hJF7.J s17J)
          have hPF7 := hv20_0.mv hJF7
          show V g κ 5 0 0 (t, cW g X0 F7 σ0) 32 [(4, .int (nI (i20))), (0, .ref (X0 + 12)), (1, .ref (X0 + 1)), (2, .ref (X0 + 7)), (3, .int (a3))] [.int (r8)]
          refine V_ifeq X (tgt := 38) dX0_fewest_32 (by decide) (fun h9 => ?_) (fun h9 => ?_)
          · -- 32 true
            have hf10 : ¬ (mFit (mPm F nA) (mCl (F 5) (F 4) (F 6) nP a3 nS) (mDu (F 5) a3 nS) i20) := fun z => ((mFit_ext hL).mpr z).elim ((hresF7.resolve_left (fun y => y.1 h9)).2)
            refine V_iinc X (nI (i20 + 1)) [(4, .int (nI (i20 + 1))), (0, .ref (X0 + 12)), (1, .ref (X0 + 1)), (2, .ref (X0 + 7)), (3, .int (a3))] dX0_fewest_38 0 rfl (zinc _) (by decide) rfl ?_
            refine V_goto (tgt := 20) X dX0_fewest_41 (by decide) ?_
            exact V.sub [0, 1, 2, 3, 4] rfl (ih20 _ (by omega) (i20 + 1) F7 rfl (by omega) hKF7 (hPF7) (fun j hj => (Nat.lt_succ_iff_lt_or_eq.mp hj).elim (hv20_1 j) (fun e => by rw [e]; exact hf10)))
          · -- 32 false
            have hf11 : (mFit (mPm F nA) (mCl (F 5) (F 4) (F 6) nP a3 nS) (mDu (F 5) a3 nS) i20) := (mFit_ext hL).mp (hresF7.elim (fun y => y.2.elim fun h z => ⟨h, z.1.1⟩) (fun y => absurd y.1 h9))
            refine V_iload X dX0_fewest_35 0 rfl ?_
            exact V_iret X E (Nat.zero_le _) (Nat.zero_le _) ⟨_, rfl, Or.inr ⟨i20, by omega, rfl, hf11, hv20_1⟩, _, rfl, hKF7, fun p hp => (hPF7.2.2.2.2 p ((hL p).mpr hp)).2⟩ dX0_fewest_37
    exact L20 _ 0 F2 rfl (by omega) hKF2 (hPF2) (fun j hj => absurd hj (Nat.not_lt_zero j))
  · -- 12 false
    have hf12 : ¬ (mFit (mPm F nA) (mCl (F 5) (F 4) (F 6) nP a3 nS) (mDu (F 5) a3 nS) 5) := fun z => ((mFit_ext hL).mpr z).elim ((hresF2.resolve_left (fun y => y.1 h4)).2)
    refine V_iconst (v := (-1)) X dX0_fewest_15 (by decide) ?_
    exact V_iret X E (Nat.zero_le _) (Nat.zero_le _) ⟨_, rfl, Or.inl ⟨rfl, hf12⟩, _, rfl, hKF2, fun p hp => (hPF2.2.2.2.2 p ((hL p).mpr hp)).2⟩ dX0_fewest_16
set_option maxRecDepth 100000 in
set_option maxHeartbeats 4000000 in
theorem k_X0_clashesOf_x {g : zG} {t : Nat × Nat} {X0 : Nat} {σ0 : Nat → Option va_E} {F : Nat → Nat → Int32} (hX : g.2.1.size ≤ X0) {nP nS nA nC nT : Nat} (hI : cI nP nS nA nC nT F) (b : Nat) (hb : b < 7) (hB : cBd nP nS nA F) : Ct g 13 yX0_clashesOf cX0_clashesOf 3 (some FieldType.int) 0 0 [.ref (X0 + 12), .int (nI (b)), .ref (X0 + 1)] (t, cW g X0 F σ0) (fun v σ' => ∃ x : Int32, v = some (.int x) ∧ zMk x (mCl (F 5) (F 4) (F 6) nP (nI (2 ^ nS - 1)) nS b) ∧ ∃ F' : Nat → Nat → Int32, σ' = (t, cW g X0 F' σ0) ∧ cJ F F') zNo := by
  refine Ct.of (lv := [(0, .ref (X0 + 12)), (1, .int (nI (b))), (2, .ref (X0 + 1))]) (by decide) (Nat.le_of_ble_eq_true rfl) rfl ?_
  intro κ X E B _
  have X : zX g κ RX0 cX0_clashesOf 3 := X
  obtain ⟨b1, b2, b3, b4, b5⟩ := hI.bnd
  refine V_aload_n X dX0_clashesOf_0 2 rfl ?_
  refine V_aload_n X dX0_clashesOf_1 2 rfl ?_
  refine V_callV (rest := [.ref (X0 + 1)]) X E.room ml_X0_31 in_X2_allScenes (ci := 6) rfl se_X2_allScenes (C_recv (q := 1) (by decide) rfl) (by decide) (by decide) (k_X2_allScenes hX hI) rfl rfl (Nat.le_of_ble_eq_true rfl) ⟨Nat.le_refl _, Nat.le_refl _⟩ dX0_clashesOf_2 (fun _ _ h => False.elim h) (fun v2 σ' hp2 => ?_)
  obtain ⟨hp2, rfl⟩ := hp2
  cases (hp2 : _ = some (Value.int (nI (2 ^ nS - 1))))
  show V g κ 3 0 0 (t, cW g X0 F σ0) 5 [(0, .ref (X0 + 12)), (1, .int (nI (b))), (2, .ref (X0 + 1))] [.int (nI (2 ^ nS - 1)), .ref (X0 + 1)]
  refine V_aload_n X dX0_clashesOf_5 0 rfl ?_
  refine C_getf X fl_X0_18 12 (by decide) rfl rfl dX0_clashesOf_6 ?_
  refine V_callV (rest := []) X E.room ml_X0_90 in_X2_fillClashes (ci := 6) rfl se_X2_fillClashes (C_recv (q := 1) (by decide) rfl) (by decide) (by decide) (k_X2_fillClashes_x hX hI (nI (2 ^ nS - 1)) hB) rfl rfl (Nat.le_of_ble_eq_true rfl) ⟨Nat.le_refl _, Nat.le_refl _⟩ dX0_clashesOf_9 (fun _ _ h => False.elim h) (fun v9 σ' hp9 => ?_)
  obtain ⟨hp9, F1, rfl, hJF1, hVF1⟩ := hp9
  have hKF1 : cJ F F1 := hJF1.J s15J
  cases (hp9 : _ = none)
  show V g κ 3 0 0 (t, cW g X0 F1 σ0) 12 [(0, .ref (X0 + 12)), (1, .int (nI (b))), (2, .ref (X0 + 1))] []
  refine V_aload_n X dX0_clashesOf_12 0 rfl ?_
  refine C_getf X fl_X0_18 12 (by decide) rfl rfl dX0_clashesOf_13 ?_
  refine V_iload_n X dX0_clashesOf_16 1 rfl ?_
  refine C_iald X (N := 7) 15 (by decide) (b) rfl (by omega) (by decide) rfl dX0_clashesOf_17 ?_
  refine V.topi (fun x2 ex2 => ?_)
  exact V_iret X E (Nat.zero_le _) (Nat.zero_le _) ⟨_, rfl, by rw [ex2]; exact hVF1 b hb, _, rfl, hKF1⟩ dX0_clashesOf_18
set_option maxRecDepth 100000 in
set_option maxHeartbeats 4000000 in
theorem k_X0_orderByNumber_x {g : zG} {t : Nat × Nat} {X0 : Nat} {σ0 : Nat → Option va_E} {F : Nat → Nat → Int32} (hX : g.2.1.size ≤ X0) {nP nS nA nC nT : Nat} (hI : cI nP nS nA nC nT F) (a1 : Int32) (D : Nat → Prop) (hz : zMk a1 D) : Ct g 11 yX0_orderByNumber cX0_orderByNumber 3 none 0 0 [.ref (X0 + 12), .int (a1)] (t, cW g X0 F σ0) (fun v σ' => v = none ∧ ∃ F' : Nat → Nat → Int32, σ' = (t, cW g X0 F' σ0) ∧ cRw sOr F F' ∧ mOn F' (dL D 7 0)) zNo := by
  refine Ct.of (lv := [(0, .ref (X0 + 12)), (1, .int (a1))]) (by decide) (Nat.le_of_ble_eq_true rfl) rfl ?_
  intro κ X E B _
  have X : zX g κ RX0 cX0_orderByNumber 3 := X
  obtain ⟨b1, b2, b3, b4, b5⟩ := hI.bnd
  refine V_aload_n X dX0_orderByNumber_0 0 rfl ?_
  refine V_iconst (v := nI 0) X dX0_orderByNumber_1 (by decide) ?_
  refine C_putf X fl_X0_108 zt_X0 12 (by decide) hX rfl (Nat.le_of_ble_eq_true rfl) rfl rfl rfl rfl rfl dX0_orderByNumber_2 (fun F1 hF1 => ?_)
  have hJF1 := (cRw.rfl' : cRw sOr F F).set hF1 rfl
  refine V_iconst (v := nI 0) X dX0_orderByNumber_5 (by decide) ?_
  refine V_istore_n X [(2, .int (nI (0))), (0, .ref (X0 + 12)), (1, .int (a1))] dX0_orderByNumber_6 (by decide) rfl ?_
  have L7 : ∀ (n7 : Nat) (i7 : Nat) (G7 : Nat → Nat → Int32), n7 = 7 - i7 → i7 ≤ 7 → cRw sOr F G7 → mOn G7 (dL D i7 0) → V g κ 3 0 0 (t, cW g X0 G7 σ0) 7 [(2, .int (nI (i7))), (0, .ref (X0 + 12)), (1, .int (a1))] [] := by
    intro n7
    induction n7 using Nat.strongRecOn with
    | ind n7 ih7 =>
      intro i7 G7 hn7 hi7 hJ7 hv7_0
      refine V_iload_n X dX0_orderByNumber_7 0 rfl ?_
      refine V_bipush (v := nI 7) X dX0_orderByNumber_8 (by decide) ?_
      refine V_icmpgeN X (by omega) (by omega) (tgt := 47) dX0_orderByNumber_10 (by decide) (fun h2 => ?_) (fun h2 => ?_)
      · -- 10 true
        exact V_vret X E (Nat.zero_le _) (Nat.zero_le _) ⟨rfl, _, rfl, hJ7, by obtain rfl : i7 = 7 := (by omega); exact hv7_0⟩ dX0_orderByNumber_47
      · -- 10 false
        refine V_iload_n X dX0_orderByNumber_13 2 rfl ?_
        refine V_iload_n X dX0_orderByNumber_14 0 rfl ?_
        refine V_callSN (rest := []) X E.room ml_X0_86 st_X5_has (by omega) (by decide) (k_X5_has (σ := (t, cW g X0 G7 σ0)) (a1) (nI (i7))) rfl rfl (Nat.le_of_ble_eq_true rfl) ⟨Nat.le_refl _, Nat.le_refl _⟩ dX0_orderByNumber_15 (fun _ _ h => False.elim h) (fun v15 σ' hp15 => ?_)
        obtain ⟨hp15, rfl⟩ := hp15
        obtain ⟨r3, rfl, hr3, fr3⟩ := hp15
        show V g κ 3 0 0 (t, cW g X0 G7 σ0) 18 [(2, .int (nI (i7))), (0, .ref (X0 + 12)), (1, .int (a1))] [.int (r3)]
        refine V_ifeq X (tgt := 41) dX0_orderByNumber_18 (by decide) (fun h4 => ?_) (fun h4 => ?_)
        · -- 18 true
          have zh4 := mt fr3.mpr (not_not_intro h4)
          refine V_iinc X (nI (i7 + 1)) [(2, .int (nI (i7 + 1))), (0, .ref (X0 + 12)), (1, .int (a1))] dX0_orderByNumber_41 0 rfl (zinc _) (by decide) rfl ?_
          refine V_goto (tgt := 7) X dX0_orderByNumber_44 (by decide) ?_
          exact V.sub [0, 1, 2] rfl (ih7 _ (by omega) (i7 + 1) G7 rfl (by omega) hJ7 (by rw [dL_n0 (fun q => zh4 ((hz.In (by omega)).mpr q))]; exact hv7_0))
        · -- 18 false
          have zh4 := fr3.mp h4
          refine V_aload_n X dX0_orderByNumber_21 1 rfl ?_
          refine C_getf X fl_X0_21 12 (by decide) rfl rfl dX0_orderByNumber_22 ?_
          refine V_aload_n X dX0_orderByNumber_25 1 rfl ?_
          have hlen := dL_len (D := D) i7 0
          refine C_getfN (z := nI ((dL D i7 0).length)) X fl_X0_108 12 (by decide) rfl rfl hv7_0.2.1 dX0_orderByNumber_26 ?_
          refine V_iload_n X dX0_orderByNumber_29 0 rfl ?_
          refine C_iast X (N := 7) 16 (by decide) hX ((dL D i7 0).length) rfl (by omega) (by decide) (fun _ => rfl) dX0_orderByNumber_30 (fun F5 hF5 => ?_)
          have hJF5 := (hJ7 : cRw sOr F G7).set hF5 rfl
          refine V_aload_n X dX0_orderByNumber_31 1 rfl ?_
          refine V_dup X dX0_orderByNumber_32 rfl ?_
          refine C_getfN (z := nI ((dL D i7 0).length)) X fl_X0_108 12 (by decide) rfl rfl (by rw [hF5, fset_ne (Or.inl (by decide))]; exact hv7_0.2.1) dX0_orderByNumber_33 ?_
          refine V_iconst (v := nI 1) X dX0_orderByNumber_36 (by decide) ?_
          refine V_iaddN X dX0_orderByNumber_37 ?_
          refine C_putf X fl_X0_108 zt_X0 12 (by decide) hX rfl (Nat.le_of_ble_eq_true rfl) rfl rfl rfl rfl rfl dX0_orderByNumber_38 (fun F6 hF6 => ?_)
          have hJF6 := (hJF5 : cRw sOr F F5).set hF6 rfl
          refine V_iinc X (nI (i7 + 1)) [(2, .int (nI (i7 + 1))), (0, .ref (X0 + 12)), (1, .int (a1))] dX0_orderByNumber_41 0 rfl (zinc _) (by decide) rfl ?_
          refine V_goto (tgt := 7) X dX0_orderByNumber_44 (by decide) ?_
          exact V.sub [0, 1, 2] rfl (ih7 _ (by omega) (i7 + 1) F6 rfl (by omega) hJF6 (by rw [dL_n1 ((hz.In (by omega)).mp zh4)]; exact hv7_0.step (by omega) hF5 hF6))
  exact L7 _ 0 F1 rfl (by omega) hJF1 (mOn.zero hF1)
set_option maxRecDepth 100000 in
set_option maxHeartbeats 4000000 in
theorem k_X0_keepFirst_x {g : zG} {t : Nat × Nat} {X0 : Nat} {σ0 : Nat → Option va_E} {F : Nat → Nat → Int32} (hX : g.2.1.size ≤ X0) {nP nS nA nC nT : Nat} (hI : cI nP nS nA nC nT F) (sp : Nat → Int32) (e5 : F 5 = sp) (pm C : Nat → Nat → Prop) (hs : ∀ p q, C p q → C q p) (k : Nat) (hk : k ≤ 5) (e1 : F 12 1 = nI k) (hab : ∀ p, (mDu sp (nI (2 ^ nS - 1)) nS) p → zMk (F 15 p) (C p) ∧ zMk (F 14 p) (fun i => pm i p)) (hf : mFit pm C (mDu sp (nI (2 ^ nS - 1)) nS) k) : Ct g 20 yX0_keepFirst cX0_keepFirst 2 none 0 0 [.ref (X0 + 12), .ref (X0 + 1)] (t, cW g X0 F σ0) (fun v σ' => v = none ∧ ∃ F' : Nat → Nat → Int32, σ' = (t, cW g X0 F' σ0) ∧ cRw sKe F F' ∧ ∃ h : Nat → Nat, mFirst pm C (dL (mDu sp (nI (2 ^ nS - 1)) nS) 7 0) (fun _ _ => False) k h ∧ ∀ i, i < 5 → zMk (F' 13 i) (fun q => (mDu sp (nI (2 ^ nS - 1)) nS) q ∧ h q = i)) zNo := by
  refine Ct.of (lv := [(0, .ref (X0 + 12)), (1, .ref (X0 + 1))]) (by decide) (Nat.le_of_ble_eq_true rfl) rfl ?_
  intro κ X E B _
  have X : zX g κ RX0 cX0_keepFirst 2 := X
  obtain ⟨b1, b2, b3, b4, b5⟩ := hI.bnd
  refine V_aload_n X dX0_keepFirst_0 0 rfl ?_
  refine V_aload_n X dX0_keepFirst_1 1 rfl ?_
  refine V_aload_n X dX0_keepFirst_2 1 rfl ?_
  refine V_callV (rest := [.ref (X0 + 1), .ref (X0 + 12)]) X E.room ml_X0_31 in_X2_allScenes (ci := 6) rfl se_X2_allScenes (C_recv (q := 1) (by decide) rfl) (by decide) (by decide) (k_X2_allScenes hX hI) rfl rfl (Nat.le_of_ble_eq_true rfl) ⟨Nat.le_refl _, Nat.le_refl _⟩ dX0_keepFirst_3 (fun _ _ h => False.elim h) (fun v3 σ' hp3 => ?_)
  obtain ⟨hp3, rfl⟩ := hp3
  cases (hp3 : _ = some (Value.int (nI (2 ^ nS - 1))))
  show V g κ 2 0 0 (t, cW g X0 F σ0) 6 [(0, .ref (X0 + 12)), (1, .ref (X0 + 1))] [.int (nI (2 ^ nS - 1)), .ref (X0 + 1), .ref (X0 + 12)]
  refine V_callV (rest := [.ref (X0 + 12)]) X E.room ml_X0_56 in_X2_partsOf (ci := 6) rfl se_X2_partsOf (C_recv (q := 1) (by decide) rfl) (by decide) (by decide) (k_X2_partsOf hX hI (nI (2 ^ nS - 1))) rfl rfl (Nat.le_of_ble_eq_true rfl) ⟨Nat.le_refl _, Nat.le_refl _⟩ dX0_keepFirst_6 (fun _ _ h => False.elim h) (fun v6 σ' hp6 => ?_)
  obtain ⟨hp6, rfl⟩ := hp6
  obtain ⟨r1, rfl, fr1⟩ := hp6
  show V g κ 2 0 0 (t, cW g X0 F σ0) 9 [(0, .ref (X0 + 12)), (1, .ref (X0 + 1))] [.int (r1), .ref (X0 + 12)]
  refine V_callV (rest := []) X E.room ml_X0_60 in_X0_orderByNumber (ci := 4) rfl se_X0_orderByNumber (C_recv (q := 12) (by decide) rfl) (by decide) (by decide) (k_X0_orderByNumber_x hX hI (r1) (mDu sp (nI (2 ^ nS - 1)) nS) (by rw [← e5]; exact fr1)) rfl rfl (Nat.le_of_ble_eq_true rfl) ⟨Nat.le_refl _, Nat.le_refl _⟩ dX0_keepFirst_9 (fun _ _ h => False.elim h) (fun v9 σ' hp9 => ?_)
  obtain ⟨hp9, F2, rfl, hJF2, hVF2⟩ := hp9
  have hKF2 : cRw sKe F F2 := cRw.sub sOrK hJF2
  cases (hp9 : _ = none)
  show V g κ 2 0 0 (t, cW g X0 F2 σ0) 12 [(0, .ref (X0 + 12)), (1, .ref (X0 + 1))] []
  refine V_aload_n X dX0_keepFirst_12 0 rfl ?_
  refine V_aload_n X dX0_keepFirst_13 0 rfl ?_
  refine C_getfN (z := nI (k)) X fl_X0_41 12 (by decide) rfl rfl ((hJF2 12 1 rfl).trans e1) dX0_keepFirst_14 ?_
  have hP : cPr F2 pm C (dL (mDu sp (nI (2 ^ nS - 1)) nS) 7 0) := ⟨dL_nodup 7 0, hVF2.1, hVF2.2.1, hVF2.2.2, fun p hp => ⟨by have := ((dL_mem 7 0 p).mp hp).2.1; omega, by rw [hJF2 15 p rfl]; exact (hab p ((dL_mem 7 0 p).mp hp).2.2).1, by rw [hJF2 14 p rfl]; exact (hab p ((dL_mem 7 0 p).mp hp).2.2).2⟩⟩
  refine V_callV (rest := []) X E.room ml_X0_64 in_X0_canPlace (ci := 4) rfl se_X0_canPlace (C_recv (q := 12) (by decide) rfl) (by decide) (by decide) (k_X0_canPlace_x hX (hI.mvW (cRw.sub sKeW hKF2)) hs hP k hk) rfl rfl (Nat.le_of_ble_eq_true rfl) ⟨Nat.le_refl _, Nat.le_refl _⟩ dX0_keepFirst_17 (fun _ _ h => False.elim h) (fun v17 σ' hp17 => ?_)
  obtain ⟨r4, rfl, hr4, F3, rfl, hJF3, hres⟩ := hp17
  have hKF3 : cRw sKe F F3 := (hKF2 : cRw sKe F F2).trans (cRw.sub s17K hJF3)
  show V g κ 2 0 0 (t, cW g X0 F3 σ0) 20 [(0, .ref (X0 + 12)), (1, .ref (X0 + 1))] [.int (r4)]
  refine V_ifeq X (tgt := 37) dX0_keepFirst_20 (by decide) (fun h5 => ?_) (fun h5 => ?_)
  · -- 20 true
    exact absurd ((mFit_ext (fun p => (dL_mem 7 0 p).trans ⟨fun q => q.2.2, fun q => ⟨Nat.zero_le _, by have := q.1; omega, q⟩⟩)).mpr hf) (fun ⟨y, z⟩ => (hres.resolve_left (fun y => y.1 h5)).2 y z)
  · -- 20 false
    obtain ⟨hh, hfi, hro⟩ := (hres.resolve_right (fun y => h5 y.1)).2
    refine V_aload_n X dX0_keepFirst_23 0 rfl ?_
    refine C_getf X fl_X0_24 12 (by decide) rfl rfl dX0_keepFirst_24 ?_
    refine V_iconst (v := nI 0) X dX0_keepFirst_27 (by decide) ?_
    refine V_aload_n X dX0_keepFirst_28 0 rfl ?_
    refine C_getf X fl_X0_9 12 (by decide) rfl rfl dX0_keepFirst_29 ?_
    refine V_iconst (v := nI 0) X dX0_keepFirst_32 (by decide) ?_
    refine V_iconst (v := nI 5) X dX0_keepFirst_33 (by decide) ?_
    refine C_copy0 X E.room (by decide) ac_X0_68 ac_native ac_static nz_J10 hX (Nat.le_of_ble_eq_true rfl) dX0_keepFirst_34 (fun F6 hF6 => ?_)
    have hJF6 : cRw sKe F F6 := fun a b hab => by
      rw [hF6, frow_ne (fun e => by rw [e, sKe_t (by omega)] at hab; cases hab), hKF3 a b hab]
    have hro13 : ∀ i, i < 5 → zMk (F6 13 i) (fun q => (mDu sp (nI (2 ^ nS - 1)) nS) q ∧ hh q = i) := fun i hi => by
      rw [hF6, frow_eq]
      unfold va_cpy
      rw [if_pos ⟨Nat.zero_le _, by omega⟩, Nat.sub_zero, Nat.zero_add]
      exact (hro i hi).cg (fun q => and_congr_left (fun _ => (dL_mem 7 0 q).trans ⟨fun z => z.2.2, fun z => ⟨Nat.zero_le _, by have := z.1; omega, z⟩⟩))
    exact V_vret X E (Nat.zero_le _) (Nat.zero_le _) ⟨rfl, _, rfl, hJF6, hh, hfi, hro13⟩ dX0_keepFirst_37
set_option maxRecDepth 100000 in
set_option maxHeartbeats 4000000 in
theorem k_X0_fewestCut_x {g : zG} {t : Nat × Nat} {X0 : Nat} {σ0 : Nat → Option va_E} {F : Nat → Nat → Int32} (hX : g.2.1.size ≤ X0) {nP nS nA nC nT : Nat} (hI : cI nP nS nA nC nT F) (hB : cBd nP nS nA F) : Ct g 20 yX0_fewestCut cX0_fewestCut 5 (some FieldType.int) 0 0 [.ref (X0 + 12), .ref (X0 + 1), .ref (X0 + 7)] (t, cW g X0 F σ0) (fun v σ' => ∃ x : Int32, v = some (.int x) ∧ mCut (fun u => zFC nP nS nA F (zLf nS u) 5) nS x ∧ ∃ F' : Nat → Nat → Int32, σ' = (t, cW g X0 F' σ0) ∧ cJ F F') zNo := by
  refine Ct.of (lv := [(0, .ref (X0 + 12)), (1, .ref (X0 + 1)), (2, .ref (X0 + 7))]) (by decide) (Nat.le_of_ble_eq_true rfl) rfl ?_
  intro κ X E B _
  have X : zX g κ RX0 cX0_fewestCut 5 := X
  obtain ⟨b1, b2, b3, b4, b5⟩ := hI.bnd
  have h64 : 2 ^ nS ≤ 64 := zp2 (n := 6) (by omega)
  have h1 := Nat.one_le_two_pow (n := nS)
  refine V_iconst (v := nI 0) X dX0_fewestCut_0 (by decide) ?_
  refine V_istore_n X [(3, .int (nI (0))), (0, .ref (X0 + 12)), (1, .ref (X0 + 1)), (2, .ref (X0 + 7))] dX0_fewestCut_1 (by decide) rfl ?_
  have L2 : ∀ (n2 : Nat) (i2 : Nat) (G2 : Nat → Nat → Int32), n2 = nS - i2 → i2 ≤ nS → cJ F G2 → (∀ u, u < 2 ^ nS → zFC nP nS nA F (zLf nS u) 5 → i2 ≤ zpc u) → V g κ 5 0 0 (t, cW g X0 G2 σ0) 2 [(3, .int (nI (i2))), (0, .ref (X0 + 12)), (1, .ref (X0 + 1)), (2, .ref (X0 + 7))] [] := by
    intro n2
    induction n2 using Nat.strongRecOn with
    | ind n2 ih2 =>
      intro i2 G2 hn2 hi2 hJ2 hv2_0
      refine V_iload_n X dX0_fewestCut_2 0 rfl ?_
      refine V_aload_n X dX0_fewestCut_3 2 rfl ?_
      refine C_getfN (z := nI (nS)) X fl_X0_74 1 (by decide) rfl rfl (hI.mv hJ2).f1_6 dX0_fewestCut_4 ?_
      refine V_icmpgeN X (by omega) (by omega) (tgt := 74) dX0_fewestCut_7 (by decide) (fun h1 => ?_) (fun h1 => ?_)
      · -- 7 true
        refine V_aload_n X dX0_fewestCut_74 2 rfl ?_
        refine V_callV (rest := []) X E.room ml_X0_31 in_X2_allScenes (ci := 6) rfl se_X2_allScenes (C_recv (q := 1) (by decide) rfl) (by decide) (by decide) (k_X2_allScenes hX (hI.mv hJ2)) rfl rfl (Nat.le_of_ble_eq_true rfl) ⟨Nat.le_refl _, Nat.le_refl _⟩ dX0_fewestCut_75 (fun _ _ h => False.elim h) (fun v75 σ' hp75 => ?_)
        obtain ⟨hp75, rfl⟩ := hp75
        cases (hp75 : _ = some (Value.int (nI (2 ^ nS - 1))))
        show V g κ 5 0 0 (t, cW g X0 G2 σ0) 78 [(3, .int (nI (i2))), (0, .ref (X0 + 12)), (1, .ref (X0 + 1)), (2, .ref (X0 + 7))] [.int (nI (2 ^ nS - 1))]
        exact V_iret X E (Nat.zero_le _) (Nat.zero_le _) ⟨_, rfl, mCut_all (by omega) (by show zFC nP nS nA F (zLf nS (2 ^ nS - 1)) 5; unfold zFC; rw [zLf_all nS (by omega)]; exact mFit_no (fun p => mDu_zero)) (fun u hu hp => by have := hv2_0 u hu hp; omega), _, rfl, hJ2⟩ dX0_fewestCut_78
      · -- 7 false
        refine V_iconst (v := nI 0) X dX0_fewestCut_10 (by decide) ?_
        refine V_istore X [(4, .int (nI (0))), (3, .int (nI (i2))), (0, .ref (X0 + 12)), (1, .ref (X0 + 1)), (2, .ref (X0 + 7))] dX0_fewestCut_11 (by decide) rfl ?_
        have L13 : ∀ (n13 : Nat) (i13 : Nat) (G13 : Nat → Nat → Int32), n13 = (2 ^ nS) - i13 → i13 ≤ (2 ^ nS) → cJ F G13 → (∀ u, u < i13 → zpc u = i2 → ¬ zFC nP nS nA F (zLf nS u) 5) → V g κ 5 0 0 (t, cW g X0 G13 σ0) 13 [(4, .int (nI (i13))), (3, .int (nI (i2))), (0, .ref (X0 + 12)), (1, .ref (X0 + 1)), (2, .ref (X0 + 7))] [] := by
          intro n13
          induction n13 using Nat.strongRecOn with
          | ind n13 ih13 =>
            intro i13 G13 hn13 hi13 hJ13 hv13_0
            refine V_iload X dX0_fewestCut_13 0 rfl ?_
            refine V_iconst (v := nI 1) X dX0_fewestCut_15 (by decide) ?_
            refine V_aload_n X dX0_fewestCut_16 3 rfl ?_
            refine C_getfN (z := nI (nS)) X fl_X0_74 1 (by decide) rfl rfl (hI.mv hJ13).f1_6 dX0_fewestCut_17 ?_
            refine V_ishl1 X (by omega) dX0_fewestCut_20 ?_
            refine V_icmpgeN X (by omega) (by omega) (tgt := 68) dX0_fewestCut_21 (by decide) (fun h2 => ?_) (fun h2 => ?_)
            · -- 21 true
              refine V_iinc X (nI (i2 + 1)) [(3, .int (nI (i2 + 1))), (4, .int (nI (i13))), (0, .ref (X0 + 12)), (1, .ref (X0 + 1)), (2, .ref (X0 + 7))] dX0_fewestCut_68 1 rfl (zinc _) (by decide) rfl ?_
              refine V_goto (tgt := 2) X dX0_fewestCut_71 (by decide) ?_
              exact V.sub [0, 2, 3, 4] rfl (ih2 _ (by omega) (i2 + 1) G13 rfl (by omega) hJ13 (fun u hu hq => by have a := hv2_0 u hu hq; have b : zpc u ≠ i2 := fun e => hv13_0 u (by omega) e hq; omega))
            · -- 21 false
              refine V_iload X dX0_fewestCut_24 0 rfl ?_
              refine V_callS (rest := []) X E.room ml_X0_77 st_J6_bitCount_0f7a4 (by omega) (by decide) (k_J6_bitCount_0f7a4 (σ := (t, cW g X0 G13 σ0)) (nI (i13))) rfl rfl (Nat.le_of_ble_eq_true rfl) ⟨Nat.le_refl _, Nat.le_refl _⟩ dX0_fewestCut_26 (fun _ _ h => False.elim h) (fun v26 σ' hp26 => ?_)
              obtain ⟨hp26, rfl⟩ := hp26
              cases (hp26 : _ = some (Value.int (zbc (nI (i13)))))
              show V g κ 5 0 0 (t, cW g X0 G13 σ0) 29 [(4, .int (nI (i13))), (3, .int (nI (i2))), (0, .ref (X0 + 12)), (1, .ref (X0 + 1)), (2, .ref (X0 + 7))] [.int (zbc (nI (i13)))]
              refine V_iload_n X dX0_fewestCut_29 1 rfl ?_
              refine V_icmpeq X (tgt := 36) dX0_fewestCut_30 (by decide) (fun h3 => ?_) (fun h3 => ?_)
              · -- 30 true
                have hzp : zpc i13 = i2 := (nI_eq (by have := zpc_7 i13 (by omega); omega) (by omega)).mp ((zbc_zpc i13 (by omega)).symm.trans h3)
                refine V_aload_n X dX0_fewestCut_36 2 rfl ?_
                refine V_aload_n X dX0_fewestCut_37 3 rfl ?_
                refine V_aload_n X dX0_fewestCut_38 4 rfl ?_
                refine V_aload_n X dX0_fewestCut_39 3 rfl ?_
                refine V_callV (rest := [.ref (X0 + 7), .ref (X0 + 1), .ref (X0 + 12)]) X E.room ml_X0_31 in_X2_allScenes (ci := 6) rfl se_X2_allScenes (C_recv (q := 1) (by decide) rfl) (by decide) (by decide) (k_X2_allScenes hX (hI.mv hJ13)) rfl rfl (Nat.le_of_ble_eq_true rfl) ⟨Nat.le_refl _, Nat.le_refl _⟩ dX0_fewestCut_40 (fun _ _ h => False.elim h) (fun v40 σ' hp40 => ?_)
                obtain ⟨hp40, rfl⟩ := hp40
                cases (hp40 : _ = some (Value.int (nI (2 ^ nS - 1))))
                show V g κ 5 0 0 (t, cW g X0 G13 σ0) 43 [(4, .int (nI (i13))), (3, .int (nI (i2))), (0, .ref (X0 + 12)), (1, .ref (X0 + 1)), (2, .ref (X0 + 7))] [.int (nI (2 ^ nS - 1)), .ref (X0 + 7), .ref (X0 + 1), .ref (X0 + 12)]
                refine V_iload X dX0_fewestCut_43 0 rfl ?_
                refine V_iconst (v := (-1)) X dX0_fewestCut_45 (by decide) ?_
                refine V_ixor X dX0_fewestCut_46 (V.topi (fun w4 ew4 => ?_))
                refine V_iandL X (by omega) dX0_fewestCut_47 (fun j5 hj5 ej5 => ?_)
                refine V_callV (rest := []) X E.room ml_X0_82 in_X0_prepare (ci := 4) rfl se_X0_prepare (C_recv (q := 12) (by decide) rfl) (by decide) (by decide) (k_X0_prepare_x hX (hI.mv hJ13) (nI (j5)) (hB.mv hJ13)) rfl rfl (Nat.le_of_ble_eq_true rfl) ⟨Nat.le_refl _, Nat.le_refl _⟩ dX0_fewestCut_48 (fun _ _ h => False.elim h) (fun v48 σ' hp48 => ?_)
                obtain ⟨hp48, F6, rfl, hJF6, L, hP, hL⟩ := hp48
                have hKF6 : cJ F F6 := (hJ13 : cJ F G13).trans hJF6
                rw [mPm_eq (F := F) (F' := G13) (funext fun j => hJ13 8 j (by simp [scr])) (funext fun j => hJ13 2 j (by simp [scr])) (hJ13 7 5 rfl), show G13 5 = F 5 from funext fun j => hJ13 5 j (by simp [scr]), show G13 4 = F 4 from funext fun j => hJ13 4 j (by simp [scr]), show G13 6 = F 6 from funext fun j => hJ13 6 j (by simp [scr])] at hP
                rw [show G13 5 = F 5 from funext fun j => hJ13 5 j (by simp [scr])] at hL
                cases (hp48 : _ = none)
                show V g κ 5 0 0 (t, cW g X0 F6 σ0) 51 [(4, .int (nI (i13))), (3, .int (nI (i2))), (0, .ref (X0 + 12)), (1, .ref (X0 + 1)), (2, .ref (X0 + 7))] []
                refine V_aload_n X dX0_fewestCut_51 2 rfl ?_
                refine V_iconst (v := nI 5) X dX0_fewestCut_52 (by decide) ?_
                refine V_callV (rest := []) X E.room ml_X0_64 in_X0_canPlace (ci := 4) rfl se_X0_canPlace (C_recv (q := 12) (by decide) rfl) (by decide) (by decide) (k_X0_canPlace_x hX (hI.mv hKF6) (fun _ _ h => h.symm) hP 5 (by omega)) rfl rfl (Nat.le_of_ble_eq_true rfl) ⟨Nat.le_refl _, Nat.le_refl _⟩ dX0_fewestCut_53 (fun _ _ h => False.elim h) (fun v53 σ' hp53 => ?_)
                obtain ⟨r8, rfl, hr8, F7, rfl, hJF7, hresF7⟩ := hp53
                have hKF7 : cJ F F7 := (hKF6 : cJ F F6).trans (hJF7.J s17J)
                show V g κ 5 0 0 (t, cW g X0 F7 σ0) 56 [(4, .int (nI (i13))), (3, .int (nI (i2))), (0, .ref (X0 + 12)), (1, .ref (X0 + 1)), (2, .ref (X0 + 7))] [.int (r8)]
                refine V_ifeq X (tgt := 62) dX0_fewestCut_56 (by decide) (fun h9 => ?_) (fun h9 => ?_)
                · -- 56 true
                  have hlf : zLf nS i13 = nI (j5) := by unfold zLf; rw [← ew4, ej5]
                  have hfc : ¬ zFC nP nS nA F (zLf nS i13) 5 := by rw [hlf]; exact fun z => ((mFit_ext hL).mpr z).elim ((hresF7.resolve_left (fun y => y.1 h9)).2)
                  have hsk : zpc i13 = i2 → ¬ zFC nP nS nA F (zLf nS i13) 5 := fun _ => hfc
                  refine V_iinc X (nI (i13 + 1)) [(4, .int (nI (i13 + 1))), (3, .int (nI (i2))), (0, .ref (X0 + 12)), (1, .ref (X0 + 1)), (2, .ref (X0 + 7))] dX0_fewestCut_62 0 rfl (zinc _) (by decide) rfl ?_
                  refine V_goto (tgt := 13) X dX0_fewestCut_65 (by decide) ?_
                  exact V.sub [0, 1, 2, 3, 4] rfl (ih13 _ (by omega) (i13 + 1) F7 rfl (by omega) hKF7 (fun u hu hz => (Nat.lt_succ_iff_lt_or_eq.mp hu).elim (fun k => hv13_0 u k hz) (fun e => by rw [e] at hz ⊢; exact hsk hz)))
                · -- 56 false
                  have hlf : zLf nS i13 = nI (j5) := by unfold zLf; rw [← ew4, ej5]
                  have hfc : zFC nP nS nA F (zLf nS i13) 5 := by rw [hlf]; exact (mFit_ext hL).mp (hresF7.elim (fun y => y.2.elim fun h z => ⟨h, z.1.1⟩) (fun y => absurd y.1 h9))
                  refine V_iload X dX0_fewestCut_59 0 rfl ?_
                  exact V_iret X E (Nat.zero_le _) (Nat.zero_le _) ⟨_, rfl, mCut_of (by omega) hfc hzp hv2_0 (fun u hu e => hv13_0 u hu e), _, rfl, hKF7⟩ dX0_fewestCut_61
              · -- 30 false
                have hsk : zpc i13 = i2 → ¬ zFC nP nS nA F (zLf nS i13) 5 := fun e => absurd (by rw [zbc_zpc i13 (by omega), e]) h3
                refine V_goto (tgt := 62) X dX0_fewestCut_33 (by decide) ?_
                refine V_iinc X (nI (i13 + 1)) [(4, .int (nI (i13 + 1))), (3, .int (nI (i2))), (0, .ref (X0 + 12)), (1, .ref (X0 + 1)), (2, .ref (X0 + 7))] dX0_fewestCut_62 0 rfl (zinc _) (by decide) rfl ?_
                refine V_goto (tgt := 13) X dX0_fewestCut_65 (by decide) ?_
                exact V.sub [0, 1, 2, 3, 4] rfl (ih13 _ (by omega) (i13 + 1) G13 rfl (by omega) hJ13 (fun u hu hz => (Nat.lt_succ_iff_lt_or_eq.mp hu).elim (fun k => hv13_0 u k hz) (fun e => by rw [e] at hz ⊢; exact hsk hz)))
        exact L13 _ 0 G2 rfl (by omega) hJ2 (fun u hu => absurd hu (Nat.not_lt_zero u))
  exact L2 _ 0 F rfl (by omega) cJ.rfl' (fun u _ _ => Nat.zero_le _)
set_option maxRecDepth 100000 in
set_option maxHeartbeats 4000000 in
theorem k_X0_recall {g : zG} {t : Nat × Nat} {X0 : Nat} {σ0 : Nat → Option va_E} {F : Nat → Nat → Int32} (hX : g.2.1.size ≤ X0) {nP nS nA nC nT : Nat} (hI : cI nP nS nA nC nT F) (hB : cBd nP nS nA F) : Ct g 21 yX0_recall cX0_recall 4 none 0 0 [.ref (X0 + 12), .ref (X0 + 1), .ref (X0 + 7)] (t, cW g X0 F σ0) (fun v σ' => v = none ∧ ∃ F' : Nat → Nat → Int32, σ' = (t, cW g X0 F' σ0) ∧ cM F F' ∧ ¬ F' 12 3 = 0) zNo := by
  refine Ct.of (lv := [(0, .ref (X0 + 12)), (1, .ref (X0 + 1)), (2, .ref (X0 + 7))]) (by decide) (Nat.le_of_ble_eq_true rfl) rfl ?_
  intro κ X E B _
  have X : zX g κ RX0 cX0_recall 4 := X
  obtain ⟨b1, b2, b3, b4, b5⟩ := hI.bnd
  refine V_aload_n X dX0_recall_0 0 rfl ?_
  refine C_getf X fl_X0_27 12 (by decide) rfl rfl dX0_recall_1 (V.topi (fun x1 ex1 => ?_))
  refine V_ifeq X (tgt := 8) dX0_recall_4 (by decide) (fun h2 => ?_) (fun h2 => ?_)
  · -- 4 true
    refine V_aload_n X dX0_recall_8 0 rfl ?_
    refine V_aload_n X dX0_recall_9 0 rfl ?_
    refine V_aload_n X dX0_recall_10 1 rfl ?_
    refine V_aload_n X dX0_recall_11 2 rfl ?_
    refine V_aload_n X dX0_recall_12 1 rfl ?_
    refine V_callV (rest := [.ref (X0 + 7), .ref (X0 + 1), .ref (X0 + 12), .ref (X0 + 12)]) X E.room ml_X0_31 in_X2_allScenes (ci := 6) rfl se_X2_allScenes (C_recv (q := 1) (by decide) rfl) (by decide) (by decide) (k_X2_allScenes hX hI) rfl rfl (Nat.le_of_ble_eq_true rfl) ⟨Nat.le_refl _, Nat.le_refl _⟩ dX0_recall_13 (fun _ _ h => False.elim h) (fun v13 σ' hp13 => ?_)
    obtain ⟨hp13, rfl⟩ := hp13
    cases (hp13 : _ = some (Value.int (nI (2 ^ nS - 1))))
    show V g κ 4 0 0 (t, cW g X0 F σ0) 16 [(0, .ref (X0 + 12)), (1, .ref (X0 + 1)), (2, .ref (X0 + 7))] [.int (nI (2 ^ nS - 1)), .ref (X0 + 7), .ref (X0 + 1), .ref (X0 + 12), .ref (X0 + 12)]
    refine V_callV (rest := [.ref (X0 + 12)]) X E.room ml_X0_37 in_X0_fewest (ci := 4) rfl se_X0_fewest (C_recv (q := 12) (by decide) rfl) (by decide) (by decide) (k_X0_fewest_x hX hI (nI (2 ^ nS - 1)) hB) rfl rfl (Nat.le_of_ble_eq_true rfl) ⟨Nat.le_refl _, Nat.le_refl _⟩ dX0_recall_16 (fun _ _ h => False.elim h) (fun v16 σ' hp16 => ?_)
    obtain ⟨r4, rfl, fr4, F3, rfl, hJF3, habF3⟩ := hp16
    have hKF3 : cRw scM F F3 := hJF3.w
    show V g κ 4 0 0 (t, cW g X0 F3 σ0) 19 [(0, .ref (X0 + 12)), (1, .ref (X0 + 1)), (2, .ref (X0 + 7))] [.int (r4), .ref (X0 + 12)]
    refine C_putf X fl_X0_41 zt_X0 12 (by decide) hX rfl (Nat.le_of_ble_eq_true rfl) rfl rfl rfl rfl rfl dX0_recall_19 (fun F5 hF5 => ?_)
    have hJF5 : cRw scM F F5 := (hKF3 : cRw scM F F3).set hF5 (scM_t (by omega))
    refine V_iconst (v := nI 0) X dX0_recall_22 (by decide) ?_
    refine V_istore_n X [(3, .int (nI (0))), (0, .ref (X0 + 12)), (1, .ref (X0 + 1)), (2, .ref (X0 + 7))] dX0_recall_23 (by decide) rfl ?_
    have L24 : ∀ (n24 : Nat) (i24 : Nat) (G24 : Nat → Nat → Int32), n24 = 5 - i24 → i24 ≤ 5 → cRw scM F G24 → cRw sKc F5 G24 → (∀ p, p < i24 → G24 13 p = nI 0) → V g κ 4 0 0 (t, cW g X0 G24 σ0) 24 [(3, .int (nI (i24))), (0, .ref (X0 + 12)), (1, .ref (X0 + 1)), (2, .ref (X0 + 7))] [] := by
      intro n24
      induction n24 using Nat.strongRecOn with
      | ind n24 ih24 =>
        intro i24 G24 hn24 hi24 hJ24 hv24_0 hv24_1
        refine V_iload_n X dX0_recall_24 0 rfl ?_
        refine V_iconst (v := nI 5) X dX0_recall_25 (by decide) ?_
        refine V_icmpgeN X (by omega) (by omega) (tgt := 42) dX0_recall_26 (by decide) (fun h6 => ?_) (fun h6 => ?_)
        · -- 26 true
          refine V_aload_n X dX0_recall_42 1 rfl ?_
          have eb : G24 12 1 = r4 := (hv24_0 12 1 rfl).trans (by rw [hF5, fset_eq])
          refine C_getfN (z := r4) X fl_X0_41 12 (by decide) rfl rfl eb dX0_recall_43 ?_
          refine V_iconst (v := (-1)) X dX0_recall_46 (by decide) ?_
          refine V_icmpeq X (tgt := 55) dX0_recall_47 (by decide) (fun h7 => ?_) (fun h7 => ?_)
          · -- 47 true
            have hz5 : ∀ p, p < 5 → G24 13 p = nI 0 := fun p hp => hv24_1 p (by omega)
            have hbest : ∃ h : Nat → Nat, mBst (mPm F nA) (mCl (F 5) (F 4) (F 6) nP (nI (2 ^ nS - 1)) nS) (mDu (F 5) (nI (2 ^ nS - 1)) nS) (G24 12 1) h ∧ ∀ i, i < 5 → zMk (G24 13 i) (fun q => ¬ G24 12 1 = -1 ∧ (mDu (F 5) (nI (2 ^ nS - 1)) nS) q ∧ h q = i) := ⟨fun _ => 0, by rw [eb]; exact fr4.elim (fun y => Or.inl y) (fun ⟨k, a, b, _⟩ => absurd (b.symm.trans h7) (znm1 (by omega))), fun i hi => by rw [hz5 i hi, eb]; exact zMk_0.cg (fun q => ⟨False.elim, fun y => absurd h7 y.1⟩)⟩
            refine V_aload_n X dX0_recall_55 1 rfl ?_
            refine V_aload_n X dX0_recall_56 1 rfl ?_
            refine V_aload_n X dX0_recall_57 2 rfl ?_
            refine V_aload_n X dX0_recall_58 3 rfl ?_
            refine V_callV (rest := [.ref (X0 + 12)]) X E.room ml_X0_49 in_X0_fewestCut (ci := 4) rfl se_X0_fewestCut (C_recv (q := 12) (by decide) rfl) (by decide) (by decide) (k_X0_fewestCut_x hX (hI.mvW hJ24) (hB.mvW hJ24)) rfl rfl (Nat.le_of_ble_eq_true rfl) ⟨Nat.le_refl _, Nat.le_refl _⟩ dX0_recall_59 (fun _ _ h => False.elim h) (fun v59 σ' hp59 => ?_)
            obtain ⟨r9, rfl, fr9, F8, rfl, hJF8⟩ := hp59
            have hKF8 : cRw scM F F8 := (hJ24 : cRw scM F G24).trans hJF8.w
            show V g κ 4 0 0 (t, cW g X0 F8 σ0) 62 [(3, .int (nI (i24))), (0, .ref (X0 + 12)), (1, .ref (X0 + 1)), (2, .ref (X0 + 7))] [.int (r9), .ref (X0 + 12)]
            refine C_putf X fl_X0_53 zt_X0 12 (by decide) hX rfl (Nat.le_of_ble_eq_true rfl) rfl rfl rfl rfl rfl dX0_recall_62 (fun F10 hF10 => ?_)
            have hJF10 : cRw scM F F10 := (hKF8 : cRw scM F F8).set hF10 (scM_t (by omega))
            refine V_aload_n X dX0_recall_65 1 rfl ?_
            refine V_iconst (v := nI 1) X dX0_recall_66 (by decide) ?_
            refine C_putf X fl_X0_27 zt_X0 12 (by decide) hX rfl (Nat.le_of_ble_eq_true rfl) rfl rfl rfl rfl rfl dX0_recall_67 (fun F11 hF11 => ?_)
            have hJF11 : cRw scM F F11 := (hJF10 : cRw scM F F10).set hF11 (scM_t (by omega))
            have o9 : ∀ k j, (k ≠ 12 ∨ j ≠ 3) → (k ≠ 12 ∨ j ≠ 2) → F11 k j = F8 k j := fun k j q1 q2 => by rw [hF11, fset_ne q1, hF10, fset_ne q2]
            have c9 : F11 12 2 = r9 := by rw [hF11, fset_ne (Or.inr (by decide)), hF10, fset_eq]
            have k9n : F11 12 3 = nI 1 := by rw [hF11, fset_eq]
            have e91 : F11 12 1 = G24 12 1 := (o9 12 1 (by decide) (by decide)).trans (hJF8 12 1 rfl)
            have e913 : ∀ i, F11 13 i = G24 13 i := fun i => (o9 13 i (by omega) (by omega)).trans (hJF8 13 i (by simp [scr]))
            have hkn : cKn nP nS nA F11 := cKn_of hJF11 (by rw [e91]; obtain ⟨h, x, y⟩ := hbest; exact ⟨h, x, fun i hi => by rw [e913 i]; exact y i hi⟩) (by rw [c9, ← zFC_W hJ24]; exact fr9)
            exact V_vret X E (Nat.zero_le _) (Nat.zero_le _) ⟨rfl, _, rfl, ⟨fun k j q => hJF11 k j q, fun _ => Or.inr ⟨nP, nS, nA, b1, b2, b3, (hJF11 1 5 rfl).trans hI.f1_5, (hJF11 1 6 rfl).trans hI.f1_6, (hJF11 7 4 rfl).trans hI.f7_4, hkn⟩⟩, by rw [k9n]; decide⟩ dX0_recall_70
          · -- 47 false
            have hz5 : ∀ p, p < 5 → G24 13 p = nI 0 := fun p hp => hv24_1 p (by omega)
            obtain ⟨k9, hk9, ek9, hf9, hm9⟩ := fr4.resolve_left (fun y => h7 y.1)
            refine V_aload_n X dX0_recall_50 1 rfl ?_
            refine V_aload_n X dX0_recall_51 2 rfl ?_
            refine V_callV (rest := []) X E.room ml_X0_45 in_X0_keepFirst (ci := 4) rfl se_X0_keepFirst (C_recv (q := 12) (by decide) rfl) (by decide) (by decide) (k_X0_keepFirst_x hX (hI.mvW hJ24) (F 5) (funext fun j => hJ24 5 j (scM_f (by omega))) (mPm F nA) (mCl (F 5) (F 4) (F 6) nP (nI (2 ^ nS - 1)) nS) (fun _ _ h => h.symm) k9 hk9 (eb.trans ek9) (fun p hp => by rw [hv24_0 15 p rfl, hF5, hv24_0 14 p rfl, hF5, fset_ne (Or.inl (by decide)), fset_ne (Or.inl (by decide))]; exact habF3 p hp) hf9) rfl rfl (Nat.le_of_ble_eq_true rfl) ⟨Nat.le_refl _, Nat.le_refl _⟩ dX0_recall_52 (fun _ _ h => False.elim h) (fun v52 σ' hp52 => ?_)
            obtain ⟨hp52, F12, rfl, hJF12, hh, hfi, hro⟩ := hp52
            have hKF12 : cRw scM F F12 := (hJ24 : cRw scM F G24).trans (cRw.sub sKeW hJF12)
            have eb2 : F12 12 1 = nI k9 := (hJF12 12 1 rfl).trans (eb.trans ek9)
            have hbest : ∃ h : Nat → Nat, mBst (mPm F nA) (mCl (F 5) (F 4) (F 6) nP (nI (2 ^ nS - 1)) nS) (mDu (F 5) (nI (2 ^ nS - 1)) nS) (F12 12 1) h ∧ ∀ i, i < 5 → zMk (F12 13 i) (fun q => ¬ F12 12 1 = -1 ∧ (mDu (F 5) (nI (2 ^ nS - 1)) nS) q ∧ h q = i) := ⟨hh, by rw [eb2]; exact Or.inr ⟨k9, hk9, rfl, hm9, hfi⟩, fun i hi => (hro i hi).cg (fun q => ⟨fun y => ⟨by rw [eb2]; exact fun z => absurd z (znm1 (by omega)), y⟩, And.right⟩)⟩
            cases (hp52 : _ = none)
            show V g κ 4 0 0 (t, cW g X0 F12 σ0) 55 [(3, .int (nI (i24))), (0, .ref (X0 + 12)), (1, .ref (X0 + 1)), (2, .ref (X0 + 7))] []
            refine V_aload_n X dX0_recall_55 1 rfl ?_
            refine V_aload_n X dX0_recall_56 1 rfl ?_
            refine V_aload_n X dX0_recall_57 2 rfl ?_
            refine V_aload_n X dX0_recall_58 3 rfl ?_
            refine V_callV (rest := [.ref (X0 + 12)]) X E.room ml_X0_49 in_X0_fewestCut (ci := 4) rfl se_X0_fewestCut (C_recv (q := 12) (by decide) rfl) (by decide) (by decide) (k_X0_fewestCut_x hX (hI.mvW hKF12) (hB.mvW hKF12)) rfl rfl (Nat.le_of_ble_eq_true rfl) ⟨Nat.le_refl _, Nat.le_refl _⟩ dX0_recall_59 (fun _ _ h => False.elim h) (fun v59 σ' hp59 => ?_)
            obtain ⟨r14, rfl, fr14, F13, rfl, hJF13⟩ := hp59
            have hKF13 : cRw scM F F13 := (hKF12 : cRw scM F F12).trans hJF13.w
            show V g κ 4 0 0 (t, cW g X0 F13 σ0) 62 [(3, .int (nI (i24))), (0, .ref (X0 + 12)), (1, .ref (X0 + 1)), (2, .ref (X0 + 7))] [.int (r14), .ref (X0 + 12)]
            refine C_putf X fl_X0_53 zt_X0 12 (by decide) hX rfl (Nat.le_of_ble_eq_true rfl) rfl rfl rfl rfl rfl dX0_recall_62 (fun F15 hF15 => ?_)
            have hJF15 : cRw scM F F15 := (hKF13 : cRw scM F F13).set hF15 (scM_t (by omega))
            refine V_aload_n X dX0_recall_65 1 rfl ?_
            refine V_iconst (v := nI 1) X dX0_recall_66 (by decide) ?_
            refine C_putf X fl_X0_27 zt_X0 12 (by decide) hX rfl (Nat.le_of_ble_eq_true rfl) rfl rfl rfl rfl rfl dX0_recall_67 (fun F16 hF16 => ?_)
            have hJF16 : cRw scM F F16 := (hJF15 : cRw scM F F15).set hF16 (scM_t (by omega))
            have o9 : ∀ k j, (k ≠ 12 ∨ j ≠ 3) → (k ≠ 12 ∨ j ≠ 2) → F16 k j = F13 k j := fun k j q1 q2 => by rw [hF16, fset_ne q1, hF15, fset_ne q2]
            have c9 : F16 12 2 = r14 := by rw [hF16, fset_ne (Or.inr (by decide)), hF15, fset_eq]
            have k9n : F16 12 3 = nI 1 := by rw [hF16, fset_eq]
            have e91 : F16 12 1 = F12 12 1 := (o9 12 1 (by decide) (by decide)).trans (hJF13 12 1 rfl)
            have e913 : ∀ i, F16 13 i = F12 13 i := fun i => (o9 13 i (by omega) (by omega)).trans (hJF13 13 i (by simp [scr]))
            have hkn : cKn nP nS nA F16 := cKn_of hJF16 (by rw [e91]; obtain ⟨h, x, y⟩ := hbest; exact ⟨h, x, fun i hi => by rw [e913 i]; exact y i hi⟩) (by rw [c9, ← zFC_W hKF12]; exact fr14)
            exact V_vret X E (Nat.zero_le _) (Nat.zero_le _) ⟨rfl, _, rfl, ⟨fun k j q => hJF16 k j q, fun _ => Or.inr ⟨nP, nS, nA, b1, b2, b3, (hJF16 1 5 rfl).trans hI.f1_5, (hJF16 1 6 rfl).trans hI.f1_6, (hJF16 7 4 rfl).trans hI.f7_4, hkn⟩⟩, by rw [k9n]; decide⟩ dX0_recall_70
        · -- 26 false
          refine V_aload_n X dX0_recall_29 1 rfl ?_
          refine C_getf X fl_X0_9 12 (by decide) rfl rfl dX0_recall_30 ?_
          refine V_iload_n X dX0_recall_33 0 rfl ?_
          refine V_iconst (v := nI 0) X dX0_recall_34 (by decide) ?_
          refine C_iast X (N := 5) 13 (by decide) hX (i24) rfl (by omega) (by decide) (fun _ => rfl) dX0_recall_35 (fun F17 hF17 => ?_)
          have hJF17 : cRw scM F F17 := (hJ24 : cRw scM F G24).set hF17 (scM_t (by omega))
          have hzF17 : ∀ p, p < i24 + 1 → F17 13 p = nI 0 := fun p hp => by
            by_cases e : p = i24
            · rw [e, hF17, fset_eq]
            · rw [hF17, fset_ne (Or.inr e)]; exact hv24_1 p (by omega)
          have hwF17 : cRw sKc F5 F17 := hv24_0.set hF17 rfl
          refine V_iinc X (nI (i24 + 1)) [(3, .int (nI (i24 + 1))), (0, .ref (X0 + 12)), (1, .ref (X0 + 1)), (2, .ref (X0 + 7))] dX0_recall_36 0 rfl (zinc _) (by decide) rfl ?_
          refine V_goto (tgt := 24) X dX0_recall_39 (by decide) ?_
          exact V.sub [0, 1, 2, 3] rfl (ih24 _ (by omega) (i24 + 1) F17 rfl (by omega) hJF17 (hwF17) (hzF17))
    exact L24 _ 0 F5 rfl (by omega) hJF5 (cRw.rfl') (fun p hp => absurd hp (Nat.not_lt_zero p))
  · -- 4 false
    exact V_vret X E (Nat.zero_le _) (Nat.zero_le _) ⟨rfl, _, rfl, cM.rfl', by rw [← ex1]; exact h2⟩ dX0_recall_7
