/-! ===== cast, digest of the class ===== -/
def qStrC (nP nS nA : Nat) (g : zG) (X0 : Nat) (F : Nat → Nat → Int32) (σ0 : Nat → Option va_E) : Option Value → zS → Prop := fun v σ' => ∃ (t' : Nat × Nat) (F' : Nat → Nat → Int32), cM F F' ∧ (((∃ h, cBs nP nS nA F (-1) h) ∧ v = some (.ref (g.2.2.2 6)) ∧ σ' = (t', cW g X0 F' σ0)) ∨ ∃ (Sx n : Nat) (fw : Nat → Int32), (n = nP ∧ ∃ b h, cBs nP nS nA F b h ∧ ¬ b = -1) ∧ v = some (.ref Sx) ∧ σ' = (t', cW g X0 F' (zSx g σ0 Sx n fw)) ∧ cFree X0 σ0 Sx ∧ cFree X0 σ0 (Sx + 1))
def qDigC (nP nS nA nC nT : Nat) (g : zG) (X0 : Nat) (F : Nat → Nat → Int32) (σ0 : Nat → Option va_E) (xs ys ks : Nat → Nat) : Option Value → zS → Prop := fun v σ' => (∃ x, v = some (.long x) ∧ cDg nP nS nA nC nT F xs ys ks x) ∧ ∃ (t' : Nat × Nat) (F' : Nat → Nat → Int32), σ' = (t', cW g X0 F' σ0) ∧ cM F F'
set_option maxRecDepth 100000 in
set_option maxHeartbeats 4000000 in
theorem k_X5_cast {g : zG} {t : Nat × Nat} {X0 : Nat} {σ0 : Nat → Option va_E} {F : Nat → Nat → Int32} (hX : g.2.1.size ≤ X0) {nP nS nA nC nT : Nat} (hI : cI nP nS nA nC nT F)  (hB : cBd nP nS nA F) (hC : cK F) : Ct g 22 yX5_cast cX5_cast 4 (some (FieldType.object "java/lang/String")) 4 31 [.ref (X0 + 0)] (t, cW g X0 F σ0) (qStrC nP nS nA g X0 F σ0) zNo := by
  refine Ct.of (lv := [(0, .ref (X0 + 0))]) (by decide) (Nat.le_of_ble_eq_true rfl) rfl ?_
  intro κ X E B _
  have X : zX g κ RX5 cX5_cast 4 := X
  obtain ⟨b1, b2, b3, b4, b5⟩ := hI.bnd
  refine V_aload_n X dX5_cast_0 0 rfl ?_
  refine C_getf X fl_X5_26 0 (by decide) rfl rfl dX5_cast_1 ?_
  refine V_aload_n X dX5_cast_4 0 rfl ?_
  refine C_getf X fl_X5_10 0 (by decide) rfl rfl dX5_cast_5 ?_
  refine V_aload_n X dX5_cast_8 0 rfl ?_
  refine C_getf X fl_X5_19 0 (by decide) rfl rfl dX5_cast_9 ?_
  refine V_callV (rest := []) X E.room ml_X5_133 in_X0_recall (ci := 2) rfl se_X0_recall (C_recv (q := 12) (by decide) rfl) (by decide) (by decide) (k_X0_recall hX hI hB) rfl rfl (Nat.le_of_ble_eq_true rfl) ⟨Nat.le_of_ble_eq_true rfl, Nat.le_of_ble_eq_true rfl⟩ dX5_cast_12 (fun _ _ h => False.elim h) (fun v12 σ' hp12 => ?_)
  obtain ⟨hp12, F1, rfl, hJF1, hkF1⟩ := hp12
  obtain ⟨hF1b, xF1, yF1, zF1⟩ := cBest_of hC hJF1 hI hkF1
  cases (hp12 : _ = none)
  show V g κ 4 (0) (0) (t, cW g X0 F1 σ0) 15 [(0, .ref (X0 + 0))] []
  refine V_aload_n X dX5_cast_15 0 rfl ?_
  refine C_getf X fl_X5_26 0 (by decide) rfl rfl dX5_cast_16 ?_
  refine C_getf X fl_X5_220 12 (by decide) rfl rfl dX5_cast_19 (V.topi (fun x2 ex2 => ?_))
  refine V_iconst (v := (-1)) X dX5_cast_22 (by decide) ?_
  refine V_icmpne X (tgt := 29) dX5_cast_23 (by decide) (fun h3 => ?_) (fun h3 => ?_)
  · -- 23 true
    refine V.fr (fun hfr => ?_)
    have fB := cFresh (t := t) hfr (k := t.1) (Nat.le_refl _)
    have fV := cFresh (t := t) hfr (k := t.1 + 1) (by omega)
    have fS := cFresh (t := t) hfr (k := t.1 + 2) (by omega)
    have fW := cFresh (t := t) hfr (k := t.1 + 3) (by omega)
    have gB : g.2.1.size ≤ t.1 := (by have h1 : X0 + 0 < t.1 := hfr _ _ (cW_at (k := 0) (by decide)); omega)
    refine V_new X E.room (ci := 1) (fs := [.null, .int (nI (0)), .int (nI (0)), .int (nI (0))]) rfl zi_J4 tyJ4 tyJ4_ok cl_X5_231 mk_J4 nz_J4 (by intro j hj; match j, hj with | 0, _ => rfl | 1, _ => rfl | 2, _ => rfl | 3, _ => rfl | i + 4, hj => exact absurd hj (by omega)) (by omega) (by omega) dX5_cast_29 ?_
    refine V_dup X dX5_cast_32 rfl ?_
    refine V_callI (rest := [.ref (t.1)]) X E.room ml_X5_233 in_J4_init_da8c8 rfl (by omega) (by decide) (k_J4_init_da8c8 (t := (t.1 + 1, t.2 + 4)) zup_eq gB) rfl rfl (Nat.le_of_ble_eq_true rfl) ⟨by omega, by omega⟩ dX5_cast_33 (fun _ _ h => False.elim h) (fun v33 σ' hp33 => ?_)
    obtain ⟨hp33, rfl⟩ := hp33
    cases (hp33 : _ = none)
    refine V.so (σ' := ((t.1 + 2, t.2 + 20), cW g X0 F1 (zSB g σ0 t.1 (0) (nI (0)) (fun _ => 0)))) (congrArg (Prod.mk _) (by show zup (zup (zup _ _ _) (t.1 + 1) _) _ _ = _; rw [zup_comm (show t.1 ≠ t.1 + 1 by omega), zup_zup, cW_zup fB.1, cW_zup fV.1, zup_comm (show t.1 + 1 ≠ t.1 by omega)]; rfl)) ?_
    show V g κ 4 (2) (20) ((t.1 + 2, t.2 + 20), cW g X0 F1 (zSB g σ0 t.1 (0) (nI (0)) (fun _ => 0))) 36 [(0, .ref (X0 + 0))] [.ref (t.1)]
    refine V_astore_n X [(1, .ref (t.1)), (0, .ref (X0 + 0))] dX5_cast_36 (by decide) rfl ?_
    refine V_iconst (v := nI 0) X dX5_cast_37 (by decide) ?_
    refine V_istore_n X [(2, .int (nI (0))), (1, .ref (t.1)), (0, .ref (X0 + 0))] dX5_cast_38 (by decide) rfl ?_
    have L39 : ∀ (n39 : Nat) (i39 : Nat) (fv39 : Nat → Int32), n39 = nP - i39 → i39 ≤ nP → sb_Fit fv39 → V g κ 4 (2) (20) ((t.1 + 2, t.2 + 20), cW g X0 F1 (zSB g σ0 t.1 (i39) (nI (0)) (fv39))) 39 [(2, .int (nI (i39))), (1, .ref (t.1)), (0, .ref (X0 + 0))] [] := by
      intro n39
      induction n39 using Nat.strongRecOn with
      | ind n39 ih39 =>
        intro i39 fv39 hn39 hi39 hv39
        refine V_iload_n X dX5_cast_39 0 rfl ?_
        refine V_aload_n X dX5_cast_40 2 rfl ?_
        refine C_getf X fl_X5_10 0 (by decide) rfl rfl dX5_cast_41 ?_
        refine C_getfN (z := nI (nP)) X fl_X5_48 1 (by decide) rfl rfl (hI.mvM hJF1).f1_5 dX5_cast_44 ?_
        refine V_icmpgeN X (by omega) (by omega) (tgt := 85) dX5_cast_47 (by decide) (fun h4 => ?_) (fun h4 => ?_)
        · -- 47 true
          refine V_aload_n X dX5_cast_85 1 rfl ?_
          refine V_callV (rest := []) X E.room ml_X5_238 in_J4_toString_0e30d (ci := 1) rfl se_J4_toString_0e30d ((cW_out fB.1).trans zSB_B) (by omega) (by decide) (k_J4_toString_0e30d (t := (t.1 + 2, t.2 + 20)) (B := t.1) (Va := t.1 + 1) (n := i39) (fv := fv39) ((cW_out fB.1).trans zSB_B) ((cW_out fV.1).trans zSB_V) (by omega) (hv39) (by show _ ≤ t.1 + 2; omega)) rfl rfl (Nat.le_of_ble_eq_true rfl) ⟨by omega, by omega⟩ dX5_cast_86 (fun _ _ h => False.elim h) (fun v86 σ' hp86 => ?_)
          obtain ⟨hp86, rfl⟩ := hp86
          cases (hp86 : _ = some (Value.ref (t.1 + 2)))
          refine V.weak (f' := cW g X0 F1 (zSx g σ0 (t.1 + 2) (i39) (va_cpy (fv39) (fun _ => 0) 0 0 (i39)))) (fun a e he => ?_) ?_
          · show zup (zup _ (t.1 + 2) _) (t.1 + 2 + 1) _ a = _
            rw [cW_zup fS.1, cW_zup fW.1]
            exact cW_sub (zup_mono (zup_mono (zSB_sub fB.2 fV.2))) a e he
          show V g κ 4 (2 + 2) (20 + (4 + i39)) ((t.1 + 2 + 2, t.2 + 20 + 4 + i39), cW g X0 F1 (zSx g σ0 (t.1 + 2) (i39) (va_cpy (fv39) (fun _ => 0) 0 0 (i39)))) 89 [(2, .int (nI (i39))), (1, .ref (t.1)), (0, .ref (X0 + 0))] [.ref (t.1 + 2)]
          exact V_aret X E (Or.inl ⟨_, rfl⟩) (Or.inr ⟨_, rfl⟩) (by omega) (by omega) ⟨_, _, hJF1, Or.inr ⟨_, _, _, ⟨by omega, _, hF1b, xF1, fun q9 => h3 (ex2.trans q9)⟩, rfl, rfl, fS, fW⟩⟩ dX5_cast_89
        · -- 47 false
          refine V_aload_n X dX5_cast_50 2 rfl ?_
          refine C_getf X fl_X5_26 0 (by decide) rfl rfl dX5_cast_51 ?_
          refine V_iload_n X dX5_cast_54 0 rfl ?_
          refine V_callV (rest := []) X E.room ml_X5_174 in_X0_playerOf (ci := 2) rfl se_X0_playerOf (C_recv (q := 12) (by decide) rfl) (by decide) (by decide) (k_X0_playerOf hX (hI.mvM hJF1) (nI (i39))) rfl rfl (Nat.le_of_ble_eq_true rfl) ⟨Nat.le_of_ble_eq_true rfl, Nat.le_of_ble_eq_true rfl⟩ dX5_cast_55 (fun _ _ h => False.elim h) (fun v55 σ' hp55 => ?_)
          obtain ⟨hp55, rfl⟩ := hp55
          rcases hp55 with ⟨rfl, nr5⟩ | ⟨r5, hr5, rfl, yr5, zr5⟩
          · -- none
            show V g κ 4 (2) (20) ((t.1 + 2, t.2 + 20), cW g X0 F1 (zSB g σ0 t.1 (i39) (nI (0)) (fv39))) 58 [(2, .int (nI (i39))), (1, .ref (t.1)), (0, .ref (X0 + 0))] [.int (-1)]
            refine V_istore_n X [(3, .int (-1)), (2, .int (nI (i39))), (1, .ref (t.1)), (0, .ref (X0 + 0))] dX5_cast_58 (by decide) rfl ?_
            refine V_aload_n X dX5_cast_59 2 rfl ?_
            refine V_iload_n X dX5_cast_60 0 rfl ?_
            refine V_iconst (v := (-1)) X dX5_cast_61 (by decide) ?_
            refine V_icmpne X (tgt := 70) dX5_cast_62 (by decide) (fun h6 => absurd h6 (not_not_intro rfl)) (fun h6 => ?_)
            refine V_bipush (v := nI 46) X dX5_cast_65 (by decide) ?_
            refine V_goto (tgt := 75) X dX5_cast_67 (by decide) ?_
            refine V_callV (rest := []) X E.room ml_X5_234 in_J4_append_cf468 (ci := 1) rfl se_J4_append_cf468 ((cW_out fB.1).trans zSB_B) (by omega) (by decide) (c_append fB.1 fV.1 gB (c := 46) (n := i39) (fv := fv39) (by omega) (by omega)) rfl rfl (Nat.le_of_ble_eq_true rfl) ⟨by omega, by omega⟩ dX5_cast_75 (fun _ _ h => False.elim h) (fun v75 σ' hp75 => ?_)
            obtain ⟨hp75, rfl⟩ := hp75
            cases (hp75 : _ = some (Value.ref t.1))
            show V g κ 4 (2) (20) ((t.1 + 2, t.2 + 20), cW g X0 F1 (zSB g σ0 t.1 (i39 + 1) (nI (0)) (upd (fv39) (nI (i39)).toNatClampNeg (vp_nar .byte ((nI (46)).toInt8.toInt32))))) 78 [(3, .int (-1)), (2, .int (nI (i39))), (1, .ref (t.1)), (0, .ref (X0 + 0))] [.ref (t.1)]
            refine V_pop X dX5_cast_78 rfl ?_
            refine V_iinc X (nI (i39 + 1)) [(2, .int (nI (i39 + 1))), (3, .int (-1)), (1, .ref (t.1)), (0, .ref (X0 + 0))] dX5_cast_79 1 rfl (zinc _) (by decide) rfl ?_
            refine V_goto (tgt := 39) X dX5_cast_82 (by decide) ?_
            exact V.sub [0, 2, 3] rfl (ih39 _ (by omega) (i39 + 1) (upd (fv39) (nI (i39)).toNatClampNeg (vp_nar .byte ((nI (46)).toInt8.toInt32))) rfl (by omega) (sb_fitU hv39 (znar _)))
          · -- number
            show V g κ 4 (2) (20) ((t.1 + 2, t.2 + 20), cW g X0 F1 (zSB g σ0 t.1 (i39) (nI (0)) (fv39))) 58 [(2, .int (nI (i39))), (1, .ref (t.1)), (0, .ref (X0 + 0))] [.int (nI (r5))]
            refine V_istore_n X [(3, .int (nI (r5))), (2, .int (nI (i39))), (1, .ref (t.1)), (0, .ref (X0 + 0))] dX5_cast_58 (by decide) rfl ?_
            refine V_aload_n X dX5_cast_59 2 rfl ?_
            refine V_iload_n X dX5_cast_60 0 rfl ?_
            refine V_iconst (v := (-1)) X dX5_cast_61 (by decide) ?_
            refine V_icmpne X (tgt := 70) dX5_cast_62 (by decide) (fun h7 => ?_) (fun h7 => absurd h7 (znm1 (by omega)))
            refine V_bipush (v := nI 48) X dX5_cast_70 (by decide) ?_
            refine V_iload_n X dX5_cast_72 0 rfl ?_
            refine V_iaddN X dX5_cast_73 ?_
            refine V_i2c X dX5_cast_74 ?_
            rw [zchr r5 (by omega)]
            refine V_callV (rest := []) X E.room ml_X5_234 in_J4_append_cf468 (ci := 1) rfl se_J4_append_cf468 ((cW_out fB.1).trans zSB_B) (by omega) (by decide) (c_append fB.1 fV.1 gB (c := 48 + r5) (n := i39) (fv := fv39) (by omega) (by omega)) rfl rfl (Nat.le_of_ble_eq_true rfl) ⟨by omega, by omega⟩ dX5_cast_75 (fun _ _ h => False.elim h) (fun v75 σ' hp75 => ?_)
            obtain ⟨hp75, rfl⟩ := hp75
            cases (hp75 : _ = some (Value.ref t.1))
            show V g κ 4 (2) (20) ((t.1 + 2, t.2 + 20), cW g X0 F1 (zSB g σ0 t.1 (i39 + 1) (nI (0)) (upd (fv39) (nI (i39)).toNatClampNeg (vp_nar .byte ((nI (48 + r5)).toInt8.toInt32))))) 78 [(3, .int (nI (r5))), (2, .int (nI (i39))), (1, .ref (t.1)), (0, .ref (X0 + 0))] [.ref (t.1)]
            refine V_pop X dX5_cast_78 rfl ?_
            refine V_iinc X (nI (i39 + 1)) [(2, .int (nI (i39 + 1))), (3, .int (nI (r5))), (1, .ref (t.1)), (0, .ref (X0 + 0))] dX5_cast_79 1 rfl (zinc _) (by decide) rfl ?_
            refine V_goto (tgt := 39) X dX5_cast_82 (by decide) ?_
            exact V.sub [0, 2, 3] rfl (ih39 _ (by omega) (i39 + 1) (upd (fv39) (nI (i39)).toNatClampNeg (vp_nar .byte ((nI (48 + r5)).toInt8.toInt32))) rfl (by omega) (sb_fitU hv39 (znar _)))
    exact L39 _ 0 (fun _ => 0) rfl (by omega) (sb_fit0)
  · -- 23 false
    refine V_ldcS X (zNone5 X) dX5_cast_26 ?_
    exact V_aret X E (Or.inl ⟨_, rfl⟩) (Or.inr ⟨_, rfl⟩) (by omega) (by omega) ⟨_, _, hJF1, Or.inl ⟨⟨hF1b, by have z := xF1; rw [show F1 12 1 = -1 from ex2.symm.trans h3] at z; exact z⟩, rfl, rfl⟩⟩ dX5_cast_28
set_option maxRecDepth 100000 in
set_option maxHeartbeats 4000000 in
theorem k_X5_digest {g : zG} {t : Nat × Nat} {X0 : Nat} {σ0 : Nat → Option va_E} {F : Nat → Nat → Int32} (hX : g.2.1.size ≤ X0) {nP nS nA nC nT : Nat} (hI : cI nP nS nA nC nT F) (hG : g.1.stackTraces = false) (xs ys ks : Nat → Nat) (hT : cTc xs ys ks nT F) (hD : cDb nP nA nC F) (hB : cBd nP nS nA F) (hC : cK F) : Ct g 40 yX5_digest cX5_digest 5 (some FieldType.long) 5 40 [.ref (X0 + 0)] (t, cW g X0 F σ0) (qDigC nP nS nA nC nT g X0 F σ0 xs ys ks) zNo := by
  refine Ct.of (lv := [(0, .ref (X0 + 0))]) (by decide) (Nat.le_of_ble_eq_true rfl) rfl ?_
  intro κ X E B _
  have X : zX g κ RX5 cX5_digest 5 := X
  obtain ⟨b1, b2, b3, b4, b5⟩ := hI.bnd
  refine V_ldc2 X cn_X5_265 dX5_digest_0 (V.topl (fun w1 ew1 => ?_))
  refine V_lstore_n X [(1, .long (w1)), (0, .ref (X0 + 0))] dX5_digest_3 (by decide) rfl ?_
  refine V_iconst (v := nI 0) X dX5_digest_4 (by decide) ?_
  refine V_istore_n X [(3, .int (nI (0))), (1, .long (w1)), (0, .ref (X0 + 0))] dX5_digest_5 (by decide) rfl ?_
  have L6 : ∀ (n6 : Nat) (i6 : Nat) (x6_1 : Int64) (G6 : Nat → Nat → Int32), n6 = 14 - i6 → i6 ≤ 14 → cM F G6 → dN (fun w => dS (cHo nP nS nA nC nT F w)) i6 8117 x6_1 → V g κ 5 (0) (0) (t, cW g X0 G6 σ0) 6 [(3, .int (nI (i6))), (1, .long (x6_1)), (0, .ref (X0 + 0))] [] := by
    intro n6
    induction n6 using Nat.strongRecOn with
    | ind n6 ih6 =>
      intro i6 x6_1 G6 hn6 hi6 hJ6 hv6_0
      refine V_iload_n X dX5_digest_6 0 rfl ?_
      refine V_bipush (v := nI 13) X dX5_digest_7 (by decide) ?_
      refine V_icmpgtN X (by omega) (by omega) (tgt := 31) dX5_digest_9 (by decide) (fun h2 => ?_) (fun h2 => ?_)
      · -- 9 true
        have hd1 : dN (fun w => dS (cHo nP nS nA nC nT F w)) 14 8117 x6_1 := by have z := hv6_0; rw [show i6 = 14 by omega] at z; exact z
        refine V_iconst (v := nI 0) X dX5_digest_31 (by decide) ?_
        refine V_istore_n X [(3, .int (nI (0))), (1, .long (x6_1)), (0, .ref (X0 + 0))] dX5_digest_32 (by decide) rfl ?_
        have L33 : ∀ (n33 : Nat) (i33 : Nat) (x33_1 : Int64) (G33 : Nat → Nat → Int32), n33 = nP - i33 → i33 ≤ nP → cM F G33 → dN (fun p => dN (fun w => dS (cPt nP nS nA F p w)) 7) i33 x6_1 x33_1 → V g κ 5 (0) (0) (t, cW g X0 G33 σ0) 33 [(3, .int (nI (i33))), (1, .long (x33_1)), (0, .ref (X0 + 0))] [] := by
          intro n33
          induction n33 using Nat.strongRecOn with
          | ind n33 ih33 =>
            intro i33 x33_1 G33 hn33 hi33 hJ33 hv33_0
            refine V_iload_n X dX5_digest_33 0 rfl ?_
            refine V_aload_n X dX5_digest_34 2 rfl ?_
            refine C_getf X fl_X5_10 0 (by decide) rfl rfl dX5_digest_35 ?_
            refine C_getfN (z := nI (nP)) X fl_X5_48 1 (by decide) rfl rfl (hI.mvM hJ33).f1_5 dX5_digest_38 ?_
            refine V_icmpgeN X (by omega) (by omega) (tgt := 81) dX5_digest_41 (by decide) (fun h3 => ?_) (fun h3 => ?_)
            · -- 41 true
              have hd2 : dN (fun p => dN (fun w => dS (cPt nP nS nA F p w)) 7) nP x6_1 x33_1 := by have z := hv33_0; rw [show i33 = nP by omega] at z; exact z
              refine V_iconst (v := nI 0) X dX5_digest_81 (by decide) ?_
              refine V_istore_n X [(3, .int (nI (0))), (1, .long (x33_1)), (0, .ref (X0 + 0))] dX5_digest_82 (by decide) rfl ?_
              have L83 : ∀ (n83 : Nat) (i83 : Nat) (x83_1 : Int64) (G83 : Nat → Nat → Int32), n83 = nA - i83 → i83 ≤ nA → cM F G83 → dN (cD3 nP nS nA F) i83 x33_1 x83_1 → V g κ 5 (0) (0) (t, cW g X0 G83 σ0) 83 [(3, .int (nI (i83))), (1, .long (x83_1)), (0, .ref (X0 + 0))] [] := by
                intro n83
                induction n83 using Nat.strongRecOn with
                | ind n83 ih83 =>
                  intro i83 x83_1 G83 hn83 hi83 hJ83 hv83_0
                  refine V_iload_n X dX5_digest_83 0 rfl ?_
                  refine V_aload_n X dX5_digest_84 2 rfl ?_
                  refine C_getf X fl_X5_19 0 (by decide) rfl rfl dX5_digest_85 ?_
                  refine C_getfN (z := nI (nA)) X fl_X5_66 7 (by decide) rfl rfl (hI.mvM hJ83).f7_4 dX5_digest_88 ?_
                  refine V_icmpgeN X (by omega) (by omega) (tgt := 158) dX5_digest_91 (by decide) (fun h4 => ?_) (fun h4 => ?_)
                  · -- 91 true
                    have hd3 : dN (cD3 nP nS nA F) nA x33_1 x83_1 := by have z := hv83_0; rw [show i83 = nA by omega] at z; exact z
                    refine V_iconst (v := nI 0) X dX5_digest_158 (by decide) ?_
                    refine V_istore_n X [(3, .int (nI (0))), (1, .long (x83_1)), (0, .ref (X0 + 0))] dX5_digest_159 (by decide) rfl ?_
                    have L160 : ∀ (n160 : Nat) (i160 : Nat) (x160_1 : Int64) (G160 : Nat → Nat → Int32), n160 = nS - i160 → i160 ≤ nS → cM F G160 → dN (fun p => dN (fun w => dS (cSc nP nS nA nC F p w)) 6) i160 x83_1 x160_1 → V g κ 5 (0) (0) (t, cW g X0 G160 σ0) 160 [(3, .int (nI (i160))), (1, .long (x160_1)), (0, .ref (X0 + 0))] [] := by
                      intro n160
                      induction n160 using Nat.strongRecOn with
                      | ind n160 ih160 =>
                        intro i160 x160_1 G160 hn160 hi160 hJ160 hv160_0
                        refine V_iload_n X dX5_digest_160 0 rfl ?_
                        refine V_aload_n X dX5_digest_161 2 rfl ?_
                        refine C_getf X fl_X5_10 0 (by decide) rfl rfl dX5_digest_162 ?_
                        refine C_getfN (z := nI (nS)) X fl_X5_72 1 (by decide) rfl rfl (hI.mvM hJ160).f1_6 dX5_digest_165 ?_
                        refine V_icmpgeN X (by omega) (by omega) (tgt := 207) dX5_digest_168 (by decide) (fun h5 => ?_) (fun h5 => ?_)
                        · -- 168 true
                          have hd4 : dN (fun p => dN (fun w => dS (cSc nP nS nA nC F p w)) 6) nS x83_1 x160_1 := by have z := hv160_0; rw [show i160 = nS by omega] at z; exact z
                          refine V_iconst (v := nI 0) X dX5_digest_207 (by decide) ?_
                          refine V_istore_n X [(3, .int (nI (0))), (1, .long (x160_1)), (0, .ref (X0 + 0))] dX5_digest_208 (by decide) rfl ?_
                          have L209 : ∀ (n209 : Nat) (i209 : Nat) (x209_1 : Int64) (G209 : Nat → Nat → Int32), n209 = nC - i209 → i209 ≤ nC → cM F G209 → dN (fun p => dS (cCt F p 3)) i209 x160_1 x209_1 → V g κ 5 (0) (0) (t, cW g X0 G209 σ0) 209 [(3, .int (nI (i209))), (1, .long (x209_1)), (0, .ref (X0 + 0))] [] := by
                            intro n209
                            induction n209 using Nat.strongRecOn with
                            | ind n209 ih209 =>
                              intro i209 x209_1 G209 hn209 hi209 hJ209 hv209_0
                              refine V_iload_n X dX5_digest_209 0 rfl ?_
                              refine V_aload_n X dX5_digest_210 2 rfl ?_
                              refine C_getf X fl_X5_33 0 (by decide) rfl rfl dX5_digest_211 ?_
                              refine C_getfN (z := nI (nC)) X fl_X5_93 18 (by decide) rfl rfl (hI.mvM hJ209).f18_3 dX5_digest_214 ?_
                              refine V_icmpgeN X (by omega) (by omega) (tgt := 240) dX5_digest_217 (by decide) (fun h6 => ?_) (fun h6 => ?_)
                              · -- 217 true
                                have hd5 : dN (fun p => dS (cCt F p 3)) nC x160_1 x209_1 := by have z := hv209_0; rw [show i209 = nC by omega] at z; exact z
                                refine V_iconst (v := nI 0) X dX5_digest_240 (by decide) ?_
                                refine V_istore_n X [(3, .int (nI (0))), (1, .long (x209_1)), (0, .ref (X0 + 0))] dX5_digest_241 (by decide) rfl ?_
                                have L242 : ∀ (n242 : Nat) (i242 : Nat) (x242_1 : Int64) (G242 : Nat → Nat → Int32), n242 = nT - i242 → i242 ≤ nT → cM F G242 → dN (cD6 F) i242 x209_1 x242_1 → V g κ 5 (0) (0) (t, cW g X0 G242 σ0) 242 [(3, .int (nI (i242))), (1, .long (x242_1)), (0, .ref (X0 + 0))] [] := by
                                  intro n242
                                  induction n242 using Nat.strongRecOn with
                                  | ind n242 ih242 =>
                                    intro i242 x242_1 G242 hn242 hi242 hJ242 hv242_0
                                    refine V_iload_n X dX5_digest_242 0 rfl ?_
                                    refine V_aload_n X dX5_digest_243 2 rfl ?_
                                    refine C_getf X fl_X5_40 0 (by decide) rfl rfl dX5_digest_244 ?_
                                    refine C_getfN (z := nI (nT)) X fl_X5_127 23 (by decide) rfl rfl (hI.mvM hJ242).f23_4 dX5_digest_247 ?_
                                    refine V_icmpgeN X (by omega) (by omega) (tgt := 287) dX5_digest_250 (by decide) (fun h7 => ?_) (fun h7 => ?_)
                                    · -- 250 true
                                      have hd6 : dN (cD6 F) nT x209_1 x242_1 := by have z := hv242_0; rw [show i242 = nT by omega] at z; exact z
                                      refine V_iconst (v := nI 0) X dX5_digest_287 (by decide) ?_
                                      refine V_istore_n X [(3, .int (nI (0))), (1, .long (x242_1)), (0, .ref (X0 + 0))] dX5_digest_288 (by decide) rfl ?_
                                      have L289 : ∀ (n289 : Nat) (i289 : Nat) (x289_1 : Int64) (G289 : Nat → Nat → Int32), n289 = 3 - i289 → i289 ≤ 3 → cM F G289 → dN (fun w => dS (tAns xs ys ks nT 150 w)) i289 x242_1 x289_1 → V g κ 5 (0) (0) (t, cW g X0 G289 σ0) 289 [(3, .int (nI (i289))), (1, .long (x289_1)), (0, .ref (X0 + 0))] [] := by
                                        intro n289
                                        induction n289 using Nat.strongRecOn with
                                        | ind n289 ih289 =>
                                          intro i289 x289_1 G289 hn289 hi289 hJ289 hv289_0
                                          refine V_iload_n X dX5_digest_289 0 rfl ?_
                                          refine V_iconst (v := nI 2) X dX5_digest_290 (by decide) ?_
                                          refine V_icmpgtN X (by omega) (by omega) (tgt := 316) dX5_digest_291 (by decide) (fun h8 => ?_) (fun h8 => ?_)
                                          · -- 291 true
                                            have hd7 : dN (fun w => dS (tAns xs ys ks nT 150 w)) 3 x242_1 x289_1 := by have z := hv289_0; rw [show i289 = 3 by omega] at z; exact z
                                            refine V_lload_n X dX5_digest_316 1 rfl ?_
                                            refine V_ldc2 X cn_X5_267 dX5_digest_317 (V.topl (fun w9 ew9 => ?_))
                                            refine V_lmul X dX5_digest_320 (V.topl (fun w10 ew10 => ?_))
                                            refine V_aload_n X dX5_digest_321 2 rfl ?_
                                            refine V_callV (rest := [.long (w10)]) X E.room ml_X5_296 in_X5_cast (ci := 7) rfl se_X5_cast (C_recv (q := 0) (by decide) rfl) (by decide) (by decide) (k_X5_cast hX (hI.mvM hJ289) (hB.mvC hJ289) (hJ289.2 hC)) rfl rfl (Nat.le_of_ble_eq_true rfl) ⟨Nat.le_of_ble_eq_true rfl, Nat.le_of_ble_eq_true rfl⟩ dX5_digest_322 (fun _ _ h => False.elim h) (fun v322 σ' hp322 => ?_)
                                            obtain ⟨t12, F11, hJF11, hp322⟩ := hp322
                                            have hKF11 : cM F F11 := (hJ289).trans hJF11
                                            rcases hp322 with ⟨⟨h9, hb9⟩, rfl, rfl⟩ | ⟨Sx, nx, fw, ⟨hnx, b9, h9, hb9, nb9⟩, rfl, rfl, fS, fW⟩
                                            · -- none
                                              show V g κ 5 (0 + 4) (0 + 31) (t12, cW g X0 F11 σ0) 325 [(3, .int (nI (i289))), (1, .long (x289_1)), (0, .ref (X0 + 0))] [.ref (g.2.2.2 6), .long (w10)]
                                              obtain ⟨k9, v9, hS9, e9⟩ := zLitF X (a := g.2.2.2 6) (Or.inl rfl)
                                              have hr9 := (hS9.1 0 (by decide)).1
                                              rw [e9] at hr9
                                              refine V_callVL (rest := [.long (w10)]) X E.room ml_X5_299 in_J0_length_8abf5 (C := RJ0) se_J0_length_8abf5 hr9 (by omega) (by decide) (k_J0_length_litx (Or.inl rfl)) rfl rfl (Nat.le_of_ble_eq_true rfl) ⟨by omega, by omega⟩ dX5_digest_325 (fun _ _ h => False.elim h) (fun v8 σ' hp8 => ?_)
                                              obtain ⟨hp8, rfl⟩ := hp8
                                              cases (hp8 : _ = some (Value.int (nI 4)))
                                              have hvl : cLn nP nS nA F (nI 4) := ⟨_, _, (by have z := hb9; rw [cBs_W (hJ289).1] at z; exact z), Or.inl ⟨rfl, rfl⟩⟩
                                              show V g κ 5 (0 + 4) (0 + 31) (t12, cW g X0 F11 σ0) 328 [(3, .int (nI (i289))), (1, .long (x289_1)), (0, .ref (X0 + 0))] [.int (nI (4)), .long (w10)]
                                              refine V_i2l X dX5_digest_328 (V.topl (fun w13 ew13 => ?_))
                                              refine V_ladd X dX5_digest_329 (V.topl (fun w14 ew14 => ?_))
                                              have hln : dS (cLn nP nS nA F) x289_1 w14 := ⟨_, hvl, by rw [ew14, ew10, ew9, ew13]⟩
                                              refine V_lstore_n X [(1, .long (w14)), (3, .int (nI (i289))), (0, .ref (X0 + 0))] dX5_digest_330 (by decide) rfl ?_
                                              refine V_lload_n X dX5_digest_331 0 rfl ?_
                                              refine V_ldc2 X cn_X5_267 dX5_digest_332 (V.topl (fun w15 ew15 => ?_))
                                              refine V_lmul X dX5_digest_335 (V.topl (fun w16 ew16 => ?_))
                                              refine V_aload_n X dX5_digest_336 2 rfl ?_
                                              refine V_callV (rest := [.long (w16)]) X E.room ml_X5_304 in_X5_isSound (ci := 7) rfl se_X5_isSound (C_recv (q := 0) (by decide) rfl) (by decide) (by decide) (k_X5_isSound hX (hI.mvM hKF11) (hB.mvC hKF11) (hKF11.2 hC)) rfl rfl (Nat.le_of_ble_eq_true rfl) ⟨Nat.le_of_ble_eq_true rfl, Nat.le_of_ble_eq_true rfl⟩ dX5_digest_337 (fun _ _ h => False.elim h) (fun v337 σ' hp337 => ?_)
                                              obtain ⟨r17, rfl, hrr17, F18, rfl, hJF18⟩ := hp337
                                              have hvr17 : mTl r17 (cSd nP nS nA F) := by have z : mTl r17 (cSd nP nS nA F11) := hrr17; rw [cSd_W (hKF11).1] at z; exact z
                                              have hKF18 : cM F F18 := hKF11.trans hJF18
                                              show V g κ 5 (0 + 4) (0 + 31) (t12, cW g X0 F18 σ0) 340 [(1, .long (w14)), (3, .int (nI (i289))), (0, .ref (X0 + 0))] [.int (r17), .long (w16)]
                                              refine V_ifeq X (tgt := 347) dX5_digest_340 (by decide) (fun h19 => ?_) (fun h19 => ?_)
                                              · -- 340 true
                                                refine V_iconst (v := nI 0) X dX5_digest_347 (by decide) ?_
                                                refine V_i2l X dX5_digest_348 (V.topl (fun w20 ew20 => ?_))
                                                refine V_ladd X dX5_digest_349 (V.topl (fun w21 ew21 => ?_))
                                                exact V_lret X E (by omega) (by omega) ⟨⟨_, rfl, ⟨_, _, _, _, _, _, _, _, hd1, hd2, hd3, hd4, hd5, hd6, hd7, hln, ⟨_, mTl_z hvr17 h19, by rw [ew21, ew16, ew15, ew20]⟩⟩⟩, _, _, rfl, hKF18⟩ dX5_digest_350
                                              · -- 340 false
                                                refine V_iconst (v := nI 1) X dX5_digest_343 (by decide) ?_
                                                refine V_goto (tgt := 348) X dX5_digest_344 (by decide) ?_
                                                refine V_i2l X dX5_digest_348 (V.topl (fun w22 ew22 => ?_))
                                                refine V_ladd X dX5_digest_349 (V.topl (fun w23 ew23 => ?_))
                                                exact V_lret X E (by omega) (by omega) ⟨⟨_, rfl, ⟨_, _, _, _, _, _, _, _, hd1, hd2, hd3, hd4, hd5, hd6, hd7, hln, ⟨_, mTl_nz hvr17 h19, by rw [ew23, ew16, ew15, ew22]⟩⟩⟩, _, _, rfl, hKF18⟩ dX5_digest_350
                                            · -- a string
                                              show V g κ 5 (0 + 4) (0 + 31) (t12, cW g X0 F11 (zSx g σ0 Sx nx fw)) 325 [(3, .int (nI (i289))), (1, .long (x289_1)), (0, .ref (X0 + 0))] [.ref (Sx), .long (w10)]
                                              refine V_callV (rest := [.long (w10)]) X E.room ml_X5_299 in_J0_length_8abf5 (ci := 0) rfl se_J0_length_8abf5 ((cW_out fS.1).trans zSx_S) (by omega) (by decide) (k_J0_length_x ((cW_out fS.1).trans zSx_S) ((cW_out fW.1).trans zSx_W) (by omega)) rfl rfl (Nat.le_of_ble_eq_true rfl) ⟨by omega, by omega⟩ dX5_digest_325 (fun _ _ h => False.elim h) (fun v9 σ' hp9 => ?_)
                                              obtain ⟨hp9, rfl⟩ := hp9
                                              cases (hp9 : _ = some (Value.int (nI nx)))
                                              have hvl : cLn nP nS nA F (nI nx) := ⟨_, _, (by have z := hb9; rw [cBs_W (hJ289).1] at z; exact z), Or.inr ⟨nb9, congrArg nI hnx⟩⟩
                                              refine V.weak (f' := cW g X0 F11 σ0) (cW_sub (zSx_sub fS.2 fW.2)) ?_
                                              show V g κ 5 (0 + 4) (0 + 31) (t12, cW g X0 F11 σ0) 328 [(3, .int (nI (i289))), (1, .long (x289_1)), (0, .ref (X0 + 0))] [.int (nI (nx)), .long (w10)]
                                              refine V_i2l X dX5_digest_328 (V.topl (fun w24 ew24 => ?_))
                                              refine V_ladd X dX5_digest_329 (V.topl (fun w25 ew25 => ?_))
                                              have hln : dS (cLn nP nS nA F) x289_1 w25 := ⟨_, hvl, by rw [ew25, ew10, ew9, ew24]⟩
                                              refine V_lstore_n X [(1, .long (w25)), (3, .int (nI (i289))), (0, .ref (X0 + 0))] dX5_digest_330 (by decide) rfl ?_
                                              refine V_lload_n X dX5_digest_331 0 rfl ?_
                                              refine V_ldc2 X cn_X5_267 dX5_digest_332 (V.topl (fun w26 ew26 => ?_))
                                              refine V_lmul X dX5_digest_335 (V.topl (fun w27 ew27 => ?_))
                                              refine V_aload_n X dX5_digest_336 2 rfl ?_
                                              refine V_callV (rest := [.long (w27)]) X E.room ml_X5_304 in_X5_isSound (ci := 7) rfl se_X5_isSound (C_recv (q := 0) (by decide) rfl) (by decide) (by decide) (k_X5_isSound hX (hI.mvM hKF11) (hB.mvC hKF11) (hKF11.2 hC)) rfl rfl (Nat.le_of_ble_eq_true rfl) ⟨Nat.le_of_ble_eq_true rfl, Nat.le_of_ble_eq_true rfl⟩ dX5_digest_337 (fun _ _ h => False.elim h) (fun v337 σ' hp337 => ?_)
                                              obtain ⟨r28, rfl, hrr28, F29, rfl, hJF29⟩ := hp337
                                              have hvr28 : mTl r28 (cSd nP nS nA F) := by have z : mTl r28 (cSd nP nS nA F11) := hrr28; rw [cSd_W (hKF11).1] at z; exact z
                                              have hKF29 : cM F F29 := hKF11.trans hJF29
                                              show V g κ 5 (0 + 4) (0 + 31) (t12, cW g X0 F29 σ0) 340 [(1, .long (w25)), (3, .int (nI (i289))), (0, .ref (X0 + 0))] [.int (r28), .long (w27)]
                                              refine V_ifeq X (tgt := 347) dX5_digest_340 (by decide) (fun h30 => ?_) (fun h30 => ?_)
                                              · -- 340 true
                                                refine V_iconst (v := nI 0) X dX5_digest_347 (by decide) ?_
                                                refine V_i2l X dX5_digest_348 (V.topl (fun w31 ew31 => ?_))
                                                refine V_ladd X dX5_digest_349 (V.topl (fun w32 ew32 => ?_))
                                                exact V_lret X E (by omega) (by omega) ⟨⟨_, rfl, ⟨_, _, _, _, _, _, _, _, hd1, hd2, hd3, hd4, hd5, hd6, hd7, hln, ⟨_, mTl_z hvr28 h30, by rw [ew32, ew27, ew26, ew31]⟩⟩⟩, _, _, rfl, hKF29⟩ dX5_digest_350
                                              · -- 340 false
                                                refine V_iconst (v := nI 1) X dX5_digest_343 (by decide) ?_
                                                refine V_goto (tgt := 348) X dX5_digest_344 (by decide) ?_
                                                refine V_i2l X dX5_digest_348 (V.topl (fun w33 ew33 => ?_))
                                                refine V_ladd X dX5_digest_349 (V.topl (fun w34 ew34 => ?_))
                                                exact V_lret X E (by omega) (by omega) ⟨⟨_, rfl, ⟨_, _, _, _, _, _, _, _, hd1, hd2, hd3, hd4, hd5, hd6, hd7, hln, ⟨_, mTl_nz hvr28 h30, by rw [ew34, ew27, ew26, ew33]⟩⟩⟩, _, _, rfl, hKF29⟩ dX5_digest_350
                                          · -- 291 false
                                            refine V_lload_n X dX5_digest_294 1 rfl ?_
                                            refine V_ldc2 X cn_X5_267 dX5_digest_295 (V.topl (fun w35 ew35 => ?_))
                                            refine V_lmul X dX5_digest_298 (V.topl (fun w36 ew36 => ?_))
                                            refine V_aload_n X dX5_digest_299 2 rfl ?_
                                            refine V_sipush (v := nI 150) X dX5_digest_300 (by decide) ?_
                                            refine V_iload_n X dX5_digest_303 0 rfl ?_
                                            refine V_callV (rest := [.long (w36)]) X E.room ml_X5_293 in_X5_tour (ci := 7) rfl se_X5_tour (C_recv (q := 0) (by decide) rfl) (by decide) (by decide) (k_X5_tour hX (hI.mvM hJ289) hG (nI (150)) (nI (i289)) xs ys ks (hT.mvC hJ289) (hB.mvC hJ289) (hJ289.2 hC)) rfl rfl (Nat.le_of_ble_eq_true rfl) ⟨Nat.le_of_ble_eq_true rfl, Nat.le_of_ble_eq_true rfl⟩ dX5_digest_304 (fun _ _ h => False.elim (h.1.elim (fun q => q.elim (fun q => q.1 (⟨_, rfl, by omega, by omega⟩)) (fun q => (fun q => q.elim (fun q => q.1 (⟨_, rfl, by omega, by omega⟩)) (fun q => (fun q => q) q.2)) q.2)) id)) (fun v304 σ' hp304 => ?_)
                                            obtain ⟨p9, w9, ep9, lp9, ew9, lw9, r37, rfl, hrr37, F38, rfl, hJF38⟩ := hp304
                                            have zp9 : 150 = p9 := (nI_eq (by omega) (by omega)).mp ep9
                                            subst zp9
                                            have zw9 : i289 = w9 := (nI_eq (by omega) (by omega)).mp ew9
                                            subst zw9
                                            have hvr37 : tAns xs ys ks nT (150) (i289) (r37) := hrr37
                                            have hKF38 : cM F F38 := hJ289.trans hJF38
                                            refine V.shrink B 0 0 (Nat.le_refl _) (Nat.le_refl _) ?_
                                            show V g κ 5 (0) (0) (t, cW g X0 F38 σ0) 307 [(3, .int (nI (i289))), (1, .long (x289_1)), (0, .ref (X0 + 0))] [.int (r37), .long (w36)]
                                            refine V_i2l X dX5_digest_307 (V.topl (fun w39 ew39 => ?_))
                                            refine V_ladd X dX5_digest_308 (V.topl (fun w40 ew40 => ?_))
                                            refine V_lstore_n X [(1, .long (w40)), (3, .int (nI (i289))), (0, .ref (X0 + 0))] dX5_digest_309 (by decide) rfl ?_
                                            refine V_iinc X (nI (i289 + 1)) [(3, .int (nI (i289 + 1))), (1, .long (w40)), (0, .ref (X0 + 0))] dX5_digest_310 1 rfl (zinc _) (by decide) rfl ?_
                                            refine V_goto (tgt := 289) X dX5_digest_313 (by decide) ?_
                                            exact V.sub [0, 1, 2] rfl (ih289 _ (by omega) (i289 + 1) w40 F38 rfl (by omega) hKF38 (⟨_, hv289_0, ⟨_, hvr37, by rw [ew40, ew36, ew35, ew39]⟩⟩))
                                      exact L289 _ 0 x242_1 G242 rfl (by omega) hJ242 (rfl)
                                    · -- 250 false
                                      refine V_lload_n X dX5_digest_253 1 rfl ?_
                                      refine V_ldc2 X cn_X5_267 dX5_digest_254 (V.topl (fun w41 ew41 => ?_))
                                      refine V_lmul X dX5_digest_257 (V.topl (fun w42 ew42 => ?_))
                                      refine V_aload_n X dX5_digest_258 2 rfl ?_
                                      refine V_iload_n X dX5_digest_259 0 rfl ?_
                                      refine V_iconst (v := nI 2) X dX5_digest_260 (by decide) ?_
                                      refine V_callV (rest := [.long (w42)]) X E.room ml_X5_290 in_X5_ofTown (ci := 7) rfl se_X5_ofTown (C_recv (q := 0) (by decide) rfl) (by decide) (by decide) (k_X5_ofTown hX (hI.mvM hJ242) hG (nI (i242)) (nI (2)) (hB.mvC hJ242) (hJ242.2 hC)) rfl rfl (Nat.le_of_ble_eq_true rfl) ⟨Nat.le_of_ble_eq_true rfl, Nat.le_of_ble_eq_true rfl⟩ dX5_digest_261 (fun _ _ h => False.elim (h.1.elim (fun q => q.elim (fun q => q.1 (⟨_, rfl, by omega⟩)) (fun q => (fun q => q.elim (fun q => q.1 (⟨_, rfl, by omega, by omega⟩)) (fun q => (fun q => q) q.2)) q.2)) id)) (fun v261 σ' hp261 => ?_)
                                      obtain ⟨p9, w9, ep9, lp9, ew9, lw9, r43, rfl, hrr43, F44, rfl, hJF44⟩ := hp261
                                      have zp9 : i242 = p9 := (nI_eq (by omega) (by omega)).mp ep9
                                      subst zp9
                                      have zw9 : 2 = w9 := (nI_eq (by omega) (by omega)).mp ew9
                                      subst zw9
                                      have hvr43 : cTn F (i242) (2) (r43) := by have z : cTn G242 (i242) (2) (r43) := hrr43; rw [cTn_W (hJ242).1] at z; exact z
                                      have hKF44 : cM F F44 := hJ242.trans hJF44
                                      refine V.shrink B 0 0 (Nat.le_refl _) (Nat.le_refl _) ?_
                                      show V g κ 5 (0) (0) (t, cW g X0 F44 σ0) 264 [(3, .int (nI (i242))), (1, .long (x242_1)), (0, .ref (X0 + 0))] [.int (r43), .long (w42)]
                                      refine V_i2l X dX5_digest_264 (V.topl (fun w45 ew45 => ?_))
                                      refine V_ladd X dX5_digest_265 (V.topl (fun w46 ew46 => ?_))
                                      have hto : dS (cTn F i242 2) x242_1 w46 := ⟨_, hvr43, by rw [ew46, ew42, ew41, ew45]⟩
                                      refine V_lstore_n X [(1, .long (w46)), (3, .int (nI (i242))), (0, .ref (X0 + 0))] dX5_digest_266 (by decide) rfl ?_
                                      refine V_lload_n X dX5_digest_267 0 rfl ?_
                                      refine V_ldc2 X cn_X5_267 dX5_digest_268 (V.topl (fun w47 ew47 => ?_))
                                      refine V_lmul X dX5_digest_271 (V.topl (fun w48 ew48 => ?_))
                                      refine V_aload_n X dX5_digest_272 2 rfl ?_
                                      refine V_iload_n X dX5_digest_273 1 rfl ?_
                                      refine V_iconst (v := nI 3) X dX5_digest_274 (by decide) ?_
                                      refine V_callV (rest := [.long (w48)]) X E.room ml_X5_290 in_X5_ofTown (ci := 7) rfl se_X5_ofTown (C_recv (q := 0) (by decide) rfl) (by decide) (by decide) (k_X5_ofTown hX (hI.mvM hKF44) hG (nI (i242)) (nI (3)) (hB.mvC hKF44) (hKF44.2 hC)) rfl rfl (Nat.le_of_ble_eq_true rfl) ⟨Nat.le_of_ble_eq_true rfl, Nat.le_of_ble_eq_true rfl⟩ dX5_digest_275 (fun _ _ h => False.elim (h.1.elim (fun q => q.elim (fun q => q.1 (⟨_, rfl, by omega⟩)) (fun q => (fun q => q.elim (fun q => q.1 (⟨_, rfl, by omega, by omega⟩)) (fun q => (fun q => q) q.2)) q.2)) id)) (fun v275 σ' hp275 => ?_)
                                      obtain ⟨p9, w9, ep9, lp9, ew9, lw9, r49, rfl, hrr49, F50, rfl, hJF50⟩ := hp275
                                      have zp9 : i242 = p9 := (nI_eq (by omega) (by omega)).mp ep9
                                      subst zp9
                                      have zw9 : 3 = w9 := (nI_eq (by omega) (by omega)).mp ew9
                                      subst zw9
                                      have hvr49 : cTn F (i242) (3) (r49) := by have z : cTn F44 (i242) (3) (r49) := hrr49; rw [cTn_W (hKF44).1] at z; exact z
                                      have hKF50 : cM F F50 := hKF44.trans hJF50
                                      refine V.shrink B 0 0 (Nat.le_refl _) (Nat.le_refl _) ?_
                                      show V g κ 5 (0) (0) (t, cW g X0 F50 σ0) 278 [(1, .long (w46)), (3, .int (nI (i242))), (0, .ref (X0 + 0))] [.int (r49), .long (w48)]
                                      refine V_i2l X dX5_digest_278 (V.topl (fun w51 ew51 => ?_))
                                      refine V_ladd X dX5_digest_279 (V.topl (fun w52 ew52 => ?_))
                                      refine V_lstore_n X [(1, .long (w52)), (3, .int (nI (i242))), (0, .ref (X0 + 0))] dX5_digest_280 (by decide) rfl ?_
                                      refine V_iinc X (nI (i242 + 1)) [(3, .int (nI (i242 + 1))), (1, .long (w52)), (0, .ref (X0 + 0))] dX5_digest_281 1 rfl (zinc _) (by decide) rfl ?_
                                      refine V_goto (tgt := 242) X dX5_digest_284 (by decide) ?_
                                      exact V.sub [0, 1, 2] rfl (ih242 _ (by omega) (i242 + 1) w52 F50 rfl (by omega) hKF50 (⟨_, hv242_0, ⟨_, hto, ⟨_, hvr49, by rw [ew52, ew48, ew47, ew51]⟩⟩⟩))
                                exact L242 _ 0 x209_1 G209 rfl (by omega) hJ209 (rfl)
                              · -- 217 false
                                refine V_lload_n X dX5_digest_220 1 rfl ?_
                                refine V_ldc2 X cn_X5_267 dX5_digest_221 (V.topl (fun w53 ew53 => ?_))
                                refine V_lmul X dX5_digest_224 (V.topl (fun w54 ew54 => ?_))
                                refine V_aload_n X dX5_digest_225 2 rfl ?_
                                refine V_iload_n X dX5_digest_226 0 rfl ?_
                                refine V_iconst (v := nI 3) X dX5_digest_227 (by decide) ?_
                                refine V_callV (rest := [.long (w54)]) X E.room ml_X5_287 in_X5_ofCoat (ci := 7) rfl se_X5_ofCoat (C_recv (q := 0) (by decide) rfl) (by decide) (by decide) (k_X5_ofCoat hX (hI.mvM hJ209) hG (nI (i209)) (nI (3)) (hB.mvC hJ209) (hJ209.2 hC)) rfl rfl (Nat.le_of_ble_eq_true rfl) ⟨Nat.le_of_ble_eq_true rfl, Nat.le_of_ble_eq_true rfl⟩ dX5_digest_228 (fun _ _ h => False.elim (h.1.elim (fun q => q.elim (fun q => q.1 (⟨_, rfl, by omega⟩)) (fun q => (fun q => q.elim (fun q => q.1 (⟨_, rfl, by omega, by omega⟩)) (fun q => (fun q => q) q.2)) q.2)) id)) (fun v228 σ' hp228 => ?_)
                                obtain ⟨p9, w9, ep9, lp9, ew9, lw9, r55, rfl, hrr55, F56, rfl, hJF56⟩ := hp228
                                have zp9 : i209 = p9 := (nI_eq (by omega) (by omega)).mp ep9
                                subst zp9
                                have zw9 : 3 = w9 := (nI_eq (by omega) (by omega)).mp ew9
                                subst zw9
                                have hvr55 : cCt F (i209) (3) (r55) := by have z : cCt G209 (i209) (3) (r55) := hrr55; rw [cCt_W (hJ209).1] at z; exact z
                                have hKF56 : cM F F56 := hJ209.trans hJF56
                                refine V.shrink B 0 0 (Nat.le_refl _) (Nat.le_refl _) ?_
                                show V g κ 5 (0) (0) (t, cW g X0 F56 σ0) 231 [(3, .int (nI (i209))), (1, .long (x209_1)), (0, .ref (X0 + 0))] [.int (r55), .long (w54)]
                                refine V_i2l X dX5_digest_231 (V.topl (fun w57 ew57 => ?_))
                                refine V_ladd X dX5_digest_232 (V.topl (fun w58 ew58 => ?_))
                                refine V_lstore_n X [(1, .long (w58)), (3, .int (nI (i209))), (0, .ref (X0 + 0))] dX5_digest_233 (by decide) rfl ?_
                                refine V_iinc X (nI (i209 + 1)) [(3, .int (nI (i209 + 1))), (1, .long (w58)), (0, .ref (X0 + 0))] dX5_digest_234 1 rfl (zinc _) (by decide) rfl ?_
                                refine V_goto (tgt := 209) X dX5_digest_237 (by decide) ?_
                                exact V.sub [0, 1, 2] rfl (ih209 _ (by omega) (i209 + 1) w58 F56 rfl (by omega) hKF56 (⟨_, hv209_0, ⟨_, hvr55, by rw [ew58, ew54, ew53, ew57]⟩⟩))
                          exact L209 _ 0 x160_1 G160 rfl (by omega) hJ160 (rfl)
                        · -- 168 false
                          refine V_iconst (v := nI 0) X dX5_digest_171 (by decide) ?_
                          refine V_istore X [(4, .int (nI (0))), (3, .int (nI (i160))), (1, .long (x160_1)), (0, .ref (X0 + 0))] dX5_digest_172 (by decide) rfl ?_
                          have L174 : ∀ (n174 : Nat) (i174 : Nat) (x174_1 : Int64) (G174 : Nat → Nat → Int32), n174 = 6 - i174 → i174 ≤ 6 → cM F G174 → dN (fun w => dS (cSc nP nS nA nC F i160 w)) i174 x160_1 x174_1 → V g κ 5 (0) (0) (t, cW g X0 G174 σ0) 174 [(4, .int (nI (i174))), (3, .int (nI (i160))), (1, .long (x174_1)), (0, .ref (X0 + 0))] [] := by
                            intro n174
                            induction n174 using Nat.strongRecOn with
                            | ind n174 ih174 =>
                              intro i174 x174_1 G174 hn174 hi174 hJ174 hv174_0
                              refine V_iload X dX5_digest_174 0 rfl ?_
                              refine V_iconst (v := nI 5) X dX5_digest_176 (by decide) ?_
                              refine V_icmpgtN X (by omega) (by omega) (tgt := 201) dX5_digest_177 (by decide) (fun h59 => ?_) (fun h59 => ?_)
                              · -- 177 true
                                have hin : dN (fun w => dS (cSc nP nS nA nC F i160 w)) 6 x160_1 x174_1 := by have z := hv174_0; rw [show i174 = 6 by omega] at z; exact z
                                refine V_iinc X (nI (i160 + 1)) [(3, .int (nI (i160 + 1))), (4, .int (nI (i174))), (1, .long (x174_1)), (0, .ref (X0 + 0))] dX5_digest_201 1 rfl (zinc _) (by decide) rfl ?_
                                refine V_goto (tgt := 160) X dX5_digest_204 (by decide) ?_
                                exact V.sub [0, 2, 3] rfl (ih160 _ (by omega) (i160 + 1) x174_1 G174 rfl (by omega) hJ174 (⟨_, hv160_0, hin⟩))
                              · -- 177 false
                                refine V_lload_n X dX5_digest_180 2 rfl ?_
                                refine V_ldc2 X cn_X5_267 dX5_digest_181 (V.topl (fun w60 ew60 => ?_))
                                refine V_lmul X dX5_digest_184 (V.topl (fun w61 ew61 => ?_))
                                refine V_aload_n X dX5_digest_185 3 rfl ?_
                                refine V_iload_n X dX5_digest_186 1 rfl ?_
                                refine V_iload X dX5_digest_187 0 rfl ?_
                                refine V_callV (rest := [.long (w61)]) X E.room ml_X5_284 in_X5_ofScene (ci := 7) rfl se_X5_ofScene (C_recv (q := 0) (by decide) rfl) (by decide) (by decide) (k_X5_ofScene hX (hI.mvM hJ174) hG (nI (i160)) (nI (i174)) (hD.mvC hJ174) (hB.mvC hJ174) (hJ174.2 hC)) rfl rfl (Nat.le_of_ble_eq_true rfl) ⟨Nat.le_of_ble_eq_true rfl, Nat.le_of_ble_eq_true rfl⟩ dX5_digest_189 (fun _ _ h => False.elim (h.1.elim (fun q => q.elim (fun q => q.1 (⟨_, rfl, by omega⟩)) (fun q => (fun q => q.elim (fun q => q.1 (⟨_, rfl, by omega, by omega⟩)) (fun q => (fun q => q) q.2)) q.2)) id)) (fun v189 σ' hp189 => ?_)
                                obtain ⟨p9, w9, ep9, lp9, ew9, lw9, r62, rfl, hrr62, F63, rfl, hJF63⟩ := hp189
                                have zp9 : i160 = p9 := (nI_eq (by omega) (by omega)).mp ep9
                                subst zp9
                                have zw9 : i174 = w9 := (nI_eq (by omega) (by omega)).mp ew9
                                subst zw9
                                have hvr62 : cSc nP nS nA nC F (i160) (i174) (r62) := by have z : cSc nP nS nA nC G174 (i160) (i174) (r62) := hrr62; rw [cSc_W (hJ174).1] at z; exact z
                                have hKF63 : cM F F63 := hJ174.trans hJF63
                                refine V.shrink B 0 0 (Nat.le_refl _) (Nat.le_refl _) ?_
                                show V g κ 5 (0) (0) (t, cW g X0 F63 σ0) 192 [(4, .int (nI (i174))), (3, .int (nI (i160))), (1, .long (x174_1)), (0, .ref (X0 + 0))] [.int (r62), .long (w61)]
                                refine V_i2l X dX5_digest_192 (V.topl (fun w64 ew64 => ?_))
                                refine V_ladd X dX5_digest_193 (V.topl (fun w65 ew65 => ?_))
                                refine V_lstore_n X [(1, .long (w65)), (4, .int (nI (i174))), (3, .int (nI (i160))), (0, .ref (X0 + 0))] dX5_digest_194 (by decide) rfl ?_
                                refine V_iinc X (nI (i174 + 1)) [(4, .int (nI (i174 + 1))), (1, .long (w65)), (3, .int (nI (i160))), (0, .ref (X0 + 0))] dX5_digest_195 1 rfl (zinc _) (by decide) rfl ?_
                                refine V_goto (tgt := 174) X dX5_digest_198 (by decide) ?_
                                exact V.sub [0, 2, 1, 3] rfl (ih174 _ (by omega) (i174 + 1) w65 F63 rfl (by omega) hKF63 (⟨_, hv174_0, ⟨_, hvr62, by rw [ew65, ew61, ew60, ew64]⟩⟩))
                          exact L174 _ 0 x160_1 G160 rfl (by omega) hJ160 (rfl)
                    exact L160 _ 0 x83_1 G83 rfl (by omega) hJ83 (rfl)
                  · -- 91 false
                    refine V_iconst (v := nI 0) X dX5_digest_94 (by decide) ?_
                    refine V_istore X [(4, .int (nI (0))), (3, .int (nI (i83))), (1, .long (x83_1)), (0, .ref (X0 + 0))] dX5_digest_95 (by decide) rfl ?_
                    have L97 : ∀ (n97 : Nat) (i97 : Nat) (x97_1 : Int64) (G97 : Nat → Nat → Int32), n97 = 6 - i97 → i97 ≤ 6 → cM F G97 → dN (fun w => dS (cPl nP nS nA F i83 w)) i97 x83_1 x97_1 → V g κ 5 (0) (0) (t, cW g X0 G97 σ0) 97 [(4, .int (nI (i97))), (3, .int (nI (i83))), (1, .long (x97_1)), (0, .ref (X0 + 0))] [] := by
                      intro n97
                      induction n97 using Nat.strongRecOn with
                      | ind n97 ih97 =>
                        intro i97 x97_1 G97 hn97 hi97 hJ97 hv97_0
                        refine V_iload X dX5_digest_97 0 rfl ?_
                        refine V_iconst (v := nI 5) X dX5_digest_99 (by decide) ?_
                        refine V_icmpgtN X (by omega) (by omega) (tgt := 124) dX5_digest_100 (by decide) (fun h66 => ?_) (fun h66 => ?_)
                        · -- 100 true
                          have hin : dN (fun w => dS (cPl nP nS nA F i83 w)) 6 x83_1 x97_1 := by have z := hv97_0; rw [show i97 = 6 by omega] at z; exact z
                          refine V_lload_n X dX5_digest_124 2 rfl ?_
                          refine V_ldc2 X cn_X5_267 dX5_digest_125 (V.topl (fun w67 ew67 => ?_))
                          refine V_lmul X dX5_digest_128 (V.topl (fun w68 ew68 => ?_))
                          refine V_aload_n X dX5_digest_129 3 rfl ?_
                          refine V_iload_n X dX5_digest_130 1 rfl ?_
                          refine V_callV (rest := [.long (w68)]) X E.room ml_X5_278 in_X5_without (ci := 7) rfl se_X5_without (C_recv (q := 0) (by decide) rfl) (by decide) (by decide) (k_X5_without hX (hI.mvM hJ97) hG (nI (i83)) (hB.mvC hJ97) (hJ97.2 hC)) rfl rfl (Nat.le_of_ble_eq_true rfl) ⟨Nat.le_of_ble_eq_true rfl, Nat.le_of_ble_eq_true rfl⟩ dX5_digest_131 (fun _ _ h => False.elim (h.1.elim (fun q => q.elim (fun q => q.1 (⟨_, rfl, by omega⟩)) (fun q => (fun q => q) q.2)) id)) (fun v131 σ' hp131 => ?_)
                          obtain ⟨p9, ep9, lp9, r69, rfl, hrr69, F70, rfl, hJF70⟩ := hp131
                          have zp9 : i83 = p9 := (nI_eq (by omega) (by omega)).mp ep9
                          subst zp9
                          have hvr69 : cWo nP nS nA F (i83) (r69) := by have z : cWo nP nS nA G97 (i83) (r69) := hrr69; rw [cWo_W (hJ97).1] at z; exact z
                          have hKF70 : cM F F70 := hJ97.trans hJF70
                          refine V.shrink B 0 0 (Nat.le_refl _) (Nat.le_refl _) ?_
                          show V g κ 5 (0) (0) (t, cW g X0 F70 σ0) 134 [(4, .int (nI (i97))), (3, .int (nI (i83))), (1, .long (x97_1)), (0, .ref (X0 + 0))] [.int (r69), .long (w68)]
                          refine V_i2l X dX5_digest_134 (V.topl (fun w71 ew71 => ?_))
                          refine V_ladd X dX5_digest_135 (V.topl (fun w72 ew72 => ?_))
                          have hwo : dS (cWo nP nS nA F i83) x97_1 w72 := ⟨_, hvr69, by rw [ew72, ew68, ew67, ew71]⟩
                          refine V_lstore_n X [(1, .long (w72)), (4, .int (nI (i97))), (3, .int (nI (i83))), (0, .ref (X0 + 0))] dX5_digest_136 (by decide) rfl ?_
                          refine V_lload_n X dX5_digest_137 0 rfl ?_
                          refine V_ldc2 X cn_X5_267 dX5_digest_138 (V.topl (fun w73 ew73 => ?_))
                          refine V_lmul X dX5_digest_141 (V.topl (fun w74 ew74 => ?_))
                          refine V_aload_n X dX5_digest_142 3 rfl ?_
                          refine V_bipush (v := nI 100) X dX5_digest_143 (by decide) ?_
                          refine V_iload_n X dX5_digest_145 2 rfl ?_
                          refine V_callV (rest := [.long (w74)]) X E.room ml_X5_281 in_X5_shareOf (ci := 7) rfl se_X5_shareOf (C_recv (q := 0) (by decide) rfl) (by decide) (by decide) (k_X5_shareOf hX (hI.mvM hKF70) hG (nI (100)) (nI (i83)) (hB.mvC hKF70) (hKF70.2 hC)) rfl rfl (Nat.le_of_ble_eq_true rfl) ⟨Nat.le_of_ble_eq_true rfl, Nat.le_of_ble_eq_true rfl⟩ dX5_digest_146 (fun _ _ h => False.elim (h.1.elim (fun q => q.elim (fun q => q.1 (⟨_, rfl, by omega⟩)) (fun q => (fun q => q.elim (fun q => q.1 (⟨_, rfl, by omega, by omega⟩)) (fun q => (fun q => q) q.2)) q.2)) id)) (fun v146 σ' hp146 => ?_)
                          obtain ⟨p9, ep9, lp9, -, r75, rfl, hrr75, F76, rfl, hJF76⟩ := hp146
                          have zp9 : i83 = p9 := (nI_eq (by omega) (by omega)).mp ep9
                          subst zp9
                          have hvr75 : cSh nP nS nA F (nI (100)) (i83) (r75) := by have z : cSh nP nS nA F70 (nI (100)) (i83) (r75) := hrr75; rw [cSh_W (hKF70).1] at z; exact z
                          have hKF76 : cM F F76 := hKF70.trans hJF76
                          refine V.shrink B 0 0 (Nat.le_refl _) (Nat.le_refl _) ?_
                          show V g κ 5 (0) (0) (t, cW g X0 F76 σ0) 149 [(1, .long (w72)), (4, .int (nI (i97))), (3, .int (nI (i83))), (0, .ref (X0 + 0))] [.int (r75), .long (w74)]
                          refine V_i2l X dX5_digest_149 (V.topl (fun w77 ew77 => ?_))
                          refine V_ladd X dX5_digest_150 (V.topl (fun w78 ew78 => ?_))
                          refine V_lstore_n X [(1, .long (w78)), (4, .int (nI (i97))), (3, .int (nI (i83))), (0, .ref (X0 + 0))] dX5_digest_151 (by decide) rfl ?_
                          refine V_iinc X (nI (i83 + 1)) [(3, .int (nI (i83 + 1))), (1, .long (w78)), (4, .int (nI (i97))), (0, .ref (X0 + 0))] dX5_digest_152 2 rfl (zinc _) (by decide) rfl ?_
                          refine V_goto (tgt := 83) X dX5_digest_155 (by decide) ?_
                          exact V.sub [0, 1, 3] rfl (ih83 _ (by omega) (i83 + 1) w78 F76 rfl (by omega) hKF76 (⟨_, hv83_0, ⟨_, _, hin, hwo, ⟨_, hvr75, by rw [ew78, ew74, ew73, ew77]⟩⟩⟩))
                        · -- 100 false
                          refine V_lload_n X dX5_digest_103 2 rfl ?_
                          refine V_ldc2 X cn_X5_267 dX5_digest_104 (V.topl (fun w79 ew79 => ?_))
                          refine V_lmul X dX5_digest_107 (V.topl (fun w80 ew80 => ?_))
                          refine V_aload_n X dX5_digest_108 3 rfl ?_
                          refine V_iload_n X dX5_digest_109 1 rfl ?_
                          refine V_iload X dX5_digest_110 0 rfl ?_
                          refine V_callV (rest := [.long (w80)]) X E.room ml_X5_275 in_X5_ofPlayer (ci := 7) rfl se_X5_ofPlayer (C_recv (q := 0) (by decide) rfl) (by decide) (by decide) (k_X5_ofPlayer hX (hI.mvM hJ97) hG (nI (i83)) (nI (i97)) (hB.mvC hJ97) (hJ97.2 hC)) rfl rfl (Nat.le_of_ble_eq_true rfl) ⟨Nat.le_of_ble_eq_true rfl, Nat.le_of_ble_eq_true rfl⟩ dX5_digest_112 (fun _ _ h => False.elim (h.1.elim (fun q => q.elim (fun q => q.1 (⟨_, rfl, by omega⟩)) (fun q => (fun q => q.elim (fun q => q.1 (⟨_, rfl, by omega, by omega⟩)) (fun q => (fun q => q) q.2)) q.2)) id)) (fun v112 σ' hp112 => ?_)
                          obtain ⟨p9, w9, ep9, lp9, ew9, lw9, r81, rfl, hrr81, F82, rfl, hJF82⟩ := hp112
                          have zp9 : i83 = p9 := (nI_eq (by omega) (by omega)).mp ep9
                          subst zp9
                          have zw9 : i97 = w9 := (nI_eq (by omega) (by omega)).mp ew9
                          subst zw9
                          have hvr81 : cPl nP nS nA F (i83) (i97) (r81) := by have z : cPl nP nS nA G97 (i83) (i97) (r81) := hrr81; rw [cPl_W (hJ97).1] at z; exact z
                          have hKF82 : cM F F82 := hJ97.trans hJF82
                          refine V.shrink B 0 0 (Nat.le_refl _) (Nat.le_refl _) ?_
                          show V g κ 5 (0) (0) (t, cW g X0 F82 σ0) 115 [(4, .int (nI (i97))), (3, .int (nI (i83))), (1, .long (x97_1)), (0, .ref (X0 + 0))] [.int (r81), .long (w80)]
                          refine V_i2l X dX5_digest_115 (V.topl (fun w83 ew83 => ?_))
                          refine V_ladd X dX5_digest_116 (V.topl (fun w84 ew84 => ?_))
                          refine V_lstore_n X [(1, .long (w84)), (4, .int (nI (i97))), (3, .int (nI (i83))), (0, .ref (X0 + 0))] dX5_digest_117 (by decide) rfl ?_
                          refine V_iinc X (nI (i97 + 1)) [(4, .int (nI (i97 + 1))), (1, .long (w84)), (3, .int (nI (i83))), (0, .ref (X0 + 0))] dX5_digest_118 1 rfl (zinc _) (by decide) rfl ?_
                          refine V_goto (tgt := 97) X dX5_digest_121 (by decide) ?_
                          exact V.sub [0, 2, 1, 3] rfl (ih97 _ (by omega) (i97 + 1) w84 F82 rfl (by omega) hKF82 (⟨_, hv97_0, ⟨_, hvr81, by rw [ew84, ew80, ew79, ew83]⟩⟩))
                    exact L97 _ 0 x83_1 G83 rfl (by omega) hJ83 (rfl)
              exact L83 _ 0 x33_1 G33 rfl (by omega) hJ33 (rfl)
            · -- 41 false
              refine V_iconst (v := nI 0) X dX5_digest_44 (by decide) ?_
              refine V_istore X [(4, .int (nI (0))), (3, .int (nI (i33))), (1, .long (x33_1)), (0, .ref (X0 + 0))] dX5_digest_45 (by decide) rfl ?_
              have L47 : ∀ (n47 : Nat) (i47 : Nat) (x47_1 : Int64) (G47 : Nat → Nat → Int32), n47 = 7 - i47 → i47 ≤ 7 → cM F G47 → dN (fun w => dS (cPt nP nS nA F i33 w)) i47 x33_1 x47_1 → V g κ 5 (0) (0) (t, cW g X0 G47 σ0) 47 [(4, .int (nI (i47))), (3, .int (nI (i33))), (1, .long (x47_1)), (0, .ref (X0 + 0))] [] := by
                intro n47
                induction n47 using Nat.strongRecOn with
                | ind n47 ih47 =>
                  intro i47 x47_1 G47 hn47 hi47 hJ47 hv47_0
                  refine V_iload X dX5_digest_47 0 rfl ?_
                  refine V_bipush (v := nI 6) X dX5_digest_49 (by decide) ?_
                  refine V_icmpgtN X (by omega) (by omega) (tgt := 75) dX5_digest_51 (by decide) (fun h85 => ?_) (fun h85 => ?_)
                  · -- 51 true
                    have hin : dN (fun w => dS (cPt nP nS nA F i33 w)) 7 x33_1 x47_1 := by have z := hv47_0; rw [show i47 = 7 by omega] at z; exact z
                    refine V_iinc X (nI (i33 + 1)) [(3, .int (nI (i33 + 1))), (4, .int (nI (i47))), (1, .long (x47_1)), (0, .ref (X0 + 0))] dX5_digest_75 1 rfl (zinc _) (by decide) rfl ?_
                    refine V_goto (tgt := 33) X dX5_digest_78 (by decide) ?_
                    exact V.sub [0, 2, 3] rfl (ih33 _ (by omega) (i33 + 1) x47_1 G47 rfl (by omega) hJ47 (⟨_, hv33_0, hin⟩))
                  · -- 51 false
                    refine V_lload_n X dX5_digest_54 2 rfl ?_
                    refine V_ldc2 X cn_X5_267 dX5_digest_55 (V.topl (fun w86 ew86 => ?_))
                    refine V_lmul X dX5_digest_58 (V.topl (fun w87 ew87 => ?_))
                    refine V_aload_n X dX5_digest_59 3 rfl ?_
                    refine V_iload_n X dX5_digest_60 1 rfl ?_
                    refine V_iload X dX5_digest_61 0 rfl ?_
                    refine V_callV (rest := [.long (w87)]) X E.room ml_X5_272 in_X5_ofPart (ci := 7) rfl se_X5_ofPart (C_recv (q := 0) (by decide) rfl) (by decide) (by decide) (k_X5_ofPart hX (hI.mvM hJ47) hG (nI (i33)) (nI (i47)) (hB.mvC hJ47) (hJ47.2 hC)) rfl rfl (Nat.le_of_ble_eq_true rfl) ⟨Nat.le_of_ble_eq_true rfl, Nat.le_of_ble_eq_true rfl⟩ dX5_digest_63 (fun _ _ h => False.elim (h.1.elim (fun q => q.elim (fun q => q.1 (⟨_, rfl, by omega⟩)) (fun q => (fun q => q.elim (fun q => q.1 (⟨_, rfl, by omega, by omega⟩)) (fun q => (fun q => q) q.2)) q.2)) id)) (fun v63 σ' hp63 => ?_)
                    obtain ⟨p9, w9, ep9, lp9, ew9, lw9, r88, rfl, hrr88, F89, rfl, hJF89⟩ := hp63
                    have zp9 : i33 = p9 := (nI_eq (by omega) (by omega)).mp ep9
                    subst zp9
                    have zw9 : i47 = w9 := (nI_eq (by omega) (by omega)).mp ew9
                    subst zw9
                    have hvr88 : cPt nP nS nA F (i33) (i47) (r88) := by have z : cPt nP nS nA G47 (i33) (i47) (r88) := hrr88; rw [cPt_W (hJ47).1] at z; exact z
                    have hKF89 : cM F F89 := hJ47.trans hJF89
                    refine V.shrink B 0 0 (Nat.le_refl _) (Nat.le_refl _) ?_
                    show V g κ 5 (0) (0) (t, cW g X0 F89 σ0) 66 [(4, .int (nI (i47))), (3, .int (nI (i33))), (1, .long (x47_1)), (0, .ref (X0 + 0))] [.int (r88), .long (w87)]
                    refine V_i2l X dX5_digest_66 (V.topl (fun w90 ew90 => ?_))
                    refine V_ladd X dX5_digest_67 (V.topl (fun w91 ew91 => ?_))
                    refine V_lstore_n X [(1, .long (w91)), (4, .int (nI (i47))), (3, .int (nI (i33))), (0, .ref (X0 + 0))] dX5_digest_68 (by decide) rfl ?_
                    refine V_iinc X (nI (i47 + 1)) [(4, .int (nI (i47 + 1))), (1, .long (w91)), (3, .int (nI (i33))), (0, .ref (X0 + 0))] dX5_digest_69 1 rfl (zinc _) (by decide) rfl ?_
                    refine V_goto (tgt := 47) X dX5_digest_72 (by decide) ?_
                    exact V.sub [0, 2, 1, 3] rfl (ih47 _ (by omega) (i47 + 1) w91 F89 rfl (by omega) hKF89 (⟨_, hv47_0, ⟨_, hvr88, by rw [ew91, ew87, ew86, ew90]⟩⟩))
              exact L47 _ 0 x33_1 G33 rfl (by omega) hJ33 (rfl)
        exact L33 _ 0 x6_1 G6 rfl (by omega) hJ6 (rfl)
      · -- 9 false
        refine V_lload_n X dX5_digest_12 1 rfl ?_
        refine V_ldc2 X cn_X5_267 dX5_digest_13 (V.topl (fun w92 ew92 => ?_))
        refine V_lmul X dX5_digest_16 (V.topl (fun w93 ew93 => ?_))
        refine V_aload_n X dX5_digest_17 2 rfl ?_
        refine V_iload_n X dX5_digest_18 0 rfl ?_
        refine V_callV (rest := [.long (w93)]) X E.room ml_X5_269 in_X5_house (ci := 7) rfl se_X5_house (C_recv (q := 0) (by decide) rfl) (by decide) (by decide) (k_X5_house hX (hI.mvM hJ6) hG (nI (i6)) (hB.mvC hJ6) (hJ6.2 hC)) rfl rfl (Nat.le_of_ble_eq_true rfl) ⟨Nat.le_of_ble_eq_true rfl, Nat.le_of_ble_eq_true rfl⟩ dX5_digest_19 (fun _ _ h => False.elim (h.1.elim (fun q => q.elim (fun q => q.1 (⟨_, rfl, by omega, by omega⟩)) (fun q => (fun q => q) q.2)) id)) (fun v19 σ' hp19 => ?_)
        obtain ⟨w9, ew9, lw9, r94, rfl, hrr94, F95, rfl, hJF95⟩ := hp19
        have zw9 : i6 = w9 := (nI_eq (by omega) (by omega)).mp ew9
        subst zw9
        have hvr94 : cHo nP nS nA nC nT F (i6) (r94) := by have z : cHo nP nS nA nC nT G6 (i6) (r94) := hrr94; rw [cHo_W (hJ6).1] at z; exact z
        have hKF95 : cM F F95 := hJ6.trans hJF95
        refine V.shrink B 0 0 (Nat.le_refl _) (Nat.le_refl _) ?_
        show V g κ 5 (0) (0) (t, cW g X0 F95 σ0) 22 [(3, .int (nI (i6))), (1, .long (x6_1)), (0, .ref (X0 + 0))] [.int (r94), .long (w93)]
        refine V_i2l X dX5_digest_22 (V.topl (fun w96 ew96 => ?_))
        refine V_ladd X dX5_digest_23 (V.topl (fun w97 ew97 => ?_))
        refine V_lstore_n X [(1, .long (w97)), (3, .int (nI (i6))), (0, .ref (X0 + 0))] dX5_digest_24 (by decide) rfl ?_
        refine V_iinc X (nI (i6 + 1)) [(3, .int (nI (i6 + 1))), (1, .long (w97)), (0, .ref (X0 + 0))] dX5_digest_25 1 rfl (zinc _) (by decide) rfl ?_
        refine V_goto (tgt := 6) X dX5_digest_28 (by decide) ?_
        exact V.sub [0, 1, 2] rfl (ih6 _ (by omega) (i6 + 1) w97 F95 rfl (by omega) hKF95 (⟨_, hv6_0, ⟨_, hvr94, by rw [ew97, ew93, ew92, ew96]⟩⟩))
  exact L6 _ 0 w1 F rfl (by omega) cM.rfl' (ew1)
