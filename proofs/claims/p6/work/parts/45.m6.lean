/-! ===== cast, digest of the class ===== -/
def qStrC (g : zG) (X0 : Nat) (F : Nat → Nat → Int32) (σ0 : Nat → Option va_E) : Option Value → zS → Prop := fun v σ' => ∃ (t' : Nat × Nat) (F' : Nat → Nat → Int32), cM F F' ∧ ((v = some (.ref (g.2.2.2 6)) ∧ σ' = (t', cW g X0 F' σ0)) ∨ ∃ (Sx n : Nat) (fw : Nat → Int32), n ≤ 7 ∧ v = some (.ref Sx) ∧ σ' = (t', cW g X0 F' (zSx g σ0 Sx n fw)) ∧ cFree X0 σ0 Sx ∧ cFree X0 σ0 (Sx + 1))
def qDigC (g : zG) (X0 : Nat) (F : Nat → Nat → Int32) (σ0 : Nat → Option va_E) : Option Value → zS → Prop := fun v σ' => (∃ x, v = some (.long x)) ∧ ∃ (t' : Nat × Nat) (F' : Nat → Nat → Int32), σ' = (t', cW g X0 F' σ0) ∧ cM F F'
set_option maxRecDepth 100000 in
set_option maxHeartbeats 4000000 in
theorem k_X5_cast {g : zG} {t : Nat × Nat} {X0 : Nat} {σ0 : Nat → Option va_E} {F : Nat → Nat → Int32} (hX : g.2.1.size ≤ X0) {nP nS nA nC nT : Nat} (hI : cI nP nS nA nC nT F)  (hB : cBd nP nS nA F) (hC : cK F) : Ct g 22 yX5_cast cX5_cast 4 (some (FieldType.object "java/lang/String")) 4 31 [.ref (X0 + 0)] (t, cW g X0 F σ0) (qStrC g X0 F σ0) zNo := by
  refine Ct.of (lv := [(0, .ref (X0 + 0))]) (by decide) (Nat.le_of_ble_eq_true rfl) rfl ?_
  intro κ X E B _
  have X : zX g κ RX5 cX5_cast 4 := X
  obtain ⟨b1, b2, b3, b4, b5⟩ := hI.bnd
  refine V_aload_n X dX5_cast_0 0 rfl ?_
  refine C_getf X fl_X5_26 0 (by decide) rfl rfl dX5_cast_1 ?_
  refine V_aload_n X dX5_cast_4 0 rfl ?_
  refine C_getf X fl_X5_10 0 (by decide) rfl rfl dX5_cast_5 ?_
  refine V_aload_n X dX5_cast_8 0 rfl ?_
  refine C_getf X fl_X5_19 0 (by decide) rfl rfl dX5_cast_9 ?_
  refine V_callV (rest := []) X E.room ml_X5_133 in_X0_recall (ci := 4) rfl se_X0_recall (C_recv (q := 12) (by decide) rfl) (by decide) (by decide) (k_X0_recall hX hI hB) rfl rfl (Nat.le_of_ble_eq_true rfl) ⟨Nat.le_of_ble_eq_true rfl, Nat.le_of_ble_eq_true rfl⟩ dX5_cast_12 (fun _ _ h => False.elim h) (fun v12 σ' hp12 => ?_)
  obtain ⟨hp12, F1, rfl, hJF1, hkF1⟩ := hp12
  cases (hp12 : _ = none)
  show V g κ 4 (0) (0) (t, cW g X0 F1 σ0) 15 [(0, .ref (X0 + 0))] []
  refine V_aload_n X dX5_cast_15 0 rfl ?_
  refine C_getf X fl_X5_26 0 (by decide) rfl rfl dX5_cast_16 ?_
  refine C_getf X fl_X5_220 12 (by decide) rfl rfl dX5_cast_19 (V.topi (fun x2 ex2 => ?_))
  refine V_iconst (v := (-1)) X dX5_cast_22 (by decide) ?_
  refine V_icmpne X (tgt := 29) dX5_cast_23 (by decide) (fun h3 => ?_) (fun h3 => ?_)
  · -- 23 true
    refine V.fr (fun hfr => ?_)
    have fB := cFresh (t := t) hfr (k := t.1) (Nat.le_refl _)
    have fV := cFresh (t := t) hfr (k := t.1 + 1) (by omega)
    have fS := cFresh (t := t) hfr (k := t.1 + 2) (by omega)
    have fW := cFresh (t := t) hfr (k := t.1 + 3) (by omega)
    have gB : g.2.1.size ≤ t.1 := (by have h1 : X0 + 0 < t.1 := hfr _ _ (cW_at (k := 0) (by decide)); omega)
    refine V_new X E.room (ci := 1) (fs := [.null, .int (nI (0)), .int (nI (0)), .int (nI (0))]) rfl zi_J4 tyJ4 tyJ4_ok cl_X5_231 mk_J4 nz_J4 (by intro j hj; match j, hj with | 0, _ => rfl | 1, _ => rfl | 2, _ => rfl | 3, _ => rfl | i + 4, hj => exact absurd hj (by omega)) (by omega) (by omega) dX5_cast_29 ?_
    refine V_dup X dX5_cast_32 rfl ?_
    refine V_callI (rest := [.ref (t.1)]) X E.room ml_X5_233 in_J4_init_da8c8 rfl (by omega) (by decide) (k_J4_init_da8c8 (t := (t.1 + 1, t.2 + 4)) zup_eq gB) rfl rfl (Nat.le_of_ble_eq_true rfl) ⟨by omega, by omega⟩ dX5_cast_33 (fun _ _ h => False.elim h) (fun v33 σ' hp33 => ?_)
    obtain ⟨hp33, rfl⟩ := hp33
    cases (hp33 : _ = none)
    refine V.so (σ' := ((t.1 + 2, t.2 + 20), cW g X0 F1 (zSB g σ0 t.1 (0) (nI (0)) (fun _ => 0)))) (congrArg (Prod.mk _) (by show zup (zup (zup _ _ _) (t.1 + 1) _) _ _ = _; rw [zup_comm (show t.1 ≠ t.1 + 1 by omega), zup_zup, cW_zup fB.1, cW_zup fV.1, zup_comm (show t.1 + 1 ≠ t.1 by omega)]; rfl)) ?_
    show V g κ 4 (2) (20) ((t.1 + 2, t.2 + 20), cW g X0 F1 (zSB g σ0 t.1 (0) (nI (0)) (fun _ => 0))) 36 [(0, .ref (X0 + 0))] [.ref (t.1)]
    refine V_astore_n X [(1, .ref (t.1)), (0, .ref (X0 + 0))] dX5_cast_36 (by decide) rfl ?_
    refine V_iconst (v := nI 0) X dX5_cast_37 (by decide) ?_
    refine V_istore_n X [(2, .int (nI (0))), (1, .ref (t.1)), (0, .ref (X0 + 0))] dX5_cast_38 (by decide) rfl ?_
    have L39 : ∀ (n39 : Nat) (i39 : Nat) (fv39 : Nat → Int32), n39 = nP - i39 → i39 ≤ nP → sb_Fit fv39 → V g κ 4 (2) (20) ((t.1 + 2, t.2 + 20), cW g X0 F1 (zSB g σ0 t.1 (i39) (nI (0)) (fv39))) 39 [(2, .int (nI (i39))), (1, .ref (t.1)), (0, .ref (X0 + 0))] [] := by
      intro n39
      induction n39 using Nat.strongRecOn with
      | ind n39 ih39 =>
        intro i39 fv39 hn39 hi39 hv39
        refine V_iload_n X dX5_cast_39 0 rfl ?_
        refine V_aload_n X dX5_cast_40 2 rfl ?_
        refine C_getf X fl_X5_10 0 (by decide) rfl rfl dX5_cast_41 ?_
        refine C_getfN (z := nI (nP)) X fl_X5_48 1 (by decide) rfl rfl (hI.mvM hJF1).f1_5 dX5_cast_44 ?_
        refine V_icmpgeN X (by omega) (by omega) (tgt := 85) dX5_cast_47 (by decide) (fun h4 => ?_) (fun h4 => ?_)
        · -- 47 true
          refine V_aload_n X dX5_cast_85 1 rfl ?_
          refine V_callV (rest := []) X E.room ml_X5_238 in_J4_toString_0e30d (ci := 1) rfl se_J4_toString_0e30d ((cW_out fB.1).trans zSB_B) (by omega) (by decide) (k_J4_toString_0e30d (t := (t.1 + 2, t.2 + 20)) (B := t.1) (Va := t.1 + 1) (n := i39) (fv := fv39) ((cW_out fB.1).trans zSB_B) ((cW_out fV.1).trans zSB_V) (by omega) (hv39) (by show _ ≤ t.1 + 2; omega)) rfl rfl (Nat.le_of_ble_eq_true rfl) ⟨by omega, by omega⟩ dX5_cast_86 (fun _ _ h => False.elim h) (fun v86 σ' hp86 => ?_)
          obtain ⟨hp86, rfl⟩ := hp86
          cases (hp86 : _ = some (Value.ref (t.1 + 2)))
          refine V.weak (f' := cW g X0 F1 (zSx g σ0 (t.1 + 2) (i39) (va_cpy (fv39) (fun _ => 0) 0 0 (i39)))) (fun a e he => ?_) ?_
          · show zup (zup _ (t.1 + 2) _) (t.1 + 2 + 1) _ a = _
            rw [cW_zup fS.1, cW_zup fW.1]
            exact cW_sub (zup_mono (zup_mono (zSB_sub fB.2 fV.2))) a e he
          show V g κ 4 (2 + 2) (20 + (4 + i39)) ((t.1 + 2 + 2, t.2 + 20 + 4 + i39), cW g X0 F1 (zSx g σ0 (t.1 + 2) (i39) (va_cpy (fv39) (fun _ => 0) 0 0 (i39)))) 89 [(2, .int (nI (i39))), (1, .ref (t.1)), (0, .ref (X0 + 0))] [.ref (t.1 + 2)]
          exact V_aret X E (Or.inl ⟨_, rfl⟩) (Or.inr ⟨_, rfl⟩) (by omega) (by omega) ⟨_, _, hJF1, Or.inr ⟨_, _, _, by omega, rfl, rfl, fS, fW⟩⟩ dX5_cast_89
        · -- 47 false
          refine V_aload_n X dX5_cast_50 2 rfl ?_
          refine C_getf X fl_X5_26 0 (by decide) rfl rfl dX5_cast_51 ?_
          refine V_iload_n X dX5_cast_54 0 rfl ?_
          refine V_callV (rest := []) X E.room ml_X5_174 in_X0_playerOf (ci := 4) rfl se_X0_playerOf (C_recv (q := 12) (by decide) rfl) (by decide) (by decide) (k_X0_playerOf hX (hI.mvM hJF1) (nI (i39))) rfl rfl (Nat.le_of_ble_eq_true rfl) ⟨Nat.le_of_ble_eq_true rfl, Nat.le_of_ble_eq_true rfl⟩ dX5_cast_55 (fun _ _ h => False.elim h) (fun v55 σ' hp55 => ?_)
          obtain ⟨hp55, rfl⟩ := hp55
          rcases hp55 with ⟨rfl, nr5⟩ | ⟨r5, hr5, rfl, yr5, zr5⟩
          · -- none
            show V g κ 4 (2) (20) ((t.1 + 2, t.2 + 20), cW g X0 F1 (zSB g σ0 t.1 (i39) (nI (0)) (fv39))) 58 [(2, .int (nI (i39))), (1, .ref (t.1)), (0, .ref (X0 + 0))] [.int (-1)]
            refine V_istore_n X [(3, .int (-1)), (2, .int (nI (i39))), (1, .ref (t.1)), (0, .ref (X0 + 0))] dX5_cast_58 (by decide) rfl ?_
            refine V_aload_n X dX5_cast_59 2 rfl ?_
            refine V_iload_n X dX5_cast_60 0 rfl ?_
            refine V_iconst (v := (-1)) X dX5_cast_61 (by decide) ?_
            refine V_icmpne X (tgt := 70) dX5_cast_62 (by decide) (fun h6 => absurd h6 (not_not_intro rfl)) (fun h6 => ?_)
            refine V_bipush (v := nI 46) X dX5_cast_65 (by decide) ?_
            refine V_goto (tgt := 75) X dX5_cast_67 (by decide) ?_
            refine V_callV (rest := []) X E.room ml_X5_234 in_J4_append_cf468 (ci := 1) rfl se_J4_append_cf468 ((cW_out fB.1).trans zSB_B) (by omega) (by decide) (c_append fB.1 fV.1 gB (c := 46) (n := i39) (fv := fv39) (by omega) (by omega)) rfl rfl (Nat.le_of_ble_eq_true rfl) ⟨by omega, by omega⟩ dX5_cast_75 (fun _ _ h => False.elim h) (fun v75 σ' hp75 => ?_)
            obtain ⟨hp75, rfl⟩ := hp75
            cases (hp75 : _ = some (Value.ref t.1))
            show V g κ 4 (2) (20) ((t.1 + 2, t.2 + 20), cW g X0 F1 (zSB g σ0 t.1 (i39 + 1) (nI (0)) (upd (fv39) (nI (i39)).toNatClampNeg (vp_nar .byte ((nI (46)).toInt8.toInt32))))) 78 [(3, .int (-1)), (2, .int (nI (i39))), (1, .ref (t.1)), (0, .ref (X0 + 0))] [.ref (t.1)]
            refine V_pop X dX5_cast_78 rfl ?_
            refine V_iinc X (nI (i39 + 1)) [(2, .int (nI (i39 + 1))), (3, .int (-1)), (1, .ref (t.1)), (0, .ref (X0 + 0))] dX5_cast_79 1 rfl (zinc _) (by decide) rfl ?_
            refine V_goto (tgt := 39) X dX5_cast_82 (by decide) ?_
            exact V.sub [0, 2, 3] rfl (ih39 _ (by omega) (i39 + 1) (upd (fv39) (nI (i39)).toNatClampNeg (vp_nar .byte ((nI (46)).toInt8.toInt32))) rfl (by omega) (sb_fitU hv39 (znar _)))
          · -- number
            show V g κ 4 (2) (20) ((t.1 + 2, t.2 + 20), cW g X0 F1 (zSB g σ0 t.1 (i39) (nI (0)) (fv39))) 58 [(2, .int (nI (i39))), (1, .ref (t.1)), (0, .ref (X0 + 0))] [.int (nI (r5))]
            refine V_istore_n X [(3, .int (nI (r5))), (2, .int (nI (i39))), (1, .ref (t.1)), (0, .ref (X0 + 0))] dX5_cast_58 (by decide) rfl ?_
            refine V_aload_n X dX5_cast_59 2 rfl ?_
            refine V_iload_n X dX5_cast_60 0 rfl ?_
            refine V_iconst (v := (-1)) X dX5_cast_61 (by decide) ?_
            refine V_icmpne X (tgt := 70) dX5_cast_62 (by decide) (fun h7 => ?_) (fun h7 => absurd h7 (znm1 (by omega)))
            refine V_bipush (v := nI 48) X dX5_cast_70 (by decide) ?_
            refine V_iload_n X dX5_cast_72 0 rfl ?_
            refine V_iaddN X dX5_cast_73 ?_
            refine V_i2c X dX5_cast_74 ?_
            rw [zchr r5 (by omega)]
            refine V_callV (rest := []) X E.room ml_X5_234 in_J4_append_cf468 (ci := 1) rfl se_J4_append_cf468 ((cW_out fB.1).trans zSB_B) (by omega) (by decide) (c_append fB.1 fV.1 gB (c := 48 + r5) (n := i39) (fv := fv39) (by omega) (by omega)) rfl rfl (Nat.le_of_ble_eq_true rfl) ⟨by omega, by omega⟩ dX5_cast_75 (fun _ _ h => False.elim h) (fun v75 σ' hp75 => ?_)
            obtain ⟨hp75, rfl⟩ := hp75
            cases (hp75 : _ = some (Value.ref t.1))
            show V g κ 4 (2) (20) ((t.1 + 2, t.2 + 20), cW g X0 F1 (zSB g σ0 t.1 (i39 + 1) (nI (0)) (upd (fv39) (nI (i39)).toNatClampNeg (vp_nar .byte ((nI (48 + r5)).toInt8.toInt32))))) 78 [(3, .int (nI (r5))), (2, .int (nI (i39))), (1, .ref (t.1)), (0, .ref (X0 + 0))] [.ref (t.1)]
            refine V_pop X dX5_cast_78 rfl ?_
            refine V_iinc X (nI (i39 + 1)) [(2, .int (nI (i39 + 1))), (3, .int (nI (r5))), (1, .ref (t.1)), (0, .ref (X0 + 0))] dX5_cast_79 1 rfl (zinc _) (by decide) rfl ?_
            refine V_goto (tgt := 39) X dX5_cast_82 (by decide) ?_
            exact V.sub [0, 2, 3] rfl (ih39 _ (by omega) (i39 + 1) (upd (fv39) (nI (i39)).toNatClampNeg (vp_nar .byte ((nI (48 + r5)).toInt8.toInt32))) rfl (by omega) (sb_fitU hv39 (znar _)))
    exact L39 _ 0 (fun _ => 0) rfl (by omega) (sb_fit0)
  · -- 23 false
    refine V_ldcS X (zNone5 X) dX5_cast_26 ?_
    exact V_aret X E (Or.inl ⟨_, rfl⟩) (Or.inr ⟨_, rfl⟩) (by omega) (by omega) ⟨_, _, hJF1, Or.inl ⟨rfl, rfl⟩⟩ dX5_cast_28
set_option maxRecDepth 100000 in
set_option maxHeartbeats 4000000 in
theorem k_X5_digest {g : zG} {t : Nat × Nat} {X0 : Nat} {σ0 : Nat → Option va_E} {F : Nat → Nat → Int32} (hX : g.2.1.size ≤ X0) {nP nS nA nC nT : Nat} (hI : cI nP nS nA nC nT F) (hG : g.1.stackTraces = false)  (hB : cBd nP nS nA F) (hC : cK F) : Ct g 40 yX5_digest cX5_digest 5 (some FieldType.long) 5 40 [.ref (X0 + 0)] (t, cW g X0 F σ0) (qDigC g X0 F σ0) zNo := by
  refine Ct.of (lv := [(0, .ref (X0 + 0))]) (by decide) (Nat.le_of_ble_eq_true rfl) rfl ?_
  intro κ X E B _
  have X : zX g κ RX5 cX5_digest 5 := X
  obtain ⟨b1, b2, b3, b4, b5⟩ := hI.bnd
  refine V_ldc2 X cn_X5_265 dX5_digest_0 (V.topl (fun w1 _ => ?_))
  refine V_lstore_n X [(1, .long (w1)), (0, .ref (X0 + 0))] dX5_digest_3 (by decide) rfl ?_
  refine V_iconst (v := nI 0) X dX5_digest_4 (by decide) ?_
  refine V_istore_n X [(3, .int (nI (0))), (1, .long (w1)), (0, .ref (X0 + 0))] dX5_digest_5 (by decide) rfl ?_
  have L6 : ∀ (n6 : Nat) (i6 : Nat) (x6_1 : Int64) (G6 : Nat → Nat → Int32), n6 = (13 + 1) - i6 → i6 ≤ (13 + 1) → cM F G6 → V g κ 5 (0) (0) (t, cW g X0 G6 σ0) 6 [(3, .int (nI (i6))), (1, .long (x6_1)), (0, .ref (X0 + 0))] [] := by
    intro n6
    induction n6 using Nat.strongRecOn with
    | ind n6 ih6 =>
      intro i6 x6_1 G6 hn6 hi6 hJ6
      refine V_iload_n X dX5_digest_6 0 rfl ?_
      refine V_bipush (v := nI 13) X dX5_digest_7 (by decide) ?_
      refine V_icmpgtN X (by omega) (by omega) (tgt := 31) dX5_digest_9 (by decide) (fun h2 => ?_) (fun h2 => ?_)
      · -- 9 true
        refine V_iconst (v := nI 0) X dX5_digest_31 (by decide) ?_
        refine V_istore_n X [(3, .int (nI (0))), (1, .long (x6_1)), (0, .ref (X0 + 0))] dX5_digest_32 (by decide) rfl ?_
        have L33 : ∀ (n33 : Nat) (i33 : Nat) (x33_1 : Int64) (G33 : Nat → Nat → Int32), n33 = nP - i33 → i33 ≤ nP → cM F G33 → V g κ 5 (0) (0) (t, cW g X0 G33 σ0) 33 [(3, .int (nI (i33))), (1, .long (x33_1)), (0, .ref (X0 + 0))] [] := by
          intro n33
          induction n33 using Nat.strongRecOn with
          | ind n33 ih33 =>
            intro i33 x33_1 G33 hn33 hi33 hJ33
            refine V_iload_n X dX5_digest_33 0 rfl ?_
            refine V_aload_n X dX5_digest_34 2 rfl ?_
            refine C_getf X fl_X5_10 0 (by decide) rfl rfl dX5_digest_35 ?_
            refine C_getfN (z := nI (nP)) X fl_X5_48 1 (by decide) rfl rfl (hI.mvM hJ33).f1_5 dX5_digest_38 ?_
            refine V_icmpgeN X (by omega) (by omega) (tgt := 81) dX5_digest_41 (by decide) (fun h3 => ?_) (fun h3 => ?_)
            · -- 41 true
              refine V_iconst (v := nI 0) X dX5_digest_81 (by decide) ?_
              refine V_istore_n X [(3, .int (nI (0))), (1, .long (x33_1)), (0, .ref (X0 + 0))] dX5_digest_82 (by decide) rfl ?_
              have L83 : ∀ (n83 : Nat) (i83 : Nat) (x83_1 : Int64) (G83 : Nat → Nat → Int32), n83 = nA - i83 → i83 ≤ nA → cM F G83 → V g κ 5 (0) (0) (t, cW g X0 G83 σ0) 83 [(3, .int (nI (i83))), (1, .long (x83_1)), (0, .ref (X0 + 0))] [] := by
                intro n83
                induction n83 using Nat.strongRecOn with
                | ind n83 ih83 =>
                  intro i83 x83_1 G83 hn83 hi83 hJ83
                  refine V_iload_n X dX5_digest_83 0 rfl ?_
                  refine V_aload_n X dX5_digest_84 2 rfl ?_
                  refine C_getf X fl_X5_19 0 (by decide) rfl rfl dX5_digest_85 ?_
                  refine C_getfN (z := nI (nA)) X fl_X5_66 7 (by decide) rfl rfl (hI.mvM hJ83).f7_4 dX5_digest_88 ?_
                  refine V_icmpgeN X (by omega) (by omega) (tgt := 158) dX5_digest_91 (by decide) (fun h4 => ?_) (fun h4 => ?_)
                  · -- 91 true
                    refine V_iconst (v := nI 0) X dX5_digest_158 (by decide) ?_
                    refine V_istore_n X [(3, .int (nI (0))), (1, .long (x83_1)), (0, .ref (X0 + 0))] dX5_digest_159 (by decide) rfl ?_
                    have L160 : ∀ (n160 : Nat) (i160 : Nat) (x160_1 : Int64) (G160 : Nat → Nat → Int32), n160 = nS - i160 → i160 ≤ nS → cM F G160 → V g κ 5 (0) (0) (t, cW g X0 G160 σ0) 160 [(3, .int (nI (i160))), (1, .long (x160_1)), (0, .ref (X0 + 0))] [] := by
                      intro n160
                      induction n160 using Nat.strongRecOn with
                      | ind n160 ih160 =>
                        intro i160 x160_1 G160 hn160 hi160 hJ160
                        refine V_iload_n X dX5_digest_160 0 rfl ?_
                        refine V_aload_n X dX5_digest_161 2 rfl ?_
                        refine C_getf X fl_X5_10 0 (by decide) rfl rfl dX5_digest_162 ?_
                        refine C_getfN (z := nI (nS)) X fl_X5_72 1 (by decide) rfl rfl (hI.mvM hJ160).f1_6 dX5_digest_165 ?_
                        refine V_icmpgeN X (by omega) (by omega) (tgt := 207) dX5_digest_168 (by decide) (fun h5 => ?_) (fun h5 => ?_)
                        · -- 168 true
                          refine V_iconst (v := nI 0) X dX5_digest_207 (by decide) ?_
                          refine V_istore_n X [(3, .int (nI (0))), (1, .long (x160_1)), (0, .ref (X0 + 0))] dX5_digest_208 (by decide) rfl ?_
                          have L209 : ∀ (n209 : Nat) (i209 : Nat) (x209_1 : Int64) (G209 : Nat → Nat → Int32), n209 = nC - i209 → i209 ≤ nC → cM F G209 → V g κ 5 (0) (0) (t, cW g X0 G209 σ0) 209 [(3, .int (nI (i209))), (1, .long (x209_1)), (0, .ref (X0 + 0))] [] := by
                            intro n209
                            induction n209 using Nat.strongRecOn with
                            | ind n209 ih209 =>
                              intro i209 x209_1 G209 hn209 hi209 hJ209
                              refine V_iload_n X dX5_digest_209 0 rfl ?_
                              refine V_aload_n X dX5_digest_210 2 rfl ?_
                              refine C_getf X fl_X5_33 0 (by decide) rfl rfl dX5_digest_211 ?_
                              refine C_getfN (z := nI (nC)) X fl_X5_93 18 (by decide) rfl rfl (hI.mvM hJ209).f18_3 dX5_digest_214 ?_
                              refine V_icmpgeN X (by omega) (by omega) (tgt := 240) dX5_digest_217 (by decide) (fun h6 => ?_) (fun h6 => ?_)
                              · -- 217 true
                                refine V_iconst (v := nI 0) X dX5_digest_240 (by decide) ?_
                                refine V_istore_n X [(3, .int (nI (0))), (1, .long (x209_1)), (0, .ref (X0 + 0))] dX5_digest_241 (by decide) rfl ?_
                                have L242 : ∀ (n242 : Nat) (i242 : Nat) (x242_1 : Int64) (G242 : Nat → Nat → Int32), n242 = nT - i242 → i242 ≤ nT → cM F G242 → V g κ 5 (0) (0) (t, cW g X0 G242 σ0) 242 [(3, .int (nI (i242))), (1, .long (x242_1)), (0, .ref (X0 + 0))] [] := by
                                  intro n242
                                  induction n242 using Nat.strongRecOn with
                                  | ind n242 ih242 =>
                                    intro i242 x242_1 G242 hn242 hi242 hJ242
                                    refine V_iload_n X dX5_digest_242 0 rfl ?_
                                    refine V_aload_n X dX5_digest_243 2 rfl ?_
                                    refine C_getf X fl_X5_40 0 (by decide) rfl rfl dX5_digest_244 ?_
                                    refine C_getfN (z := nI (nT)) X fl_X5_127 23 (by decide) rfl rfl (hI.mvM hJ242).f23_4 dX5_digest_247 ?_
                                    refine V_icmpgeN X (by omega) (by omega) (tgt := 287) dX5_digest_250 (by decide) (fun h7 => ?_) (fun h7 => ?_)
                                    · -- 250 true
                                      refine V_iconst (v := nI 0) X dX5_digest_287 (by decide) ?_
                                      refine V_istore_n X [(3, .int (nI (0))), (1, .long (x242_1)), (0, .ref (X0 + 0))] dX5_digest_288 (by decide) rfl ?_
                                      have L289 : ∀ (n289 : Nat) (i289 : Nat) (x289_1 : Int64) (G289 : Nat → Nat → Int32), n289 = (2 + 1) - i289 → i289 ≤ (2 + 1) → cM F G289 → V g κ 5 (0) (0) (t, cW g X0 G289 σ0) 289 [(3, .int (nI (i289))), (1, .long (x289_1)), (0, .ref (X0 + 0))] [] := by
                                        intro n289
                                        induction n289 using Nat.strongRecOn with
                                        | ind n289 ih289 =>
                                          intro i289 x289_1 G289 hn289 hi289 hJ289
                                          refine V_iload_n X dX5_digest_289 0 rfl ?_
                                          refine V_iconst (v := nI 2) X dX5_digest_290 (by decide) ?_
                                          refine V_icmpgtN X (by omega) (by omega) (tgt := 316) dX5_digest_291 (by decide) (fun h8 => ?_) (fun h8 => ?_)
                                          · -- 291 true
                                            refine V_lload_n X dX5_digest_316 1 rfl ?_
                                            refine V_ldc2 X cn_X5_267 dX5_digest_317 (V.topl (fun w9 _ => ?_))
                                            refine V_lmul X dX5_digest_320 (V.topl (fun w10 _ => ?_))
                                            refine V_aload_n X dX5_digest_321 2 rfl ?_
                                            refine V_callV (rest := [.long (w10)]) X E.room ml_X5_296 in_X5_cast (ci := 9) rfl se_X5_cast (C_recv (q := 0) (by decide) rfl) (by decide) (by decide) (k_X5_cast hX (hI.mvM hJ289) (hB.mvC hJ289) (hJ289.2 hC)) rfl rfl (Nat.le_of_ble_eq_true rfl) ⟨Nat.le_of_ble_eq_true rfl, Nat.le_of_ble_eq_true rfl⟩ dX5_digest_322 (fun _ _ h => False.elim h) (fun v322 σ' hp322 => ?_)
                                            obtain ⟨t12, F11, hJF11, hp322⟩ := hp322
                                            have hKF11 : cM F F11 := (hJ289).trans hJF11
                                            rcases hp322 with ⟨rfl, rfl⟩ | ⟨Sx, nx, fw, hnx, rfl, rfl, fS, fW⟩
                                            · -- none
                                              show V g κ 5 (0 + 4) (0 + 31) (t12, cW g X0 F11 σ0) 325 [(3, .int (nI (i289))), (1, .long (x289_1)), (0, .ref (X0 + 0))] [.ref (g.2.2.2 6), .long (w10)]
                                              obtain ⟨k9, v9, hS9, e9⟩ := zLitF X (a := g.2.2.2 6) (Or.inl rfl)
                                              have hr9 := (hS9.1 0 (by decide)).1
                                              rw [e9] at hr9
                                              refine V_callVL (rest := [.long (w10)]) X E.room ml_X5_299 in_J0_length_8abf5 (C := RJ0) se_J0_length_8abf5 hr9 (by omega) (by decide) (k_J0_length_lit (Or.inl rfl)) rfl rfl (Nat.le_of_ble_eq_true rfl) ⟨by omega, by omega⟩ dX5_digest_325 (fun _ _ h => False.elim h) (fun v8 σ' hp8 => ?_)
                                              obtain ⟨⟨r13, rfl⟩, rfl⟩ := hp8
                                              show V g κ 5 (0 + 4) (0 + 31) (t12, cW g X0 F11 σ0) 328 [(3, .int (nI (i289))), (1, .long (x289_1)), (0, .ref (X0 + 0))] [.int (r13), .long (w10)]
                                              refine V_i2l X dX5_digest_328 (V.topl (fun w14 _ => ?_))
                                              refine V_ladd X dX5_digest_329 (V.topl (fun w15 _ => ?_))
                                              refine V_lstore_n X [(1, .long (w15)), (3, .int (nI (i289))), (0, .ref (X0 + 0))] dX5_digest_330 (by decide) rfl ?_
                                              refine V_lload_n X dX5_digest_331 0 rfl ?_
                                              refine V_ldc2 X cn_X5_267 dX5_digest_332 (V.topl (fun w16 _ => ?_))
                                              refine V_lmul X dX5_digest_335 (V.topl (fun w17 _ => ?_))
                                              refine V_aload_n X dX5_digest_336 2 rfl ?_
                                              refine V_callV (rest := [.long (w17)]) X E.room ml_X5_304 in_X5_isSound (ci := 9) rfl se_X5_isSound (C_recv (q := 0) (by decide) rfl) (by decide) (by decide) (k_X5_isSound hX (hI.mvM hKF11) (hB.mvC hKF11) (hKF11.2 hC)) rfl rfl (Nat.le_of_ble_eq_true rfl) ⟨Nat.le_of_ble_eq_true rfl, Nat.le_of_ble_eq_true rfl⟩ dX5_digest_337 (fun _ _ h => False.elim h) (fun v337 σ' hp337 => ?_)
                                              obtain ⟨hp337, F18, rfl, hJF18⟩ := hp337
                                              have hKF18 : cM F F18 := (hKF11.trans hJF18)
                                              obtain ⟨r19, rfl, hr19⟩ := hp337
                                              show V g κ 5 (0 + 4) (0 + 31) (t12, cW g X0 F18 σ0) 340 [(1, .long (w15)), (3, .int (nI (i289))), (0, .ref (X0 + 0))] [.int (r19), .long (w17)]
                                              refine V_ifeq X (tgt := 347) dX5_digest_340 (by decide) (fun h20 => ?_) (fun h20 => ?_)
                                              · -- 340 true
                                                refine V_iconst (v := nI 0) X dX5_digest_347 (by decide) ?_
                                                refine V_i2l X dX5_digest_348 (V.topl (fun w21 _ => ?_))
                                                refine V_ladd X dX5_digest_349 (V.topl (fun w22 _ => ?_))
                                                exact V_lret X E (by omega) (by omega) ⟨⟨_, rfl⟩, _, _, rfl, hKF18⟩ dX5_digest_350
                                              · -- 340 false
                                                refine V_iconst (v := nI 1) X dX5_digest_343 (by decide) ?_
                                                refine V_goto (tgt := 348) X dX5_digest_344 (by decide) ?_
                                                refine V_i2l X dX5_digest_348 (V.topl (fun w23 _ => ?_))
                                                refine V_ladd X dX5_digest_349 (V.topl (fun w24 _ => ?_))
                                                exact V_lret X E (by omega) (by omega) ⟨⟨_, rfl⟩, _, _, rfl, hKF18⟩ dX5_digest_350
                                            · -- a string
                                              show V g κ 5 (0 + 4) (0 + 31) (t12, cW g X0 F11 (zSx g σ0 Sx nx fw)) 325 [(3, .int (nI (i289))), (1, .long (x289_1)), (0, .ref (X0 + 0))] [.ref (Sx), .long (w10)]
                                              refine V_callV (rest := [.long (w10)]) X E.room ml_X5_299 in_J0_length_8abf5 (ci := 0) rfl se_J0_length_8abf5 ((cW_out fS.1).trans zSx_S) (by omega) (by decide) (k_J0_length_8abf5 ((cW_out fS.1).trans zSx_S) ((cW_out fW.1).trans zSx_W) (by omega)) rfl rfl (Nat.le_of_ble_eq_true rfl) ⟨by omega, by omega⟩ dX5_digest_325 (fun _ _ h => False.elim h) (fun v9 σ' hp9 => ?_)
                                              obtain ⟨⟨r25, rfl⟩, rfl⟩ := hp9
                                              refine V.weak (f' := cW g X0 F11 σ0) (cW_sub (zSx_sub fS.2 fW.2)) ?_
                                              show V g κ 5 (0 + 4) (0 + 31) (t12, cW g X0 F11 σ0) 328 [(3, .int (nI (i289))), (1, .long (x289_1)), (0, .ref (X0 + 0))] [.int (r25), .long (w10)]
                                              refine V_i2l X dX5_digest_328 (V.topl (fun w26 _ => ?_))
                                              refine V_ladd X dX5_digest_329 (V.topl (fun w27 _ => ?_))
                                              refine V_lstore_n X [(1, .long (w27)), (3, .int (nI (i289))), (0, .ref (X0 + 0))] dX5_digest_330 (by decide) rfl ?_
                                              refine V_lload_n X dX5_digest_331 0 rfl ?_
                                              refine V_ldc2 X cn_X5_267 dX5_digest_332 (V.topl (fun w28 _ => ?_))
                                              refine V_lmul X dX5_digest_335 (V.topl (fun w29 _ => ?_))
                                              refine V_aload_n X dX5_digest_336 2 rfl ?_
                                              refine V_callV (rest := [.long (w29)]) X E.room ml_X5_304 in_X5_isSound (ci := 9) rfl se_X5_isSound (C_recv (q := 0) (by decide) rfl) (by decide) (by decide) (k_X5_isSound hX (hI.mvM hKF11) (hB.mvC hKF11) (hKF11.2 hC)) rfl rfl (Nat.le_of_ble_eq_true rfl) ⟨Nat.le_of_ble_eq_true rfl, Nat.le_of_ble_eq_true rfl⟩ dX5_digest_337 (fun _ _ h => False.elim h) (fun v337 σ' hp337 => ?_)
                                              obtain ⟨hp337, F30, rfl, hJF30⟩ := hp337
                                              have hKF30 : cM F F30 := (hKF11.trans hJF30)
                                              obtain ⟨r31, rfl, hr31⟩ := hp337
                                              show V g κ 5 (0 + 4) (0 + 31) (t12, cW g X0 F30 σ0) 340 [(1, .long (w27)), (3, .int (nI (i289))), (0, .ref (X0 + 0))] [.int (r31), .long (w29)]
                                              refine V_ifeq X (tgt := 347) dX5_digest_340 (by decide) (fun h32 => ?_) (fun h32 => ?_)
                                              · -- 340 true
                                                refine V_iconst (v := nI 0) X dX5_digest_347 (by decide) ?_
                                                refine V_i2l X dX5_digest_348 (V.topl (fun w33 _ => ?_))
                                                refine V_ladd X dX5_digest_349 (V.topl (fun w34 _ => ?_))
                                                exact V_lret X E (by omega) (by omega) ⟨⟨_, rfl⟩, _, _, rfl, hKF30⟩ dX5_digest_350
                                              · -- 340 false
                                                refine V_iconst (v := nI 1) X dX5_digest_343 (by decide) ?_
                                                refine V_goto (tgt := 348) X dX5_digest_344 (by decide) ?_
                                                refine V_i2l X dX5_digest_348 (V.topl (fun w35 _ => ?_))
                                                refine V_ladd X dX5_digest_349 (V.topl (fun w36 _ => ?_))
                                                exact V_lret X E (by omega) (by omega) ⟨⟨_, rfl⟩, _, _, rfl, hKF30⟩ dX5_digest_350
                                          · -- 291 false
                                            refine V_lload_n X dX5_digest_294 1 rfl ?_
                                            refine V_ldc2 X cn_X5_267 dX5_digest_295 (V.topl (fun w37 _ => ?_))
                                            refine V_lmul X dX5_digest_298 (V.topl (fun w38 _ => ?_))
                                            refine V_aload_n X dX5_digest_299 2 rfl ?_
                                            refine V_sipush (v := nI 150) X dX5_digest_300 (by decide) ?_
                                            refine V_iload_n X dX5_digest_303 0 rfl ?_
                                            refine V_callV (rest := [.long (w38)]) X E.room ml_X5_293 in_X5_tour (ci := 9) rfl se_X5_tour (C_recv (q := 0) (by decide) rfl) (by decide) (by decide) (k_X5_tour hX (hI.mvM hJ289) hG (nI (150)) (nI (i289)) (hB.mvC hJ289) (hJ289.2 hC)) rfl rfl (Nat.le_of_ble_eq_true rfl) ⟨Nat.le_of_ble_eq_true rfl, Nat.le_of_ble_eq_true rfl⟩ dX5_digest_304 (fun _ _ h => False.elim (h.1.elim (fun q => q.elim (fun q => q.1 (⟨_, rfl, by omega, by omega⟩)) (fun q => (fun q => q.elim (fun q => q.1 (⟨_, rfl, by omega, by omega⟩)) (fun q => (fun q => q) q.2)) q.2)) id)) (fun v304 σ' hp304 => ?_)
                                            obtain ⟨hp304, F39, rfl, hJF39⟩ := hp304
                                            have hKF39 : cM F F39 := (hJ289.trans hJF39)
                                            obtain ⟨r40, rfl⟩ := hp304
                                            refine V.shrink B 0 0 (Nat.le_refl _) (Nat.le_refl _) ?_
                                            show V g κ 5 (0) (0) (t, cW g X0 F39 σ0) 307 [(3, .int (nI (i289))), (1, .long (x289_1)), (0, .ref (X0 + 0))] [.int (r40), .long (w38)]
                                            refine V_i2l X dX5_digest_307 (V.topl (fun w41 _ => ?_))
                                            refine V_ladd X dX5_digest_308 (V.topl (fun w42 _ => ?_))
                                            refine V_lstore_n X [(1, .long (w42)), (3, .int (nI (i289))), (0, .ref (X0 + 0))] dX5_digest_309 (by decide) rfl ?_
                                            refine V_iinc X (nI (i289 + 1)) [(3, .int (nI (i289 + 1))), (1, .long (w42)), (0, .ref (X0 + 0))] dX5_digest_310 1 rfl (zinc _) (by decide) rfl ?_
                                            refine V_goto (tgt := 289) X dX5_digest_313 (by decide) ?_
                                            exact V.sub [0, 1, 2] rfl (ih289 _ (by omega) (i289 + 1) w42 F39 rfl (by omega) hKF39)
                                      exact L289 _ 0 x242_1 G242 rfl (by omega) hJ242
                                    · -- 250 false
                                      refine V_lload_n X dX5_digest_253 1 rfl ?_
                                      refine V_ldc2 X cn_X5_267 dX5_digest_254 (V.topl (fun w43 _ => ?_))
                                      refine V_lmul X dX5_digest_257 (V.topl (fun w44 _ => ?_))
                                      refine V_aload_n X dX5_digest_258 2 rfl ?_
                                      refine V_iload_n X dX5_digest_259 0 rfl ?_
                                      refine V_iconst (v := nI 2) X dX5_digest_260 (by decide) ?_
                                      refine V_callV (rest := [.long (w44)]) X E.room ml_X5_290 in_X5_ofTown (ci := 9) rfl se_X5_ofTown (C_recv (q := 0) (by decide) rfl) (by decide) (by decide) (k_X5_ofTown hX (hI.mvM hJ242) hG (nI (i242)) (nI (2)) (hB.mvC hJ242) (hJ242.2 hC)) rfl rfl (Nat.le_of_ble_eq_true rfl) ⟨Nat.le_of_ble_eq_true rfl, Nat.le_of_ble_eq_true rfl⟩ dX5_digest_261 (fun _ _ h => False.elim (h.1.elim (fun q => q.elim (fun q => q.1 (⟨_, rfl, by omega⟩)) (fun q => (fun q => q.elim (fun q => q.1 (⟨_, rfl, by omega, by omega⟩)) (fun q => (fun q => q) q.2)) q.2)) id)) (fun v261 σ' hp261 => ?_)
                                      obtain ⟨-, -, -, -, -, -, r45, rfl, -, F46, rfl, hJF46⟩ := hp261
                                      have hKF46 : cM F F46 := hJ242.trans hJF46
                                      refine V.shrink B 0 0 (Nat.le_refl _) (Nat.le_refl _) ?_
                                      show V g κ 5 (0) (0) (t, cW g X0 F46 σ0) 264 [(3, .int (nI (i242))), (1, .long (x242_1)), (0, .ref (X0 + 0))] [.int (r45), .long (w44)]
                                      refine V_i2l X dX5_digest_264 (V.topl (fun w47 _ => ?_))
                                      refine V_ladd X dX5_digest_265 (V.topl (fun w48 _ => ?_))
                                      refine V_lstore_n X [(1, .long (w48)), (3, .int (nI (i242))), (0, .ref (X0 + 0))] dX5_digest_266 (by decide) rfl ?_
                                      refine V_lload_n X dX5_digest_267 0 rfl ?_
                                      refine V_ldc2 X cn_X5_267 dX5_digest_268 (V.topl (fun w49 _ => ?_))
                                      refine V_lmul X dX5_digest_271 (V.topl (fun w50 _ => ?_))
                                      refine V_aload_n X dX5_digest_272 2 rfl ?_
                                      refine V_iload_n X dX5_digest_273 1 rfl ?_
                                      refine V_iconst (v := nI 3) X dX5_digest_274 (by decide) ?_
                                      refine V_callV (rest := [.long (w50)]) X E.room ml_X5_290 in_X5_ofTown (ci := 9) rfl se_X5_ofTown (C_recv (q := 0) (by decide) rfl) (by decide) (by decide) (k_X5_ofTown hX (hI.mvM hKF46) hG (nI (i242)) (nI (3)) (hB.mvC hKF46) (hKF46.2 hC)) rfl rfl (Nat.le_of_ble_eq_true rfl) ⟨Nat.le_of_ble_eq_true rfl, Nat.le_of_ble_eq_true rfl⟩ dX5_digest_275 (fun _ _ h => False.elim (h.1.elim (fun q => q.elim (fun q => q.1 (⟨_, rfl, by omega⟩)) (fun q => (fun q => q.elim (fun q => q.1 (⟨_, rfl, by omega, by omega⟩)) (fun q => (fun q => q) q.2)) q.2)) id)) (fun v275 σ' hp275 => ?_)
                                      obtain ⟨-, -, -, -, -, -, r51, rfl, -, F52, rfl, hJF52⟩ := hp275
                                      have hKF52 : cM F F52 := hKF46.trans hJF52
                                      refine V.shrink B 0 0 (Nat.le_refl _) (Nat.le_refl _) ?_
                                      show V g κ 5 (0) (0) (t, cW g X0 F52 σ0) 278 [(1, .long (w48)), (3, .int (nI (i242))), (0, .ref (X0 + 0))] [.int (r51), .long (w50)]
                                      refine V_i2l X dX5_digest_278 (V.topl (fun w53 _ => ?_))
                                      refine V_ladd X dX5_digest_279 (V.topl (fun w54 _ => ?_))
                                      refine V_lstore_n X [(1, .long (w54)), (3, .int (nI (i242))), (0, .ref (X0 + 0))] dX5_digest_280 (by decide) rfl ?_
                                      refine V_iinc X (nI (i242 + 1)) [(3, .int (nI (i242 + 1))), (1, .long (w54)), (0, .ref (X0 + 0))] dX5_digest_281 1 rfl (zinc _) (by decide) rfl ?_
                                      refine V_goto (tgt := 242) X dX5_digest_284 (by decide) ?_
                                      exact V.sub [0, 1, 2] rfl (ih242 _ (by omega) (i242 + 1) w54 F52 rfl (by omega) hKF52)
                                exact L242 _ 0 x209_1 G209 rfl (by omega) hJ209
                              · -- 217 false
                                refine V_lload_n X dX5_digest_220 1 rfl ?_
                                refine V_ldc2 X cn_X5_267 dX5_digest_221 (V.topl (fun w55 _ => ?_))
                                refine V_lmul X dX5_digest_224 (V.topl (fun w56 _ => ?_))
                                refine V_aload_n X dX5_digest_225 2 rfl ?_
                                refine V_iload_n X dX5_digest_226 0 rfl ?_
                                refine V_iconst (v := nI 3) X dX5_digest_227 (by decide) ?_
                                refine V_callV (rest := [.long (w56)]) X E.room ml_X5_287 in_X5_ofCoat (ci := 9) rfl se_X5_ofCoat (C_recv (q := 0) (by decide) rfl) (by decide) (by decide) (k_X5_ofCoat hX (hI.mvM hJ209) hG (nI (i209)) (nI (3)) (hB.mvC hJ209) (hJ209.2 hC)) rfl rfl (Nat.le_of_ble_eq_true rfl) ⟨Nat.le_of_ble_eq_true rfl, Nat.le_of_ble_eq_true rfl⟩ dX5_digest_228 (fun _ _ h => False.elim (h.1.elim (fun q => q.elim (fun q => q.1 (⟨_, rfl, by omega⟩)) (fun q => (fun q => q.elim (fun q => q.1 (⟨_, rfl, by omega, by omega⟩)) (fun q => (fun q => q) q.2)) q.2)) id)) (fun v228 σ' hp228 => ?_)
                                obtain ⟨-, -, -, -, -, -, r57, rfl, -, F58, rfl, hJF58⟩ := hp228
                                have hKF58 : cM F F58 := hJ209.trans hJF58
                                refine V.shrink B 0 0 (Nat.le_refl _) (Nat.le_refl _) ?_
                                show V g κ 5 (0) (0) (t, cW g X0 F58 σ0) 231 [(3, .int (nI (i209))), (1, .long (x209_1)), (0, .ref (X0 + 0))] [.int (r57), .long (w56)]
                                refine V_i2l X dX5_digest_231 (V.topl (fun w59 _ => ?_))
                                refine V_ladd X dX5_digest_232 (V.topl (fun w60 _ => ?_))
                                refine V_lstore_n X [(1, .long (w60)), (3, .int (nI (i209))), (0, .ref (X0 + 0))] dX5_digest_233 (by decide) rfl ?_
                                refine V_iinc X (nI (i209 + 1)) [(3, .int (nI (i209 + 1))), (1, .long (w60)), (0, .ref (X0 + 0))] dX5_digest_234 1 rfl (zinc _) (by decide) rfl ?_
                                refine V_goto (tgt := 209) X dX5_digest_237 (by decide) ?_
                                exact V.sub [0, 1, 2] rfl (ih209 _ (by omega) (i209 + 1) w60 F58 rfl (by omega) hKF58)
                          exact L209 _ 0 x160_1 G160 rfl (by omega) hJ160
                        · -- 168 false
                          refine V_iconst (v := nI 0) X dX5_digest_171 (by decide) ?_
                          refine V_istore X [(4, .int (nI (0))), (3, .int (nI (i160))), (1, .long (x160_1)), (0, .ref (X0 + 0))] dX5_digest_172 (by decide) rfl ?_
                          have L174 : ∀ (n174 : Nat) (i174 : Nat) (x174_1 : Int64) (G174 : Nat → Nat → Int32), n174 = (5 + 1) - i174 → i174 ≤ (5 + 1) → cM F G174 → V g κ 5 (0) (0) (t, cW g X0 G174 σ0) 174 [(4, .int (nI (i174))), (3, .int (nI (i160))), (1, .long (x174_1)), (0, .ref (X0 + 0))] [] := by
                            intro n174
                            induction n174 using Nat.strongRecOn with
                            | ind n174 ih174 =>
                              intro i174 x174_1 G174 hn174 hi174 hJ174
                              refine V_iload X dX5_digest_174 0 rfl ?_
                              refine V_iconst (v := nI 5) X dX5_digest_176 (by decide) ?_
                              refine V_icmpgtN X (by omega) (by omega) (tgt := 201) dX5_digest_177 (by decide) (fun h61 => ?_) (fun h61 => ?_)
                              · -- 177 true
                                refine V_iinc X (nI (i160 + 1)) [(3, .int (nI (i160 + 1))), (4, .int (nI (i174))), (1, .long (x174_1)), (0, .ref (X0 + 0))] dX5_digest_201 1 rfl (zinc _) (by decide) rfl ?_
                                refine V_goto (tgt := 160) X dX5_digest_204 (by decide) ?_
                                exact V.sub [0, 2, 3] rfl (ih160 _ (by omega) (i160 + 1) x174_1 G174 rfl (by omega) hJ174)
                              · -- 177 false
                                refine V_lload_n X dX5_digest_180 2 rfl ?_
                                refine V_ldc2 X cn_X5_267 dX5_digest_181 (V.topl (fun w62 _ => ?_))
                                refine V_lmul X dX5_digest_184 (V.topl (fun w63 _ => ?_))
                                refine V_aload_n X dX5_digest_185 3 rfl ?_
                                refine V_iload_n X dX5_digest_186 1 rfl ?_
                                refine V_iload X dX5_digest_187 0 rfl ?_
                                refine V_callV (rest := [.long (w63)]) X E.room ml_X5_284 in_X5_ofScene (ci := 9) rfl se_X5_ofScene (C_recv (q := 0) (by decide) rfl) (by decide) (by decide) (k_X5_ofScene hX (hI.mvM hJ174) hG (nI (i160)) (nI (i174)) (hB.mvC hJ174) (hJ174.2 hC)) rfl rfl (Nat.le_of_ble_eq_true rfl) ⟨Nat.le_of_ble_eq_true rfl, Nat.le_of_ble_eq_true rfl⟩ dX5_digest_189 (fun _ _ h => False.elim (h.1.elim (fun q => q.elim (fun q => q.1 (⟨_, rfl, by omega⟩)) (fun q => (fun q => q.elim (fun q => q.1 (⟨_, rfl, by omega, by omega⟩)) (fun q => (fun q => q) q.2)) q.2)) id)) (fun v189 σ' hp189 => ?_)
                                obtain ⟨hp189, F64, rfl, hJF64⟩ := hp189
                                have hKF64 : cM F F64 := (hJ174.trans hJF64)
                                obtain ⟨r65, rfl⟩ := hp189
                                refine V.shrink B 0 0 (Nat.le_refl _) (Nat.le_refl _) ?_
                                show V g κ 5 (0) (0) (t, cW g X0 F64 σ0) 192 [(4, .int (nI (i174))), (3, .int (nI (i160))), (1, .long (x174_1)), (0, .ref (X0 + 0))] [.int (r65), .long (w63)]
                                refine V_i2l X dX5_digest_192 (V.topl (fun w66 _ => ?_))
                                refine V_ladd X dX5_digest_193 (V.topl (fun w67 _ => ?_))
                                refine V_lstore_n X [(1, .long (w67)), (4, .int (nI (i174))), (3, .int (nI (i160))), (0, .ref (X0 + 0))] dX5_digest_194 (by decide) rfl ?_
                                refine V_iinc X (nI (i174 + 1)) [(4, .int (nI (i174 + 1))), (1, .long (w67)), (3, .int (nI (i160))), (0, .ref (X0 + 0))] dX5_digest_195 1 rfl (zinc _) (by decide) rfl ?_
                                refine V_goto (tgt := 174) X dX5_digest_198 (by decide) ?_
                                exact V.sub [0, 2, 1, 3] rfl (ih174 _ (by omega) (i174 + 1) w67 F64 rfl (by omega) hKF64)
                          exact L174 _ 0 x160_1 G160 rfl (by omega) hJ160
                    exact L160 _ 0 x83_1 G83 rfl (by omega) hJ83
                  · -- 91 false
                    refine V_iconst (v := nI 0) X dX5_digest_94 (by decide) ?_
                    refine V_istore X [(4, .int (nI (0))), (3, .int (nI (i83))), (1, .long (x83_1)), (0, .ref (X0 + 0))] dX5_digest_95 (by decide) rfl ?_
                    have L97 : ∀ (n97 : Nat) (i97 : Nat) (x97_1 : Int64) (G97 : Nat → Nat → Int32), n97 = (5 + 1) - i97 → i97 ≤ (5 + 1) → cM F G97 → V g κ 5 (0) (0) (t, cW g X0 G97 σ0) 97 [(4, .int (nI (i97))), (3, .int (nI (i83))), (1, .long (x97_1)), (0, .ref (X0 + 0))] [] := by
                      intro n97
                      induction n97 using Nat.strongRecOn with
                      | ind n97 ih97 =>
                        intro i97 x97_1 G97 hn97 hi97 hJ97
                        refine V_iload X dX5_digest_97 0 rfl ?_
                        refine V_iconst (v := nI 5) X dX5_digest_99 (by decide) ?_
                        refine V_icmpgtN X (by omega) (by omega) (tgt := 124) dX5_digest_100 (by decide) (fun h68 => ?_) (fun h68 => ?_)
                        · -- 100 true
                          refine V_lload_n X dX5_digest_124 2 rfl ?_
                          refine V_ldc2 X cn_X5_267 dX5_digest_125 (V.topl (fun w69 _ => ?_))
                          refine V_lmul X dX5_digest_128 (V.topl (fun w70 _ => ?_))
                          refine V_aload_n X dX5_digest_129 3 rfl ?_
                          refine V_iload_n X dX5_digest_130 1 rfl ?_
                          refine V_callV (rest := [.long (w70)]) X E.room ml_X5_278 in_X5_without (ci := 9) rfl se_X5_without (C_recv (q := 0) (by decide) rfl) (by decide) (by decide) (k_X5_without hX (hI.mvM hJ97) hG (nI (i83)) (hB.mvC hJ97) (hJ97.2 hC)) rfl rfl (Nat.le_of_ble_eq_true rfl) ⟨Nat.le_of_ble_eq_true rfl, Nat.le_of_ble_eq_true rfl⟩ dX5_digest_131 (fun _ _ h => False.elim (h.1.elim (fun q => q.elim (fun q => q.1 (⟨_, rfl, by omega⟩)) (fun q => (fun q => q) q.2)) id)) (fun v131 σ' hp131 => ?_)
                          obtain ⟨-, -, -, r71, rfl, -, F72, rfl, hJF72⟩ := hp131
                          have hKF72 : cM F F72 := hJ97.trans hJF72
                          refine V.shrink B 0 0 (Nat.le_refl _) (Nat.le_refl _) ?_
                          show V g κ 5 (0) (0) (t, cW g X0 F72 σ0) 134 [(4, .int (nI (i97))), (3, .int (nI (i83))), (1, .long (x97_1)), (0, .ref (X0 + 0))] [.int (r71), .long (w70)]
                          refine V_i2l X dX5_digest_134 (V.topl (fun w73 _ => ?_))
                          refine V_ladd X dX5_digest_135 (V.topl (fun w74 _ => ?_))
                          refine V_lstore_n X [(1, .long (w74)), (4, .int (nI (i97))), (3, .int (nI (i83))), (0, .ref (X0 + 0))] dX5_digest_136 (by decide) rfl ?_
                          refine V_lload_n X dX5_digest_137 0 rfl ?_
                          refine V_ldc2 X cn_X5_267 dX5_digest_138 (V.topl (fun w75 _ => ?_))
                          refine V_lmul X dX5_digest_141 (V.topl (fun w76 _ => ?_))
                          refine V_aload_n X dX5_digest_142 3 rfl ?_
                          refine V_bipush (v := nI 100) X dX5_digest_143 (by decide) ?_
                          refine V_iload_n X dX5_digest_145 2 rfl ?_
                          refine V_callV (rest := [.long (w76)]) X E.room ml_X5_281 in_X5_shareOf (ci := 9) rfl se_X5_shareOf (C_recv (q := 0) (by decide) rfl) (by decide) (by decide) (k_X5_shareOf hX (hI.mvM hKF72) hG (nI (100)) (nI (i83)) (hB.mvC hKF72) (hKF72.2 hC)) rfl rfl (Nat.le_of_ble_eq_true rfl) ⟨Nat.le_of_ble_eq_true rfl, Nat.le_of_ble_eq_true rfl⟩ dX5_digest_146 (fun _ _ h => False.elim (h.1.elim (fun q => q.elim (fun q => q.1 (⟨_, rfl, by omega⟩)) (fun q => (fun q => q.elim (fun q => q.1 (⟨_, rfl, by omega, by omega⟩)) (fun q => (fun q => q) q.2)) q.2)) id)) (fun v146 σ' hp146 => ?_)
                          obtain ⟨-, -, -, -, r77, rfl, -, F78, rfl, hJF78⟩ := hp146
                          have hKF78 : cM F F78 := hKF72.trans hJF78
                          refine V.shrink B 0 0 (Nat.le_refl _) (Nat.le_refl _) ?_
                          show V g κ 5 (0) (0) (t, cW g X0 F78 σ0) 149 [(1, .long (w74)), (4, .int (nI (i97))), (3, .int (nI (i83))), (0, .ref (X0 + 0))] [.int (r77), .long (w76)]
                          refine V_i2l X dX5_digest_149 (V.topl (fun w79 _ => ?_))
                          refine V_ladd X dX5_digest_150 (V.topl (fun w80 _ => ?_))
                          refine V_lstore_n X [(1, .long (w80)), (4, .int (nI (i97))), (3, .int (nI (i83))), (0, .ref (X0 + 0))] dX5_digest_151 (by decide) rfl ?_
                          refine V_iinc X (nI (i83 + 1)) [(3, .int (nI (i83 + 1))), (1, .long (w80)), (4, .int (nI (i97))), (0, .ref (X0 + 0))] dX5_digest_152 2 rfl (zinc _) (by decide) rfl ?_
                          refine V_goto (tgt := 83) X dX5_digest_155 (by decide) ?_
                          exact V.sub [0, 1, 3] rfl (ih83 _ (by omega) (i83 + 1) w80 F78 rfl (by omega) hKF78)
                        · -- 100 false
                          refine V_lload_n X dX5_digest_103 2 rfl ?_
                          refine V_ldc2 X cn_X5_267 dX5_digest_104 (V.topl (fun w81 _ => ?_))
                          refine V_lmul X dX5_digest_107 (V.topl (fun w82 _ => ?_))
                          refine V_aload_n X dX5_digest_108 3 rfl ?_
                          refine V_iload_n X dX5_digest_109 1 rfl ?_
                          refine V_iload X dX5_digest_110 0 rfl ?_
                          refine V_callV (rest := [.long (w82)]) X E.room ml_X5_275 in_X5_ofPlayer (ci := 9) rfl se_X5_ofPlayer (C_recv (q := 0) (by decide) rfl) (by decide) (by decide) (k_X5_ofPlayer hX (hI.mvM hJ97) hG (nI (i83)) (nI (i97)) (hB.mvC hJ97) (hJ97.2 hC)) rfl rfl (Nat.le_of_ble_eq_true rfl) ⟨Nat.le_of_ble_eq_true rfl, Nat.le_of_ble_eq_true rfl⟩ dX5_digest_112 (fun _ _ h => False.elim (h.1.elim (fun q => q.elim (fun q => q.1 (⟨_, rfl, by omega⟩)) (fun q => (fun q => q.elim (fun q => q.1 (⟨_, rfl, by omega, by omega⟩)) (fun q => (fun q => q) q.2)) q.2)) id)) (fun v112 σ' hp112 => ?_)
                          obtain ⟨-, -, -, -, -, -, r83, rfl, -, F84, rfl, hJF84⟩ := hp112
                          have hKF84 : cM F F84 := hJ97.trans hJF84
                          refine V.shrink B 0 0 (Nat.le_refl _) (Nat.le_refl _) ?_
                          show V g κ 5 (0) (0) (t, cW g X0 F84 σ0) 115 [(4, .int (nI (i97))), (3, .int (nI (i83))), (1, .long (x97_1)), (0, .ref (X0 + 0))] [.int (r83), .long (w82)]
                          refine V_i2l X dX5_digest_115 (V.topl (fun w85 _ => ?_))
                          refine V_ladd X dX5_digest_116 (V.topl (fun w86 _ => ?_))
                          refine V_lstore_n X [(1, .long (w86)), (4, .int (nI (i97))), (3, .int (nI (i83))), (0, .ref (X0 + 0))] dX5_digest_117 (by decide) rfl ?_
                          refine V_iinc X (nI (i97 + 1)) [(4, .int (nI (i97 + 1))), (1, .long (w86)), (3, .int (nI (i83))), (0, .ref (X0 + 0))] dX5_digest_118 1 rfl (zinc _) (by decide) rfl ?_
                          refine V_goto (tgt := 97) X dX5_digest_121 (by decide) ?_
                          exact V.sub [0, 2, 1, 3] rfl (ih97 _ (by omega) (i97 + 1) w86 F84 rfl (by omega) hKF84)
                    exact L97 _ 0 x83_1 G83 rfl (by omega) hJ83
              exact L83 _ 0 x33_1 G33 rfl (by omega) hJ33
            · -- 41 false
              refine V_iconst (v := nI 0) X dX5_digest_44 (by decide) ?_
              refine V_istore X [(4, .int (nI (0))), (3, .int (nI (i33))), (1, .long (x33_1)), (0, .ref (X0 + 0))] dX5_digest_45 (by decide) rfl ?_
              have L47 : ∀ (n47 : Nat) (i47 : Nat) (x47_1 : Int64) (G47 : Nat → Nat → Int32), n47 = (6 + 1) - i47 → i47 ≤ (6 + 1) → cM F G47 → V g κ 5 (0) (0) (t, cW g X0 G47 σ0) 47 [(4, .int (nI (i47))), (3, .int (nI (i33))), (1, .long (x47_1)), (0, .ref (X0 + 0))] [] := by
                intro n47
                induction n47 using Nat.strongRecOn with
                | ind n47 ih47 =>
                  intro i47 x47_1 G47 hn47 hi47 hJ47
                  refine V_iload X dX5_digest_47 0 rfl ?_
                  refine V_bipush (v := nI 6) X dX5_digest_49 (by decide) ?_
                  refine V_icmpgtN X (by omega) (by omega) (tgt := 75) dX5_digest_51 (by decide) (fun h87 => ?_) (fun h87 => ?_)
                  · -- 51 true
                    refine V_iinc X (nI (i33 + 1)) [(3, .int (nI (i33 + 1))), (4, .int (nI (i47))), (1, .long (x47_1)), (0, .ref (X0 + 0))] dX5_digest_75 1 rfl (zinc _) (by decide) rfl ?_
                    refine V_goto (tgt := 33) X dX5_digest_78 (by decide) ?_
                    exact V.sub [0, 2, 3] rfl (ih33 _ (by omega) (i33 + 1) x47_1 G47 rfl (by omega) hJ47)
                  · -- 51 false
                    refine V_lload_n X dX5_digest_54 2 rfl ?_
                    refine V_ldc2 X cn_X5_267 dX5_digest_55 (V.topl (fun w88 _ => ?_))
                    refine V_lmul X dX5_digest_58 (V.topl (fun w89 _ => ?_))
                    refine V_aload_n X dX5_digest_59 3 rfl ?_
                    refine V_iload_n X dX5_digest_60 1 rfl ?_
                    refine V_iload X dX5_digest_61 0 rfl ?_
                    refine V_callV (rest := [.long (w89)]) X E.room ml_X5_272 in_X5_ofPart (ci := 9) rfl se_X5_ofPart (C_recv (q := 0) (by decide) rfl) (by decide) (by decide) (k_X5_ofPart hX (hI.mvM hJ47) hG (nI (i33)) (nI (i47)) (hB.mvC hJ47) (hJ47.2 hC)) rfl rfl (Nat.le_of_ble_eq_true rfl) ⟨Nat.le_of_ble_eq_true rfl, Nat.le_of_ble_eq_true rfl⟩ dX5_digest_63 (fun _ _ h => False.elim (h.1.elim (fun q => q.elim (fun q => q.1 (⟨_, rfl, by omega⟩)) (fun q => (fun q => q.elim (fun q => q.1 (⟨_, rfl, by omega, by omega⟩)) (fun q => (fun q => q) q.2)) q.2)) id)) (fun v63 σ' hp63 => ?_)
                    obtain ⟨-, -, -, -, -, -, r90, rfl, -, F91, rfl, hJF91⟩ := hp63
                    have hKF91 : cM F F91 := hJ47.trans hJF91
                    refine V.shrink B 0 0 (Nat.le_refl _) (Nat.le_refl _) ?_
                    show V g κ 5 (0) (0) (t, cW g X0 F91 σ0) 66 [(4, .int (nI (i47))), (3, .int (nI (i33))), (1, .long (x47_1)), (0, .ref (X0 + 0))] [.int (r90), .long (w89)]
                    refine V_i2l X dX5_digest_66 (V.topl (fun w92 _ => ?_))
                    refine V_ladd X dX5_digest_67 (V.topl (fun w93 _ => ?_))
                    refine V_lstore_n X [(1, .long (w93)), (4, .int (nI (i47))), (3, .int (nI (i33))), (0, .ref (X0 + 0))] dX5_digest_68 (by decide) rfl ?_
                    refine V_iinc X (nI (i47 + 1)) [(4, .int (nI (i47 + 1))), (1, .long (w93)), (3, .int (nI (i33))), (0, .ref (X0 + 0))] dX5_digest_69 1 rfl (zinc _) (by decide) rfl ?_
                    refine V_goto (tgt := 47) X dX5_digest_72 (by decide) ?_
                    exact V.sub [0, 2, 1, 3] rfl (ih47 _ (by omega) (i47 + 1) w93 F91 rfl (by omega) hKF91)
              exact L47 _ 0 x33_1 G33 rfl (by omega) hJ33
        exact L33 _ 0 x6_1 G6 rfl (by omega) hJ6
      · -- 9 false
        refine V_lload_n X dX5_digest_12 1 rfl ?_
        refine V_ldc2 X cn_X5_267 dX5_digest_13 (V.topl (fun w94 _ => ?_))
        refine V_lmul X dX5_digest_16 (V.topl (fun w95 _ => ?_))
        refine V_aload_n X dX5_digest_17 2 rfl ?_
        refine V_iload_n X dX5_digest_18 0 rfl ?_
        refine V_callV (rest := [.long (w95)]) X E.room ml_X5_269 in_X5_house (ci := 9) rfl se_X5_house (C_recv (q := 0) (by decide) rfl) (by decide) (by decide) (k_X5_house hX (hI.mvM hJ6) hG (nI (i6)) (hB.mvC hJ6) (hJ6.2 hC)) rfl rfl (Nat.le_of_ble_eq_true rfl) ⟨Nat.le_of_ble_eq_true rfl, Nat.le_of_ble_eq_true rfl⟩ dX5_digest_19 (fun _ _ h => False.elim (h.1.elim (fun q => q.elim (fun q => q.1 (⟨_, rfl, by omega, by omega⟩)) (fun q => (fun q => q) q.2)) id)) (fun v19 σ' hp19 => ?_)
        obtain ⟨hp19, F96, rfl, hJF96⟩ := hp19
        have hKF96 : cM F F96 := (hJ6.trans hJF96)
        obtain ⟨r97, rfl⟩ := hp19
        refine V.shrink B 0 0 (Nat.le_refl _) (Nat.le_refl _) ?_
        show V g κ 5 (0) (0) (t, cW g X0 F96 σ0) 22 [(3, .int (nI (i6))), (1, .long (x6_1)), (0, .ref (X0 + 0))] [.int (r97), .long (w95)]
        refine V_i2l X dX5_digest_22 (V.topl (fun w98 _ => ?_))
        refine V_ladd X dX5_digest_23 (V.topl (fun w99 _ => ?_))
        refine V_lstore_n X [(1, .long (w99)), (3, .int (nI (i6))), (0, .ref (X0 + 0))] dX5_digest_24 (by decide) rfl ?_
        refine V_iinc X (nI (i6 + 1)) [(3, .int (nI (i6 + 1))), (1, .long (w99)), (0, .ref (X0 + 0))] dX5_digest_25 1 rfl (zinc _) (by decide) rfl ?_
        refine V_goto (tgt := 6) X dX5_digest_28 (by decide) ?_
        exact V.sub [0, 1, 2] rfl (ih6 _ (by omega) (i6 + 1) w99 F96 rfl (by omega) hKF96)
  exact L6 _ 0 w1 F rfl (by omega) cM.rfl'
