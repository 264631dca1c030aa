/-! ===== cast, digest of the class ===== -/
def qStrC (g : zG) (X0 : Nat) (F : Nat → Nat → Int32) (σ0 : Nat → Option va_E) : Option Value → zS → Prop := fun v σ' => ∃ (t' : Nat × Nat) (F' : Nat → Nat → Int32), cM F F' ∧ ((v = some (.ref (g.2.2.2 6)) ∧ σ' = (t', cW g X0 F' σ0)) ∨ ∃ (Sx n : Nat) (fw : Nat → Int32), n ≤ 7 ∧ v = some (.ref Sx) ∧ σ' = (t', cW g X0 F' (zSx g σ0 Sx n fw)) ∧ cFree X0 σ0 Sx ∧ cFree X0 σ0 (Sx + 1))
/-- the literal "none" lies at a, out of the class's way -/
def cNn (g : zG) (X0 : Nat) (σ0 : Nat → Option va_E) (a : Nat) : Prop := ∃ (W n : Nat) (h1 h2 : Int32) (fw : Nat → Int32), (a < X0 ∨ X0 + 61 ≤ a) ∧ (W < X0 ∨ X0 + 61 ≤ W) ∧ σ0 a = some (.inr (0, [.ref W, .int (nI 0), .int h1, .int h2])) ∧ σ0 W = some (.inl (g.2.2.2 2, n, .inl fw)) ∧ n < 2 ^ 31
def qDigC (g : zG) (X0 : Nat) (F : Nat → Nat → Int32) (σ0 : Nat → Option va_E) : Option Value → zS → Prop := fun v σ' => (∃ x, v = some (.long x)) ∧ ∃ (t' : Nat × Nat) (F' : Nat → Nat → Int32), σ' = (t', cW g X0 F' σ0) ∧ cM F F'
set_option maxRecDepth 100000 in
set_option maxHeartbeats 4000000 in
theorem k_X5_cast {g : zG} {t : Nat × Nat} {X0 : Nat} {σ0 : Nat → Option va_E} {F : Nat → Nat → Int32} (hX : g.2.1.size ≤ X0) {nP nS nA nC nT : Nat} (hI : cI nP nS nA nC nT F)  : Ct g 22 yX5_cast cX5_cast 4 (some (FieldType.object "java/lang/String")) 4 31 [.ref (X0 + 0)] (t, cW g X0 F σ0) (qStrC g X0 F σ0) zNo := by
  refine Ct.of (lv := [(0, .ref (X0 + 0))]) (by decide) (Nat.le_of_ble_eq_true rfl) rfl ?_
  intro κ X E B _
  have X : zX g κ RX5 cX5_cast 4 := X
  obtain ⟨b1, b2, b3, b4, b5⟩ := hI.bnd
  refine V_aload_n X dX5_cast_0 0 rfl ?_
  refine C_getf X fl_X5_26 0 (by decide) rfl rfl dX5_cast_1 ?_
  refine V_aload_n X dX5_cast_4 0 rfl ?_
  refine C_getf X fl_X5_10 0 (by decide) rfl rfl dX5_cast_5 ?_
  refine V_aload_n X dX5_cast_8 0 rfl ?_
  refine C_getf X fl_X5_19 0 (by decide) rfl rfl dX5_cast_9 ?_
  refine V_callV (rest := []) X E.room ml_X5_133 in_X0_recall (ci := 4) rfl se_X0_recall (C_recv (q := 12) (by decide) rfl) (by decide) (by decide) (k_X0_recall hX hI) rfl rfl (Nat.le_of_ble_eq_true rfl) ⟨Nat.le_of_ble_eq_true rfl, Nat.le_of_ble_eq_true rfl⟩ dX5_cast_12 (fun _ _ h => False.elim h) (fun v12 σ' hp12 => ?_)
  obtain ⟨hp12, F1, rfl, hJF1⟩ := hp12
  have hKF1 : cM F F1 := hJF1.m
  cases (hp12 : _ = none)
  show V g κ 4 (0) (0) (t, cW g X0 F1 σ0) 15 [(0, .ref (X0 + 0))] []
  refine V_aload_n X dX5_cast_15 0 rfl ?_
  refine C_getf X fl_X5_26 0 (by decide) rfl rfl dX5_cast_16 ?_
  refine C_getf X fl_X5_220 12 (by decide) rfl rfl dX5_cast_19 (V.topi (fun x2 ex2 => ?_))
  refine V_iconst (v := (-1)) X dX5_cast_22 (by decide) ?_
  refine V_icmpne X (tgt := 29) dX5_cast_23 (by decide) (fun h3 => ?_) (fun h3 => ?_)
  · -- 23 true
    refine V.fr (fun hfr => ?_)
    have fB := cFresh (t := t) hfr (k := t.1) (Nat.le_refl _)
    have fV := cFresh (t := t) hfr (k := t.1 + 1) (by omega)
    have fS := cFresh (t := t) hfr (k := t.1 + 2) (by omega)
    have fW := cFresh (t := t) hfr (k := t.1 + 3) (by omega)
    have gB : g.2.1.size ≤ t.1 := (by have h1 : X0 + 0 < t.1 := hfr _ _ (cW_at (k := 0) (by decide)); omega)
    refine V_new X E.room (ci := 1) (fs := [.null, .int (nI (0)), .int (nI (0)), .int (nI (0))]) rfl zi_J4 tyJ4 tyJ4_ok cl_X5_231 mk_J4 nz_J4 (by intro j hj; match j, hj with | 0, _ => rfl | 1, _ => rfl | 2, _ => rfl | 3, _ => rfl | i + 4, hj => exact absurd hj (by omega)) (by omega) (by omega) dX5_cast_29 ?_
    refine V_dup X dX5_cast_32 rfl ?_
    refine V_callI (rest := [.ref (t.1)]) X E.room ml_X5_233 in_J4_init_da8c8 rfl (by omega) (by decide) (k_J4_init_da8c8 (t := (t.1 + 1, t.2 + 4)) zup_eq gB) rfl rfl (Nat.le_of_ble_eq_true rfl) ⟨by omega, by omega⟩ dX5_cast_33 (fun _ _ h => False.elim h) (fun v33 σ' hp33 => ?_)
    obtain ⟨hp33, rfl⟩ := hp33
    cases (hp33 : _ = none)
    refine V.so (σ' := ((t.1 + 2, t.2 + 20), cW g X0 F1 (zSB g σ0 t.1 (0) (nI (0)) (fun _ => 0)))) (congrArg (Prod.mk _) (by show zup (zup (zup _ _ _) (t.1 + 1) _) _ _ = _; rw [zup_comm (show t.1 ≠ t.1 + 1 by omega), zup_zup, cW_zup fB.1, cW_zup fV.1, zup_comm (show t.1 + 1 ≠ t.1 by omega)]; rfl)) ?_
    show V g κ 4 (2) (20) ((t.1 + 2, t.2 + 20), cW g X0 F1 (zSB g σ0 t.1 (0) (nI (0)) (fun _ => 0))) 36 [(0, .ref (X0 + 0))] [.ref (t.1)]
    refine V_astore_n X [(1, .ref (t.1)), (0, .ref (X0 + 0))] dX5_cast_36 (by decide) rfl ?_
    refine V_iconst (v := nI 0) X dX5_cast_37 (by decide) ?_
    refine V_istore_n X [(2, .int (nI (0))), (1, .ref (t.1)), (0, .ref (X0 + 0))] dX5_cast_38 (by decide) rfl ?_
    have L39 : ∀ (n39 : Nat) (i39 : Nat) (fv39 : Nat → Int32), n39 = nP - i39 → i39 ≤ nP → sb_Fit fv39 → V g κ 4 (2) (20) ((t.1 + 2, t.2 + 20), cW g X0 F1 (zSB g σ0 t.1 (i39) (nI (0)) (fv39))) 39 [(2, .int (nI (i39))), (1, .ref (t.1)), (0, .ref (X0 + 0))] [] := by
      intro n39
      induction n39 using Nat.strongRecOn with
      | ind n39 ih39 =>
        intro i39 fv39 hn39 hi39 hv39
        refine V_iload_n X dX5_cast_39 0 rfl ?_
        refine V_aload_n X dX5_cast_40 2 rfl ?_
        refine C_getf X fl_X5_10 0 (by decide) rfl rfl dX5_cast_41 ?_
        refine C_getfN (z := nI (nP)) X fl_X5_48 1 (by decide) rfl rfl (hI.mvM hKF1).f1_5 dX5_cast_44 ?_
        refine V_icmpgeN X (by omega) (by omega) (tgt := 85) dX5_cast_47 (by decide) (fun h4 => ?_) (fun h4 => ?_)
        · -- 47 true
          refine V_aload_n X dX5_cast_85 1 rfl ?_
          refine V_callV (rest := []) X E.room ml_X5_238 in_J4_toString_0e30d (ci := 1) rfl se_J4_toString_0e30d ((cW_out fB.1).trans zSB_B) (by omega) (by decide) (k_J4_toString_0e30d (t := (t.1 + 2, t.2 + 20)) (B := t.1) (Va := t.1 + 1) (n := i39) (fv := fv39) ((cW_out fB.1).trans zSB_B) ((cW_out fV.1).trans zSB_V) (by omega) (hv39) (by show _ ≤ t.1 + 2; omega)) rfl rfl (Nat.le_of_ble_eq_true rfl) ⟨by omega, by omega⟩ dX5_cast_86 (fun _ _ h => False.elim h) (fun v86 σ' hp86 => ?_)
          obtain ⟨hp86, rfl⟩ := hp86
          cases (hp86 : _ = some (Value.ref (t.1 + 2)))
          refine V.weak (f' := cW g X0 F1 (zSx g σ0 (t.1 + 2) (i39) (va_cpy (fv39) (fun _ => 0) 0 0 (i39)))) (fun a e he => ?_) ?_
          · show zup (zup _ (t.1 + 2) _) (t.1 + 2 + 1) _ a = _
            rw [cW_zup fS.1, cW_zup fW.1]
            exact cW_sub (zup_mono (zup_mono (zSB_sub fB.2 fV.2))) a e he
          show V g κ 4 (2 + 2) (20 + (4 + i39)) ((t.1 + 2 + 2, t.2 + 20 + 4 + i39), cW g X0 F1 (zSx g σ0 (t.1 + 2) (i39) (va_cpy (fv39) (fun _ => 0) 0 0 (i39)))) 89 [(2, .int (nI (i39))), (1, .ref (t.1)), (0, .ref (X0 + 0))] [.ref (t.1 + 2)]
          exact V_aret X E (Or.inl ⟨_, rfl⟩) (Or.inr ⟨_, rfl⟩) (by omega) (by omega) ⟨_, _, hKF1, Or.inr ⟨_, _, _, by omega, rfl, rfl, fS, fW⟩⟩ dX5_cast_89
        · -- 47 false
          refine V_aload_n X dX5_cast_50 2 rfl ?_
          refine C_getf X fl_X5_26 0 (by decide) rfl rfl dX5_cast_51 ?_
          refine V_iload_n X dX5_cast_54 0 rfl ?_
          refine V_callV (rest := []) X E.room ml_X5_174 in_X0_playerOf (ci := 4) rfl se_X0_playerOf (C_recv (q := 12) (by decide) rfl) (by decide) (by decide) (k_X0_playerOf hX (hI.mvM hKF1) (nI (i39))) rfl rfl (Nat.le_of_ble_eq_true rfl) ⟨Nat.le_of_ble_eq_true rfl, Nat.le_of_ble_eq_true rfl⟩ dX5_cast_55 (fun _ _ h => False.elim h) (fun v55 σ' hp55 => ?_)
          obtain ⟨hp55, rfl⟩ := hp55
          rcases hp55 with rfl | ⟨r5, hr5, rfl⟩
          · -- none
            show V g κ 4 (2) (20) ((t.1 + 2, t.2 + 20), cW g X0 F1 (zSB g σ0 t.1 (i39) (nI (0)) (fv39))) 58 [(2, .int (nI (i39))), (1, .ref (t.1)), (0, .ref (X0 + 0))] [.int (-1)]
            refine V_istore_n X [(3, .int (-1)), (2, .int (nI (i39))), (1, .ref (t.1)), (0, .ref (X0 + 0))] dX5_cast_58 (by decide) rfl ?_
            refine V_aload_n X dX5_cast_59 2 rfl ?_
            refine V_iload_n X dX5_cast_60 0 rfl ?_
            refine V_iconst (v := (-1)) X dX5_cast_61 (by decide) ?_
            refine V_icmpne X (tgt := 70) dX5_cast_62 (by decide) (fun h6 => absurd h6 (not_not_intro rfl)) (fun h6 => ?_)
            refine V_bipush (v := nI 46) X dX5_cast_65 (by decide) ?_
            refine V_goto (tgt := 75) X dX5_cast_67 (by decide) ?_
            refine V_callV (rest := []) X E.room ml_X5_234 in_J4_append_cf468 (ci := 1) rfl se_J4_append_cf468 ((cW_out fB.1).trans zSB_B) (by omega) (by decide) (c_append fB.1 fV.1 gB (c := 46) (n := i39) (fv := fv39) (by omega) (by omega)) rfl rfl (Nat.le_of_ble_eq_true rfl) ⟨by omega, by omega⟩ dX5_cast_75 (fun _ _ h => False.elim h) (fun v75 σ' hp75 => ?_)
            obtain ⟨hp75, rfl⟩ := hp75
            cases (hp75 : _ = some (Value.ref t.1))
            show V g κ 4 (2) (20) ((t.1 + 2, t.2 + 20), cW g X0 F1 (zSB g σ0 t.1 (i39 + 1) (nI (0)) (upd (fv39) (nI (i39)).toNatClampNeg (vp_nar .byte ((nI (46)).toInt8.toInt32))))) 78 [(3, .int (-1)), (2, .int (nI (i39))), (1, .ref (t.1)), (0, .ref (X0 + 0))] [.ref (t.1)]
            refine V_pop X dX5_cast_78 rfl ?_
            refine V_iinc X (nI (i39 + 1)) [(2, .int (nI (i39 + 1))), (3, .int (-1)), (1, .ref (t.1)), (0, .ref (X0 + 0))] dX5_cast_79 1 rfl (zinc _) (by decide) rfl ?_
            refine V_goto (tgt := 39) X dX5_cast_82 (by decide) ?_
            exact V.sub [0, 2, 3] rfl (ih39 _ (by omega) (i39 + 1) (upd (fv39) (nI (i39)).toNatClampNeg (vp_nar .byte ((nI (46)).toInt8.toInt32))) rfl (by omega) (sb_fitU hv39 (znar _)))
          · -- number
            show V g κ 4 (2) (20) ((t.1 + 2, t.2 + 20), cW g X0 F1 (zSB g σ0 t.1 (i39) (nI (0)) (fv39))) 58 [(2, .int (nI (i39))), (1, .ref (t.1)), (0, .ref (X0 + 0))] [.int (nI (r5))]
            refine V_istore_n X [(3, .int (nI (r5))), (2, .int (nI (i39))), (1, .ref (t.1)), (0, .ref (X0 + 0))] dX5_cast_58 (by decide) rfl ?_
            refine V_aload_n X dX5_cast_59 2 rfl ?_
            refine V_iload_n X dX5_cast_60 0 rfl ?_
            refine V_iconst (v := (-1)) X dX5_cast_61 (by decide) ?_
            refine V_icmpne X (tgt := 70) dX5_cast_62 (by decide) (fun h7 => ?_) (fun h7 => absurd h7 (znm1 (by omega)))
            refine V_bipush (v := nI 48) X dX5_cast_70 (by decide) ?_
            refine V_iload_n X dX5_cast_72 0 rfl ?_
            refine V_iaddN X dX5_cast_73 ?_
            refine V_i2c X dX5_cast_74 ?_
            rw [zchr r5 (by omega)]
            refine V_callV (rest := []) X E.room ml_X5_234 in_J4_append_cf468 (ci := 1) rfl se_J4_append_cf468 ((cW_out fB.1).trans zSB_B) (by omega) (by decide) (c_append fB.1 fV.1 gB (c := 48 + r5) (n := i39) (fv := fv39) (by omega) (by omega)) rfl rfl (Nat.le_of_ble_eq_true rfl) ⟨by omega, by omega⟩ dX5_cast_75 (fun _ _ h => False.elim h) (fun v75 σ' hp75 => ?_)
            obtain ⟨hp75, rfl⟩ := hp75
            cases (hp75 : _ = some (Value.ref t.1))
            show V g κ 4 (2) (20) ((t.1 + 2, t.2 + 20), cW g X0 F1 (zSB g σ0 t.1 (i39 + 1) (nI (0)) (upd (fv39) (nI (i39)).toNatClampNeg (vp_nar .byte ((nI (48 + r5)).toInt8.toInt32))))) 78 [(3, .int (nI (r5))), (2, .int (nI (i39))), (1, .ref (t.1)), (0, .ref (X0 + 0))] [.ref (t.1)]
            refine V_pop X dX5_cast_78 rfl ?_
            refine V_iinc X (nI (i39 + 1)) [(2, .int (nI (i39 + 1))), (3, .int (nI (r5))), (1, .ref (t.1)), (0, .ref (X0 + 0))] dX5_cast_79 1 rfl (zinc _) (by decide) rfl ?_
            refine V_goto (tgt := 39) X dX5_cast_82 (by decide) ?_
            exact V.sub [0, 2, 3] rfl (ih39 _ (by omega) (i39 + 1) (upd (fv39) (nI (i39)).toNatClampNeg (vp_nar .byte ((nI (48 + r5)).toInt8.toInt32))) rfl (by omega) (sb_fitU hv39 (znar _)))
    exact L39 _ 0 (fun _ => 0) rfl (by omega) (sb_fit0)
  · -- 23 false
    refine V_ldcS X (zNone5 X) dX5_cast_26 ?_
    exact V_aret X E (Or.inl ⟨_, rfl⟩) (Or.inr ⟨_, rfl⟩) (by omega) (by omega) ⟨_, _, hKF1, Or.inl ⟨rfl, rfl⟩⟩ dX5_cast_28
