def qStr (g : zG) (ad N : Nat → Nat) (S : Int64) (F : Nat → Nat → Int32) (σ0 : Nat → Option va_E) : Option Value → zS → Prop := fun v σ' => ∃ (t' : Nat × Nat) (F' : Nat → Nat → Int32), rM N F F' ∧ rI N F' ∧ ((v = some (.ref (g.2.2.2 7)) ∧ σ' = (t', rO g ad N S F' σ0)) ∨ ∃ (Sx n : Nat) (fw : Nat → Int32), n ≤ 7 ∧ v = some (.ref Sx) ∧ σ' = (t', rO g ad N S F' (zSx g σ0 Sx n fw)) ∧ rFree ad N σ0 Sx ∧ rFree ad N σ0 (Sx + 1))
theorem V_ldcSw {g : zG} {κ : zC} {own : String} {cc : ByteArray} {nL k n : Nat} {σ : zS} {pc : Nat} {lv : List (Nat × Value)} {rest : List Value} (X : zX g κ own cc nL) {idx q : Nat} {tx : String} (hZ : vk_R own idx tx q (zs κ)) (d : decode cc pc = .ok (.ldc_w idx, 3)) (kk : V g κ nL k n σ (pc + 3) lv (.ref q :: rest)) : V g κ nL k n σ pc lv rest := by
  intro H locs ls hR hL hl T hT S
  obtain ⟨t, a1, b1⟩ := kk H locs ls hR hL hl T hT S
  exact ⟨t, S.ldcStringW X.1 X.2.2.2.1 (text := tx) (a := q) hZ.1 hZ.2 (g := F0 (zm κ) pc ls rest) rfl (by rw [X.2.1]; exact d) t a1, b1⟩
set_option maxRecDepth 100000 in
set_option maxHeartbeats 4000000 in
theorem k_X12_castNow {g : zG} {t : Nat × Nat} {ad N : Nat → Nat} {S : Int64} {σ0 : Nat → Option va_E} {F : Nat → Nat → Int32} (hK : rK g ad N) (hI : rI N F)  : Ct g 26 yX12_castNow cX12_castNow 3 (some (FieldType.object "java/lang/String")) 4 31 [.ref (ad (0))] (t, rO g ad N S F σ0) (qStr g ad N S F σ0) zNo := by
  refine Ct.of (lv := [(0, .ref (ad (0)))]) (by decide) (Nat.le_of_ble_eq_true rfl) rfl ?_
  intro κ X E B _
  have X : zX g κ RX12 cX12_castNow 3 := X
  obtain ⟨b0, b1, b2, b3, b4⟩ := hI.bnd
  refine V_aload_n X dX12_castNow_0 0 rfl ?_
  refine V_callV (rest := []) X E.room ml_X12_219 in_X12_isCast (ci := 16) rfl se_X12_isCast (R_recv hK (q := 0) (rlv (by omega)) rfl) (by omega) (by decide) (k_X12_isCast hK hI) rfl rfl (Nat.le_of_ble_eq_true rfl) ⟨by omega, by omega⟩ dX12_castNow_1 (fun _ _ h => False.elim h) (fun v1 σ' hp1 => ?_)
  obtain ⟨F1, rfl, hCF1, hIF1, hMF1, hZF1, hkF1, hp1⟩ := hp1
  have hKF1 : rM N F F1 := (rM.rfl' : rM N F F).trans hMF1
  rcases hp1 with ⟨rfl, hn1, hc1⟩ | ⟨rfl, hn1⟩
  · -- a cast
    show V g κ 3 (0) (0) (t, rO g ad N S F1 σ0) 4 [(0, .ref (ad (0)))] [.int (nI (1))]
    refine V_ifneN X (by omega) (tgt := 11) dX12_castNow_4 (by decide) (fun h2 => ?_) (fun h2 => absurd h2 (by omega))
    refine V.fr (fun hfr => ?_)
    have fB := rFresh (t := t) hK hfr (k := t.1) (Nat.le_refl _)
    have fV := rFresh (t := t) hK hfr (k := t.1 + 1) (by omega)
    have fS := rFresh (t := t) hK hfr (k := t.1 + 2) (by omega)
    have fW := rFresh (t := t) hK hfr (k := t.1 + 3) (by omega)
    have gB : g.2.1.size ≤ t.1 := (by have h0 := hK.2 0 (rlv (by omega)) (by decide); have h1 : ad 0 < t.1 := hfr _ _ (rO_at hK (rlv (by omega))); omega)
    refine V_new X E.room (ci := 1) (fs := [.null, .int (nI (0)), .int (nI (0)), .int (nI (0))]) rfl zi_J4 tyJ4 tyJ4_ok cl_X12_302 mk_J4 nz_J4 (by intro j hj; match j, hj with | 0, _ => rfl | 1, _ => rfl | 2, _ => rfl | 3, _ => rfl | i + 4, hj => exact absurd hj (by omega)) (by omega) (by omega) dX12_castNow_11 ?_
    refine V_dup X dX12_castNow_14 rfl ?_
    refine V_callI (rest := [.ref (t.1)]) X E.room ml_X12_304 in_J4_init_da8c8 rfl (by omega) (by decide) (k_J4_init_da8c8 (t := (t.1 + 1, t.2 + 4)) zup_eq gB) rfl rfl (Nat.le_of_ble_eq_true rfl) ⟨by omega, by omega⟩ dX12_castNow_15 (fun _ _ h => False.elim h) (fun v15 σ' hp15 => ?_)
    obtain ⟨hp15, rfl⟩ := hp15
    cases (hp15 : _ = none)
    refine V.so (σ' := ((t.1 + 2, t.2 + 20), rO g ad N S F1 (zSB g σ0 t.1 (0) (nI (0)) (fun _ => 0)))) (congrArg (Prod.mk _) (by show zup (zup (zup _ _ _) (t.1 + 1) _) _ _ = _; rw [zup_comm (show t.1 ≠ t.1 + 1 by omega), zup_zup, rO_zup hK fB.1, rO_zup hK fV.1, zup_comm (show t.1 + 1 ≠ t.1 by omega)]; rfl)) ?_
    show V g κ 3 (2) (20) ((t.1 + 2, t.2 + 20), rO g ad N S F1 (zSB g σ0 t.1 (0) (nI (0)) (fun _ => 0))) 18 [(0, .ref (ad (0)))] [.ref (t.1)]
    refine V_astore_n X [(1, .ref (t.1)), (0, .ref (ad (0)))] dX12_castNow_18 (by decide) rfl ?_
    refine V_iconst (v := nI 0) X dX12_castNow_19 (by decide) ?_
    refine V_istore_n X [(2, .int (nI (0))), (1, .ref (t.1)), (0, .ref (ad (0)))] dX12_castNow_20 (by decide) rfl ?_
    have L21 : ∀ (n21 : Nat) (i21 : Nat) (fv21 : Nat → Int32), n21 = N 0 - i21 → i21 ≤ N 0 → (sb_Fit fv21) → V g κ 3 (2) (20) ((t.1 + 2, t.2 + 20), rO g ad N S F1 (zSB g σ0 t.1 (i21) (nI (0)) (fv21))) 21 [(2, .int (nI (i21))), (1, .ref (t.1)), (0, .ref (ad (0)))] [] := by
      intro n21
      induction n21 using Nat.strongRecOn with
      | ind n21 ih21 =>
        intro i21 fv21 hn21 hi21 hv21_0
        refine V_iload_n X dX12_castNow_21 0 rfl ?_
        refine V_aload_n X dX12_castNow_22 2 rfl ?_
        refine R_getf X fl_X12_10 hK (0) (rlv (by omega)) rfl rfl dX12_castNow_23 ?_
        refine V_callV (rest := [.int (nI (i21))]) X E.room ml_X12_42 in_Jx4a65c_size_8abf5 (ci := 3) rfl se_Jx4a65c_size_8abf5 (rO_list hK (i := 0) (by decide)) (by omega) (by decide) (r_size hK 0 (by decide)) rfl rfl (Nat.le_of_ble_eq_true rfl) ⟨by omega, by omega⟩ dX12_castNow_26 (fun _ _ h => False.elim h) (fun v3 σ' hp4 => ?_)
        obtain ⟨hp4, rfl⟩ := hp4
        cases (hp4 : _ = some (Value.int (nI (N 0))))
        show V g κ 3 (2) (20) ((t.1 + 2, t.2 + 20), rO g ad N S F1 (zSB g σ0 t.1 (i21) (nI (0)) (fv21))) 29 [(2, .int (nI (i21))), (1, .ref (t.1)), (0, .ref (ad (0)))] [.int (nI (N 0)), .int (nI (i21))]
        refine V_icmpgeN X (by omega) (by omega) (tgt := 68) dX12_castNow_29 (by decide) (fun h5 => ?_) (fun h5 => ?_)
        · -- 29 true
          refine V_aload_n X dX12_castNow_68 1 rfl ?_
          refine V_callV (rest := []) X E.room ml_X12_309 in_J4_toString_0e30d (ci := 1) rfl se_J4_toString_0e30d ((rO_out fB.1).trans zSB_B) (by omega) (by decide) (k_J4_toString_0e30d (t := (t.1 + 2, t.2 + 20)) (B := t.1) (Va := t.1 + 1) (n := i21) (fv := fv21) ((rO_out fB.1).trans zSB_B) ((rO_out fV.1).trans zSB_V) (by omega) (hv21_0) (by show _ ≤ t.1 + 2; omega)) rfl rfl (Nat.le_of_ble_eq_true rfl) ⟨by omega, by omega⟩ dX12_castNow_69 (fun _ _ h => False.elim h) (fun v69 σ' hp69 => ?_)
          obtain ⟨hp69, rfl⟩ := hp69
          cases (hp69 : _ = some (Value.ref (t.1 + 2)))
          refine V.weak (f' := rO g ad N S F1 (zSx g σ0 (t.1 + 2) (i21) (va_cpy (fv21) (fun _ => 0) 0 0 (i21)))) (fun a e he => ?_) ?_
          · show zup (zup _ (t.1 + 2) _) (t.1 + 2 + 1) _ a = _
            rw [rO_zup hK fS.1, rO_zup hK fW.1]
            exact rO_sub (zup_mono (zup_mono (zSB_sub fB.2 fV.2))) a e he
          show V g κ 3 (2 + 2) (20 + (4 + i21)) ((t.1 + 2 + 2, t.2 + 20 + 4 + i21), rO g ad N S F1 (zSx g σ0 (t.1 + 2) (i21) (va_cpy (fv21) (fun _ => 0) 0 0 (i21)))) 72 [(2, .int (nI (i21))), (1, .ref (t.1)), (0, .ref (ad (0)))] [.ref (t.1 + 2)]
          exact V_aret X E (Or.inl ⟨_, rfl⟩) (Or.inr ⟨_, rfl⟩) (by omega) (by omega) ⟨_, _, hKF1, hIF1, Or.inr ⟨_, _, _, by omega, rfl, rfl, fS, fW⟩⟩ dX12_castNow_72
        · -- 29 false
          refine V_aload_n X dX12_castNow_32 1 rfl ?_
          refine V_aload_n X dX12_castNow_33 2 rfl ?_
          refine R_getf X fl_X12_28 hK (0) (rlv (by omega)) rfl rfl dX12_castNow_34 ?_
          refine V_iload_n X dX12_castNow_37 0 rfl ?_
          refine R_iald X hK (11) (by omega) (i21) rfl (by omega) dX12_castNow_38 ?_
          rcases hc1.1 (i21) (by omega) with eo | ⟨p9, hp9, eo⟩
          · rw [eo]
            show V g κ 3 (2) (20) ((t.1 + 2, t.2 + 20), rO g ad N S F1 (zSB g σ0 t.1 (i21) (nI (0)) (fv21))) 39 [(2, .int (nI (i21))), (1, .ref (t.1)), (0, .ref (ad (0)))] [.int (-1), .ref (t.1)]
            refine V_iconst (v := (-1)) X dX12_castNow_39 (by decide) ?_
            refine V_icmpne X (tgt := 48) dX12_castNow_40 (by decide) (fun h6 => absurd h6 (not_not_intro rfl)) (fun h6 => ?_)
            refine V_bipush (v := nI 46) X dX12_castNow_43 (by decide) ?_
            refine V_goto (tgt := 58) X dX12_castNow_45 (by decide) ?_
            refine V_callV (rest := []) X E.room ml_X12_305 in_J4_append_cf468 (ci := 1) rfl se_J4_append_cf468 ((rO_out fB.1).trans zSB_B) (by omega) (by decide) (r_append hK fB.1 fV.1 gB (c := 46) (n := i21) (fv := fv21) (by omega) (by omega)) rfl rfl (Nat.le_of_ble_eq_true rfl) ⟨by omega, by omega⟩ dX12_castNow_58 (fun _ _ h => False.elim h) (fun v58 σ' hp58 => ?_)
            obtain ⟨hp58, rfl⟩ := hp58
            cases (hp58 : _ = some (Value.ref t.1))
            show V g κ 3 (2) (20) ((t.1 + 2, t.2 + 20), rO g ad N S F1 (zSB g σ0 t.1 (i21 + 1) (nI (0)) (upd (fv21) (nI (i21)).toNatClampNeg (vp_nar .byte ((nI (46)).toInt8.toInt32))))) 61 [(2, .int (nI (i21))), (1, .ref (t.1)), (0, .ref (ad (0)))] [.ref (t.1)]
            refine V_pop X dX12_castNow_61 rfl ?_
            refine V_iinc X (nI (i21 + 1)) [(2, .int (nI (i21 + 1))), (1, .ref (t.1)), (0, .ref (ad (0)))] dX12_castNow_62 0 rfl (zinc _) (by decide) rfl ?_
            refine V_goto (tgt := 21) X dX12_castNow_65 (by decide) ?_
            exact V.sub [0, 1, 2] rfl (ih21 _ (by omega) (i21 + 1) (upd (fv21) (nI (i21)).toNatClampNeg (vp_nar .byte ((nI (46)).toInt8.toInt32))) rfl (by omega) (sb_fitU hv21_0 (znar _)))
          · rw [eo]
            show V g κ 3 (2) (20) ((t.1 + 2, t.2 + 20), rO g ad N S F1 (zSB g σ0 t.1 (i21) (nI (0)) (fv21))) 39 [(2, .int (nI (i21))), (1, .ref (t.1)), (0, .ref (ad (0)))] [.int (nI (p9)), .ref (t.1)]
            refine V_iconst (v := (-1)) X dX12_castNow_39 (by decide) ?_
            refine V_icmpne X (tgt := 48) dX12_castNow_40 (by decide) (fun h7 => ?_) (fun h7 => absurd h7 (znm1 (by omega)))
            refine V_bipush (v := nI 48) X dX12_castNow_48 (by decide) ?_
            refine V_aload_n X dX12_castNow_50 2 rfl ?_
            refine R_getf X fl_X12_28 hK (0) (rlv (by omega)) rfl rfl dX12_castNow_51 ?_
            refine V_iload_n X dX12_castNow_54 0 rfl ?_
            refine R_iald X hK (11) (by omega) (i21) rfl (by omega) dX12_castNow_55 ?_
            rw [eo]
            show V g κ 3 (2) (20) ((t.1 + 2, t.2 + 20), rO g ad N S F1 (zSB g σ0 t.1 (i21) (nI (0)) (fv21))) 56 [(2, .int (nI (i21))), (1, .ref (t.1)), (0, .ref (ad (0)))] [.int (nI (p9)), .int (nI (48)), .ref (t.1)]
            refine V_iaddN X dX12_castNow_56 ?_
            refine V_i2c X dX12_castNow_57 ?_
            rw [zchr p9 (by omega)]
            refine V_callV (rest := []) X E.room ml_X12_305 in_J4_append_cf468 (ci := 1) rfl se_J4_append_cf468 ((rO_out fB.1).trans zSB_B) (by omega) (by decide) (r_append hK fB.1 fV.1 gB (c := 48 + p9) (n := i21) (fv := fv21) (by omega) (by omega)) rfl rfl (Nat.le_of_ble_eq_true rfl) ⟨by omega, by omega⟩ dX12_castNow_58 (fun _ _ h => False.elim h) (fun v58 σ' hp58 => ?_)
            obtain ⟨hp58, rfl⟩ := hp58
            cases (hp58 : _ = some (Value.ref t.1))
            show V g κ 3 (2) (20) ((t.1 + 2, t.2 + 20), rO g ad N S F1 (zSB g σ0 t.1 (i21 + 1) (nI (0)) (upd (fv21) (nI (i21)).toNatClampNeg (vp_nar .byte ((nI (48 + p9)).toInt8.toInt32))))) 61 [(2, .int (nI (i21))), (1, .ref (t.1)), (0, .ref (ad (0)))] [.ref (t.1)]
            refine V_pop X dX12_castNow_61 rfl ?_
            refine V_iinc X (nI (i21 + 1)) [(2, .int (nI (i21 + 1))), (1, .ref (t.1)), (0, .ref (ad (0)))] dX12_castNow_62 0 rfl (zinc _) (by decide) rfl ?_
            refine V_goto (tgt := 21) X dX12_castNow_65 (by decide) ?_
            exact V.sub [0, 1, 2] rfl (ih21 _ (by omega) (i21 + 1) (upd (fv21) (nI (i21)).toNatClampNeg (vp_nar .byte ((nI (48 + p9)).toInt8.toInt32))) rfl (by omega) (sb_fitU hv21_0 (znar _)))
    exact L21 _ (0) (fun _ => 0) rfl (by omega) (sb_fit0)
  · -- none
    show V g κ 3 (0) (0) (t, rO g ad N S F1 σ0) 4 [(0, .ref (ad (0)))] [.int (nI (0))]
    refine V_ifneN X (by omega) (tgt := 11) dX12_castNow_4 (by decide) (fun h8 => absurd h8 (by omega)) (fun h8 => ?_)
    refine V_ldcSw X (zNone12 X) dX12_castNow_7 ?_
    exact V_aret X E (Or.inl ⟨_, rfl⟩) (Or.inr ⟨_, rfl⟩) (by omega) (by omega) ⟨_, _, hKF1, hIF1, Or.inl ⟨rfl, rfl⟩⟩ dX12_castNow_10
