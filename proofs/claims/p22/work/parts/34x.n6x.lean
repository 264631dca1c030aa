/-! ===== would, without of the reference, exact ===== -/
set_option maxRecDepth 100000 in
set_option maxHeartbeats 4000000 in
theorem k_X12_would_x {g : zG} {t : Nat × Nat} {ad N : Nat → Nat} {S : Int64} {σ0 : Nat → Option va_E} {F : Nat → Nat → Int32} (hK : rK g ad N) (hI : rI N F) (a1 : Int32) : Ct g 25 yX12_would cX12_would 2 (some FieldType.int) 0 0 [.ref (ad (0)), .int (a1)] (t, rO g ad N S F σ0) (qEx g ad N S σ0 (fun x F' => zR2 (F' 0 0) (zin 0 (2 ^ N 2 - 1) a1) True (rM F F') (mFew (zFR N F (nI (2 ^ N 2 - 1) &&& (a1 ^^^ (-1)))) x ∧ rM F F'))) zNo := by
  refine Ct.of (lv := [(0, .ref (ad (0))), (1, .int (a1))]) (by decide) (Nat.le_of_ble_eq_true rfl) rfl ?_
  intro κ X E B _
  have X : zX g κ RX12 cX12_would 2 := X
  obtain ⟨b0, b1, b2, b3, b4⟩ := hI.bnd
  have h64 : 2 ^ N 2 ≤ 64 := zp2 (n := 6) (by omega)
  refine V_aload_n X dX12_would_0 0 rfl ?_
  refine V_iconst (v := nI 0) X dX12_would_1 (by decide) ?_
  refine R_putf X fl_X12_38 zt_X12 hK (0) (rlv (by omega)) (by omega) rfl (Nat.le_of_ble_eq_true rfl) rfl rfl rfl rfl rfl dX12_would_2 (fun F1 hF1 => ?_)
  have hJF1 := (rM.rfl' : rM F F).set hF1 (by omega)
  have hIF1 := hI.st hF1 (by omega)
  refine V_iload_n X dX12_would_5 1 rfl ?_
  refine V_iconst (v := nI 0) X dX12_would_6 (by decide) ?_
  refine V_aload_n X dX12_would_7 0 rfl ?_
  refine V_callV (rest := [.int (nI (0)), .int (a1)]) X E.room ml_X12_182 in_X12_all (ci := 16) rfl se_X12_all (R_recv hK (q := 0) (rlv (by omega)) rfl) (by omega) (by decide) (k_X12_all hK hIF1) rfl rfl (Nat.le_of_ble_eq_true rfl) ⟨by omega, by omega⟩ dX12_would_8 (fun _ _ h => False.elim h) (fun v8 σ' hp8 => ?_)
  obtain ⟨hp8, rfl⟩ := hp8
  cases (hp8 : _ = some (Value.int (nI (2 ^ N 2 - 1))))
  show V g κ 2 (0) (0) (t, rO g ad N S F1 σ0) 11 [(0, .ref (ad (0))), (1, .int (a1))] [.int (nI (2 ^ N 2 - 1)), .int (nI (0)), .int (a1)]
  refine V_callS (rest := []) X E.room ml_X12_46 st_X12_is (by omega) (by decide) (k_X12_is (σ := (t, rO g ad N S F1 σ0)) (a1) (nI (0)) (nI (2 ^ N 2 - 1))) rfl rfl (Nat.le_of_ble_eq_true rfl) ⟨by omega, by omega⟩ dX12_would_11 (fun _ _ h => False.elim h) (fun v11 σ' hp11 => ?_)
  obtain ⟨hp11, rfl⟩ := hp11
  rcases hp11 with ⟨rfl, z2⟩ | ⟨rfl, z2⟩
  · -- yes
    show V g κ 2 (0) (0) (t, rO g ad N S F1 σ0) 14 [(0, .ref (ad (0))), (1, .int (a1))] [.int (nI (1))]
    refine V_ifeqN X (by omega) (tgt := 32) dX12_would_14 (by decide) (fun h3 => absurd h3 (by omega)) (fun h3 => ?_)
    refine V_aload_n X dX12_would_17 0 rfl ?_
    refine V_aload_n X dX12_would_18 0 rfl ?_
    refine V_callV (rest := [.ref (ad (0))]) X E.room ml_X12_182 in_X12_all (ci := 16) rfl se_X12_all (R_recv hK (q := 0) (rlv (by omega)) rfl) (by omega) (by decide) (k_X12_all hK hIF1) rfl rfl (Nat.le_of_ble_eq_true rfl) ⟨by omega, by omega⟩ dX12_would_19 (fun _ _ h => False.elim h) (fun v19 σ' hp19 => ?_)
    obtain ⟨hp19, rfl⟩ := hp19
    cases (hp19 : _ = some (Value.int (nI (2 ^ N 2 - 1))))
    show V g κ 2 (0) (0) (t, rO g ad N S F1 σ0) 22 [(0, .ref (ad (0))), (1, .int (a1))] [.int (nI (2 ^ N 2 - 1)), .ref (ad (0))]
    refine V_iload_n X dX12_would_22 1 rfl ?_
    refine V_iconst (v := (-1)) X dX12_would_23 (by decide) ?_
    refine V_ixor X dX12_would_24 (V.topi (fun w4 ew4 => ?_))
    refine V_iand X dX12_would_25 (V.topi (fun w5 ew5 => ?_))
    refine V_callV (rest := []) X E.room ml_X12_185 in_X12_needs (ci := 16) rfl se_X12_needs (R_recv hK (q := 0) (rlv (by omega)) rfl) (by omega) (by decide) (k_X12_needs_x hK hIF1 (w5)) rfl rfl (Nat.le_of_ble_eq_true rfl) ⟨by omega, by omega⟩ dX12_would_26 (fun _ _ h => False.elim h) (fun v26 σ' hp26 => ?_)
    obtain ⟨r7, rfl, fr7, F6, rfl, hJF6, zF6⟩ := hp26
    have hIF6 := hIF1.mv hJF6
    have hKF6 : rM F F6 := hJF1.trans hJF6.m
    show V g κ 2 (0) (0) (t, rO g ad N S F6 σ0) 29 [(0, .ref (ad (0))), (1, .int (a1))] [.int (r7)]
    refine V_goto (tgt := 37) X dX12_would_29 (by decide) ?_
    exact V_iret X E (by omega) (by omega) ⟨_, rfl, _, _, rfl, hIF6, Or.inr (Or.inr ⟨zF6.trans (by rw [hF1, fset_eq]), zin_ok (by assumption) (by decide) (by omega), trivial, by rw [← zFR_mv ((rJ.rfl' : rJ F F).set hF1 (rsc_t (by omega))), ← ew4, ← ew5]; exact fr7, hKF6⟩)⟩ dX12_would_37
  · -- no
    show V g κ 2 (0) (0) (t, rO g ad N S F1 σ0) 14 [(0, .ref (ad (0))), (1, .int (a1))] [.int (nI (0))]
    refine V_ifeqN X (by omega) (tgt := 32) dX12_would_14 (by decide) (fun h8 => ?_) (fun h8 => absurd h8 (by omega))
    refine V_aload_n X dX12_would_32 0 rfl ?_
    refine V_iconst (v := nI 1) X dX12_would_33 (by decide) ?_
    refine V_callV (rest := []) X E.room ml_X12_50 in_X12_refuse (ci := 16) rfl se_X12_refuse (R_recv hK (q := 0) (rlv (by omega)) rfl) (by omega) (by decide) (k_X12_refuse hK hIF1 (nI (1))) rfl rfl (Nat.le_of_ble_eq_true rfl) ⟨by omega, by omega⟩ dX12_would_34 (fun _ _ h => False.elim h) (fun v34 σ' hp34 => ?_)
    obtain ⟨hp34, F9, rfl, hF9⟩ := hp34
    have hKF9 : rM F F9 := (hJF1 : rM F F1).set hF9 (by omega)
    have hIF9 := hIF1.st hF9 (by omega)
    cases (hp34 : _ = some (Value.int (nI (0))))
    show V g κ 2 (0) (0) (t, rO g ad N S F9 σ0) 37 [(0, .ref (ad (0))), (1, .int (a1))] [.int (nI (0))]
    exact V_iret X E (by omega) (by omega) ⟨_, rfl, _, _, rfl, hIF9, Or.inl ⟨(by rw [hF9, fset_eq]), fun q => absurd (zin_no (by decide) (by omega) q) (by assumption), hKF9⟩⟩ dX12_would_37
set_option maxRecDepth 100000 in
set_option maxHeartbeats 4000000 in
theorem k_X12_withoutNow_x {g : zG} {t : Nat × Nat} {ad N : Nat → Nat} {S : Int64} {σ0 : Nat → Option va_E} {F : Nat → Nat → Int32} (hK : rK g ad N) (hI : rI N F) (p : Nat) (hp : p < N 1) : Ct g 25 yX12_withoutNow cX12_withoutNow 4 (some FieldType.int) 0 0 [.ref (ad (0)), .int (nI (p))] (t, rO g ad N S F σ0) (qEx g ad N S σ0 (fun x F' => F' 0 0 = F 0 0 ∧ mFew (zFR N (fset F (21 + p) 3 (nI 1)) (nI (2 ^ N 2 - 1))) x ∧ rM F F')) zNo := by
  refine Ct.of (lv := [(0, .ref (ad (0))), (1, .int (nI (p)))]) (by decide) (Nat.le_of_ble_eq_true rfl) rfl ?_
  intro κ X E B _
  have X : zX g κ RX12 cX12_withoutNow 4 := X
  obtain ⟨b0, b1, b2, b3, b4⟩ := hI.bnd
  refine V_aload_n X dX12_withoutNow_0 0 rfl ?_
  refine R_getf X fl_X12_16 hK (0) (rlv (by omega)) rfl rfl dX12_withoutNow_1 ?_
  refine V_iload_n X dX12_withoutNow_4 1 rfl ?_
  refine V_callV (rest := []) X E.room ml_X12_97 in_Jx4a65c_get_915e3 (ci := 3) rfl se_Jx4a65c_get_915e3 (rO_list hK (i := 1) (by decide)) (by omega) (by decide) (r_get hK 1 (by decide) (j := p) (by omega) (by omega)) rfl rfl (Nat.le_of_ble_eq_true rfl) ⟨by omega, by omega⟩ dX12_withoutNow_5 (fun _ _ h => False.elim h) (fun v1 σ' hp2 => ?_)
  obtain ⟨hp2, rfl⟩ := hp2
  cases (hp2 : _ = some (Value.ref (ad (21 + (p)))))
  show V g κ 4 (0) (0) (t, rO g ad N S F σ0) 8 [(0, .ref (ad (0))), (1, .int (nI (p)))] [.ref (ad (21 + (p)))]
  refine V_cast X (C := RX9) rfl cl_X12_74 (R_recv hK (q := 21 + (p)) (rlv (by omega)) (rCell_player (by omega))) dX12_withoutNow_8 ?_
  refine R_getf X fl_X12_115 hK (21 + (p)) (rlv (by omega)) (rCell_player (by omega)) rfl dX12_withoutNow_11 (V.topi (fun x3 ex3 => ?_))
  have hx3 : x3 = 0 ∨ x3 = 1 := by rw [ex3]; exact hI.sick _ (by omega)
  refine V_istore_n X [(2, .int (x3)), (0, .ref (ad (0))), (1, .int (nI (p)))] dX12_withoutNow_14 (by decide) rfl ?_
  refine V_aload_n X dX12_withoutNow_15 1 rfl ?_
  refine R_getf X fl_X12_16 hK (0) (rlv (by omega)) rfl rfl dX12_withoutNow_16 ?_
  refine V_iload_n X dX12_withoutNow_19 2 rfl ?_
  refine V_callV (rest := []) X E.room ml_X12_97 in_Jx4a65c_get_915e3 (ci := 3) rfl se_Jx4a65c_get_915e3 (rO_list hK (i := 1) (by decide)) (by omega) (by decide) (r_get hK 1 (by decide) (j := p) (by omega) (by omega)) rfl rfl (Nat.le_of_ble_eq_true rfl) ⟨by omega, by omega⟩ dX12_withoutNow_20 (fun _ _ h => False.elim h) (fun v4 σ' hp5 => ?_)
  obtain ⟨hp5, rfl⟩ := hp5
  cases (hp5 : _ = some (Value.ref (ad (21 + (p)))))
  show V g κ 4 (0) (0) (t, rO g ad N S F σ0) 23 [(2, .int (x3)), (0, .ref (ad (0))), (1, .int (nI (p)))] [.ref (ad (21 + (p)))]
  refine V_cast X (C := RX9) rfl cl_X12_74 (R_recv hK (q := 21 + (p)) (rlv (by omega)) (rCell_player (by omega))) dX12_withoutNow_23 ?_
  refine V_iconst (v := nI 1) X dX12_withoutNow_26 (by decide) ?_
  refine R_putf X fl_X12_115 zt_X9 hK (21 + (p)) (rlv (by omega)) (by omega) (rCell_player (by omega)) (Nat.le_of_ble_eq_true rfl) rfl rfl rfl rfl ((rCell_player (by omega)).trans rfl) dX12_withoutNow_27 (fun F6 hF6 => ?_)
  have hIF6 := hI.sk (i := p) hF6 (Or.inr (by decide))
  refine V_aload_n X dX12_withoutNow_30 1 rfl ?_
  refine V_aload_n X dX12_withoutNow_31 1 rfl ?_
  refine V_callV (rest := [.ref (ad (0))]) X E.room ml_X12_182 in_X12_all (ci := 16) rfl se_X12_all (R_recv hK (q := 0) (rlv (by omega)) rfl) (by omega) (by decide) (k_X12_all hK hIF6) rfl rfl (Nat.le_of_ble_eq_true rfl) ⟨by omega, by omega⟩ dX12_withoutNow_32 (fun _ _ h => False.elim h) (fun v32 σ' hp32 => ?_)
  obtain ⟨hp32, rfl⟩ := hp32
  cases (hp32 : _ = some (Value.int (nI (2 ^ N 2 - 1))))
  show V g κ 4 (0) (0) (t, rO g ad N S F6 σ0) 35 [(2, .int (x3)), (0, .ref (ad (0))), (1, .int (nI (p)))] [.int (nI (2 ^ N 2 - 1)), .ref (ad (0))]
  refine V_callV (rest := []) X E.room ml_X12_185 in_X12_needs (ci := 16) rfl se_X12_needs (R_recv hK (q := 0) (rlv (by omega)) rfl) (by omega) (by decide) (k_X12_needs_x hK hIF6 (nI (2 ^ N 2 - 1))) rfl rfl (Nat.le_of_ble_eq_true rfl) ⟨by omega, by omega⟩ dX12_withoutNow_35 (fun _ _ h => False.elim h) (fun v35 σ' hp35 => ?_)
  obtain ⟨r8, rfl, fr8, F7, rfl, hJF7, zF7⟩ := hp35
  have hIF7 := hIF6.mv hJF7
  have hKF7 : rM F6 F7 := hJF7.m
  show V g κ 4 (0) (0) (t, rO g ad N S F7 σ0) 38 [(2, .int (x3)), (0, .ref (ad (0))), (1, .int (nI (p)))] [.int (r8)]
  refine V_istore_n X [(3, .int (r8)), (2, .int (x3)), (0, .ref (ad (0))), (1, .int (nI (p)))] dX12_withoutNow_38 (by decide) rfl ?_
  refine V_aload_n X dX12_withoutNow_39 2 rfl ?_
  refine R_getf X fl_X12_16 hK (0) (rlv (by omega)) rfl rfl dX12_withoutNow_40 ?_
  refine V_iload_n X dX12_withoutNow_43 3 rfl ?_
  refine V_callV (rest := []) X E.room ml_X12_97 in_Jx4a65c_get_915e3 (ci := 3) rfl se_Jx4a65c_get_915e3 (rO_list hK (i := 1) (by decide)) (by omega) (by decide) (r_get hK 1 (by decide) (j := p) (by omega) (by omega)) rfl rfl (Nat.le_of_ble_eq_true rfl) ⟨by omega, by omega⟩ dX12_withoutNow_44 (fun _ _ h => False.elim h) (fun v9 σ' hp10 => ?_)
  obtain ⟨hp10, rfl⟩ := hp10
  cases (hp10 : _ = some (Value.ref (ad (21 + (p)))))
  show V g κ 4 (0) (0) (t, rO g ad N S F7 σ0) 47 [(3, .int (r8)), (2, .int (x3)), (0, .ref (ad (0))), (1, .int (nI (p)))] [.ref (ad (21 + (p)))]
  refine V_cast X (C := RX9) rfl cl_X12_74 (R_recv hK (q := 21 + (p)) (rlv (by omega)) (rCell_player (by omega))) dX12_withoutNow_47 ?_
  refine V_iload_n X dX12_withoutNow_50 1 rfl ?_
  refine R_putf X fl_X12_115 zt_X9 hK (21 + (p)) (rlv (by omega)) (by omega) (rCell_player (by omega)) (Nat.le_of_ble_eq_true rfl) rfl rfl (zbool hx3) (zfitb hx3) ((rCell_player (by omega)).trans rfl) dX12_withoutNow_51 (fun F11 hF11 => ?_)
  have hJF11 : rM F F11 := rM.undo hF6 hKF7 hF11 ex3
  have hIF11 := hIF7.sk (i := p) hF11 hx3
  refine V_iload_n X dX12_withoutNow_54 0 rfl ?_
  exact V_iret X E (by omega) (by omega) ⟨_, rfl, _, _, rfl, hIF11, by rw [hF11, fset_ne (by omega), zF7, hF6, fset_ne (by omega)], by rw [← hF6]; exact fr8, hJF11⟩ dX12_withoutNow_55
set_option maxRecDepth 100000 in
set_option maxHeartbeats 4000000 in
theorem k_X12_without_x {g : zG} {t : Nat × Nat} {ad N : Nat → Nat} {S : Int64} {σ0 : Nat → Option va_E} {F : Nat → Nat → Int32} (hK : rK g ad N) (hI : rI N F) (a1 : Int32) : Ct g 26 yX12_without cX12_without 2 (some FieldType.int) 0 0 [.ref (ad (0)), .int (a1)] (t, rO g ad N S F σ0) (qEx g ad N S σ0 (fun x F' => zR2 (F' 0 0) (zlt (N 1) a1) True (rM F F') (∃ p : Nat, a1 = nI p ∧ p < N 1 ∧ mFew (zFR N (fset F (21 + p) 3 (nI 1)) (nI (2 ^ N 2 - 1))) x ∧ rM F F'))) zNo := by
  refine Ct.of (lv := [(0, .ref (ad (0))), (1, .int (a1))]) (by decide) (Nat.le_of_ble_eq_true rfl) rfl ?_
  intro κ X E B _
  have X : zX g κ RX12 cX12_without 2 := X
  obtain ⟨b0, b1, b2, b3, b4⟩ := hI.bnd
  refine V_aload_n X dX12_without_0 0 rfl ?_
  refine V_iconst (v := nI 0) X dX12_without_1 (by decide) ?_
  refine R_putf X fl_X12_38 zt_X12 hK (0) (rlv (by omega)) (by omega) rfl (Nat.le_of_ble_eq_true rfl) rfl rfl rfl rfl rfl dX12_without_2 (fun F1 hF1 => ?_)
  have hJF1 := (rM.rfl' : rM F F).set hF1 (by omega)
  have hIF1 := hI.st hF1 (by omega)
  refine V_aload_n X dX12_without_5 0 rfl ?_
  refine V_iload_n X dX12_without_6 1 rfl ?_
  refine V_callV (rest := []) X E.room ml_X12_118 in_X12_isPlayer (ci := 16) rfl se_X12_isPlayer (R_recv hK (q := 0) (rlv (by omega)) rfl) (by omega) (by decide) (k_X12_isPlayer hK hIF1 (a1)) rfl rfl (Nat.le_of_ble_eq_true rfl) ⟨by omega, by omega⟩ dX12_without_7 (fun _ _ h => False.elim h) (fun v7 σ' hp7 => ?_)
  obtain ⟨hp7, rfl⟩ := hp7
  rcases hp7 with ⟨rfl, z2⟩ | ⟨rfl, z2⟩
  · -- yes
    obtain ⟨j3, ej3, uj3⟩ := id z2
    subst ej3
    show V g κ 2 (0) (0) (t, rO g ad N S F1 σ0) 10 [(0, .ref (ad (0))), (1, .int (nI (j3)))] [.int (nI (1))]
    refine V_ifeqN X (by omega) (tgt := 21) dX12_without_10 (by decide) (fun h4 => absurd h4 (by omega)) (fun h4 => ?_)
    refine V_aload_n X dX12_without_13 0 rfl ?_
    refine V_iload_n X dX12_without_14 1 rfl ?_
    refine V_callV (rest := []) X E.room ml_X12_319 in_X12_withoutNow (ci := 16) rfl se_X12_withoutNow (R_recv hK (q := 0) (rlv (by omega)) rfl) (by omega) (by decide) (k_X12_withoutNow_x hK hIF1 (j3) (by omega)) rfl rfl (Nat.le_of_ble_eq_true rfl) ⟨by omega, by omega⟩ dX12_without_15 (fun _ _ h => False.elim h) (fun v15 σ' hp15 => ?_)
    obtain ⟨r7, rfl, t6, F5, rfl, hIF5, zF5, fr7, hJF5⟩ := hp15
    have hKF5 : rM F F5 := (hJF1 : rM F F1).trans hJF5
    show V g κ 2 (0) (0) (t6, rO g ad N S F5 σ0) 18 [(0, .ref (ad (0))), (1, .int (nI (j3)))] [.int (r7)]
    refine V_goto (tgt := 26) X dX12_without_18 (by decide) ?_
    exact V_iret X E (by omega) (by omega) ⟨_, rfl, _, _, rfl, hIF5, Or.inr (Or.inr ⟨zF5.trans (by rw [hF1, fset_eq]), ⟨_, rfl, by omega⟩, trivial, _, rfl, by omega, by rw [← zFR_mv (((rJ.rfl' : rJ F F).set hF1 (rsc_t (by omega))).fs)]; exact fr7, hKF5⟩)⟩ dX12_without_26
  · -- no
    show V g κ 2 (0) (0) (t, rO g ad N S F1 σ0) 10 [(0, .ref (ad (0))), (1, .int (a1))] [.int (nI (0))]
    refine V_ifeqN X (by omega) (tgt := 21) dX12_without_10 (by decide) (fun h8 => ?_) (fun h8 => absurd h8 (by omega))
    refine V_aload_n X dX12_without_21 0 rfl ?_
    refine V_iconst (v := nI 1) X dX12_without_22 (by decide) ?_
    refine V_callV (rest := []) X E.room ml_X12_50 in_X12_refuse (ci := 16) rfl se_X12_refuse (R_recv hK (q := 0) (rlv (by omega)) rfl) (by omega) (by decide) (k_X12_refuse hK hIF1 (nI (1))) rfl rfl (Nat.le_of_ble_eq_true rfl) ⟨by omega, by omega⟩ dX12_without_23 (fun _ _ h => False.elim h) (fun v23 σ' hp23 => ?_)
    obtain ⟨hp23, F9, rfl, hF9⟩ := hp23
    have hKF9 : rM F F9 := (hJF1 : rM F F1).set hF9 (by omega)
    have hIF9 := hIF1.st hF9 (by omega)
    cases (hp23 : _ = some (Value.int (nI (0))))
    show V g κ 2 (0) (0) (t, rO g ad N S F9 σ0) 26 [(0, .ref (ad (0))), (1, .int (a1))] [.int (nI (0))]
    exact V_iret X E (by omega) (by omega) ⟨_, rfl, _, _, rfl, hIF9, Or.inl ⟨(by rw [hF9, fset_eq]), by assumption, hKF9⟩⟩ dX12_without_26
