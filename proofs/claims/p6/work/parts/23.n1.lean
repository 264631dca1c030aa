set_option maxRecDepth 100000 in
set_option maxHeartbeats 4000000 in
theorem k_X12_refuse {g : zG} {t : Nat × Nat} {ad N : Nat → Nat} {S : Int64} {σ0 : Nat → Option va_E} {F : Nat → Nat → Int32} (hK : rK g ad N) (hI : rI N F)  (a1 : Int32) : Ct g 10 yX12_refuse cX12_refuse 2 (some FieldType.int) 0 0 [.ref (ad (0)), .int (a1)] (t, rO g ad N S F σ0) (fun v σ' => v = some (.int (nI 0)) ∧ ∃ F' : Nat → Nat → Int32, σ' = (t, rO g ad N S F' σ0) ∧ F' = fset F 0 0 a1) zNo := by
  refine Ct.of (lv := [(0, .ref (ad (0))), (1, .int (a1))]) (by decide) (Nat.le_of_ble_eq_true rfl) rfl ?_
  intro κ X E B _
  have X : zX g κ RX12 cX12_refuse 2 := X
  obtain ⟨b0, b1, b2, b3, b4⟩ := hI.bnd
  refine V_aload_n X dX12_refuse_0 0 rfl ?_
  refine V_iload_n X dX12_refuse_1 1 rfl ?_
  refine R_putf X fl_X12_38 zt_X12 hK (0) (rlv (by omega)) (by omega) rfl (Nat.le_of_ble_eq_true rfl) rfl rfl rfl rfl rfl dX12_refuse_2 (fun F1 hF1 => ?_)
  have hJF1 := (rJ.rfl' : rJ F F).set hF1 (rsc_t (by omega))
  refine V_iconst (v := nI 0) X dX12_refuse_5 (by decide) ?_
  exact V_iret X E (by omega) (by omega) ⟨rfl, _, rfl, hF1⟩ dX12_refuse_6
set_option maxRecDepth 100000 in
set_option maxHeartbeats 4000000 in
theorem k_X12_thrown {g : zG} {t : Nat × Nat} {ad N : Nat → Nat} {S : Int64} {σ0 : Nat → Option va_E} {F : Nat → Nat → Int32} (hK : rK g ad N) (hI : rI N F)  : Ct g 10 yX12_thrown cX12_thrown 1 (some FieldType.int) 0 0 [.ref (ad (0))] (t, rO g ad N S F σ0) (qR (fun v => v = some (.int (F 0 0))) (t, rO g ad N S F σ0)) zNo := by
  refine Ct.of (lv := [(0, .ref (ad (0)))]) (by decide) (Nat.le_of_ble_eq_true rfl) rfl ?_
  intro κ X E B _
  have X : zX g κ RX12 cX12_thrown 1 := X
  obtain ⟨b0, b1, b2, b3, b4⟩ := hI.bnd
  refine V_aload_n X dX12_thrown_0 0 rfl ?_
  refine R_getf X fl_X12_38 hK (0) (rlv (by omega)) rfl rfl dX12_thrown_1 (V.topi (fun x1 ex1 => ?_))
  exact V_iret X E (by omega) (by omega) ⟨(by subst_vars; rfl), rfl⟩ dX12_thrown_4
set_option maxRecDepth 100000 in
set_option maxHeartbeats 4000000 in
theorem k_X12_is {g : zG} {σ : zS}  (a1 : Int32) (a2 : Int32) (a3 : Int32) : Ct g 10 yX12_is cX12_is 3 (some FieldType.boolean) 0 0 [.int (a1), .int (a2), .int (a3)] σ (qR (pZ (a2 ≤ a1 ∧ a1 ≤ a3)) σ) zNo := by
  refine Ct.of (lv := [(0, .int (a1)), (1, .int (a2)), (2, .int (a3))]) (by decide) (Nat.le_of_ble_eq_true rfl) rfl ?_
  intro κ X E B _
  have X : zX g κ RX12 cX12_is 3 := X
  refine V_iload_n X dX12_is_0 0 rfl ?_
  refine V_iload_n X dX12_is_1 1 rfl ?_
  refine V_icmplt X (tgt := 14) dX12_is_2 (by decide) (fun h1 => ?_) (fun h1 => ?_)
  · -- 2 true
    refine V_iconst (v := nI 0) X dX12_is_14 (by decide) ?_
    exact V_zret X E (by first | rfl | decide) (by omega) (by omega) ⟨Or.inr ⟨rfl, fun q => by first | exact absurd q.1 (Int32.not_le.mpr (by assumption)) | exact absurd q.2 (Int32.not_le.mpr (by assumption))⟩, rfl⟩ dX12_is_15
  · -- 2 false
    refine V_iload_n X dX12_is_5 0 rfl ?_
    refine V_iload_n X dX12_is_6 2 rfl ?_
    refine V_icmpgt X (tgt := 14) dX12_is_7 (by decide) (fun h2 => ?_) (fun h2 => ?_)
    · -- 7 true
      refine V_iconst (v := nI 0) X dX12_is_14 (by decide) ?_
      exact V_zret X E (by first | rfl | decide) (by omega) (by omega) ⟨Or.inr ⟨rfl, fun q => by first | exact absurd q.1 (Int32.not_le.mpr (by assumption)) | exact absurd q.2 (Int32.not_le.mpr (by assumption))⟩, rfl⟩ dX12_is_15
    · -- 7 false
      refine V_iconst (v := nI 1) X dX12_is_10 (by decide) ?_
      refine V_goto (tgt := 15) X dX12_is_11 (by decide) ?_
      exact V_zret X E (by first | rfl | decide) (by omega) (by omega) ⟨Or.inl ⟨rfl, ⟨Int32.not_lt.mp (by assumption), Int32.not_lt.mp (by assumption)⟩⟩, rfl⟩ dX12_is_15
set_option maxRecDepth 100000 in
set_option maxHeartbeats 4000000 in
theorem k_X12_isIn {g : zG} {σ : zS}  (a1 : Int32) (a2 : Int32) : Ct g 10 yX12_isIn cX12_isIn 2 (some FieldType.boolean) 0 0 [.int (a1), .int (a2)] σ (qR (pZ (zIn a1 a2)) σ) zNo := by
  refine Ct.of (lv := [(0, .int (a1)), (1, .int (a2))]) (by decide) (Nat.le_of_ble_eq_true rfl) rfl ?_
  intro κ X E B _
  have X : zX g κ RX12 cX12_isIn 2 := X
  refine V_iload_n X dX12_isIn_0 0 rfl ?_
  refine V_iload_n X dX12_isIn_1 1 rfl ?_
  refine V_ishr X dX12_isIn_2 (V.topi (fun w1 ew1 => ?_))
  refine V_iconst (v := nI 1) X dX12_isIn_3 (by decide) ?_
  refine V_iand X dX12_isIn_4 (V.topi (fun w2 ew2 => ?_))
  refine V_iconst (v := nI 1) X dX12_isIn_5 (by decide) ?_
  refine V_icmpne X (tgt := 13) dX12_isIn_6 (by decide) (fun h3 => ?_) (fun h3 => ?_)
  · -- 6 true
    refine V_iconst (v := nI 0) X dX12_isIn_13 (by decide) ?_
    exact V_zret X E (by first | rfl | decide) (by omega) (by omega) ⟨Or.inr ⟨rfl, by unfold zIn; subst_vars; first | assumption | exact Eq.symm (by assumption)⟩, rfl⟩ dX12_isIn_14
  · -- 6 false
    refine V_iconst (v := nI 1) X dX12_isIn_9 (by decide) ?_
    refine V_goto (tgt := 14) X dX12_isIn_10 (by decide) ?_
    exact V_zret X E (by first | rfl | decide) (by omega) (by omega) ⟨Or.inl ⟨rfl, by unfold zIn; subst_vars; first | assumption | exact Eq.symm (by assumption)⟩, rfl⟩ dX12_isIn_14
set_option maxRecDepth 100000 in
set_option maxHeartbeats 4000000 in
theorem k_X12_isPart {g : zG} {t : Nat × Nat} {ad N : Nat → Nat} {S : Int64} {σ0 : Nat → Option va_E} {F : Nat → Nat → Int32} (hK : rK g ad N) (hI : rI N F)  (a1 : Int32) : Ct g 11 yX12_isPart cX12_isPart 2 (some FieldType.boolean) 0 0 [.ref (ad (0)), .int (a1)] (t, rO g ad N S F σ0) (qR (pZ (zlt (N 0) a1)) (t, rO g ad N S F σ0)) zNo := by
  refine Ct.of (lv := [(0, .ref (ad (0))), (1, .int (a1))]) (by decide) (Nat.le_of_ble_eq_true rfl) rfl ?_
  intro κ X E B _
  have X : zX g κ RX12 cX12_isPart 2 := X
  obtain ⟨b0, b1, b2, b3, b4⟩ := hI.bnd
  refine V_iload_n X dX12_isPart_0 1 rfl ?_
  refine V_iconst (v := nI 0) X dX12_isPart_1 (by decide) ?_
  refine V_aload_n X dX12_isPart_2 0 rfl ?_
  refine R_getf X fl_X12_10 hK (0) (rlv (by omega)) rfl rfl dX12_isPart_3 ?_
  refine V_callV (rest := [.int (nI (0)), .int (a1)]) X E.room ml_X12_42 in_Jx4a65c_size_8abf5 (ci := 3) rfl se_Jx4a65c_size_8abf5 (rO_list hK (i := 0) (by decide)) (by omega) (by decide) (r_size hK 0 (by decide)) rfl rfl (Nat.le_of_ble_eq_true rfl) ⟨by omega, by omega⟩ dX12_isPart_6 (fun _ _ h => False.elim h) (fun v1 σ' hp2 => ?_)
  obtain ⟨hp2, rfl⟩ := hp2
  cases (hp2 : _ = some (Value.int (nI (N 0))))
  show V g κ 2 (0) (0) (t, rO g ad N S F σ0) 9 [(0, .ref (ad (0))), (1, .int (a1))] [.int (nI (N 0)), .int (nI (0)), .int (a1)]
  refine V_iconst (v := nI 1) X dX12_isPart_9 (by decide) ?_
  refine V_isub X dX12_isPart_10 (V.topi (fun w3 ew3 => ?_))
  refine V_callS (rest := []) X E.room ml_X12_46 st_X12_is (by omega) (by decide) (k_X12_is (σ := (t, rO g ad N S F σ0)) (a1) (nI (0)) (w3)) rfl rfl (Nat.le_of_ble_eq_true rfl) ⟨by omega, by omega⟩ dX12_isPart_11 (fun _ _ h => False.elim h) (fun v11 σ' hp11 => ?_)
  obtain ⟨hp11, rfl⟩ := hp11
  rcases hp11 with ⟨rfl, z4⟩ | ⟨rfl, z4⟩
  · -- yes
    show V g κ 2 (0) (0) (t, rO g ad N S F σ0) 14 [(0, .ref (ad (0))), (1, .int (a1))] [.int (nI (1))]
    exact V_zret X E (by first | rfl | decide) (by omega) (by omega) ⟨Or.inl ⟨rfl, (zlt_iff (by omega)).mp (by subst_vars; assumption)⟩, rfl⟩ dX12_isPart_14
  · -- no
    show V g κ 2 (0) (0) (t, rO g ad N S F σ0) 14 [(0, .ref (ad (0))), (1, .int (a1))] [.int (nI (0))]
    exact V_zret X E (by first | rfl | decide) (by omega) (by omega) ⟨Or.inr ⟨rfl, fun q => absurd ((zlt_iff (by omega)).mpr q) (by subst_vars; assumption)⟩, rfl⟩ dX12_isPart_14
set_option maxRecDepth 100000 in
set_option maxHeartbeats 4000000 in
theorem k_X12_isPlayer {g : zG} {t : Nat × Nat} {ad N : Nat → Nat} {S : Int64} {σ0 : Nat → Option va_E} {F : Nat → Nat → Int32} (hK : rK g ad N) (hI : rI N F)  (a1 : Int32) : Ct g 11 yX12_isPlayer cX12_isPlayer 2 (some FieldType.boolean) 0 0 [.ref (ad (0)), .int (a1)] (t, rO g ad N S F σ0) (qR (pZ (zlt (N 1) a1)) (t, rO g ad N S F σ0)) zNo := by
  refine Ct.of (lv := [(0, .ref (ad (0))), (1, .int (a1))]) (by decide) (Nat.le_of_ble_eq_true rfl) rfl ?_
  intro κ X E B _
  have X : zX g κ RX12 cX12_isPlayer 2 := X
  obtain ⟨b0, b1, b2, b3, b4⟩ := hI.bnd
  refine V_iload_n X dX12_isPlayer_0 1 rfl ?_
  refine V_iconst (v := nI 0) X dX12_isPlayer_1 (by decide) ?_
  refine V_aload_n X dX12_isPlayer_2 0 rfl ?_
  refine R_getf X fl_X12_16 hK (0) (rlv (by omega)) rfl rfl dX12_isPlayer_3 ?_
  refine V_callV (rest := [.int (nI (0)), .int (a1)]) X E.room ml_X12_42 in_Jx4a65c_size_8abf5 (ci := 3) rfl se_Jx4a65c_size_8abf5 (rO_list hK (i := 1) (by decide)) (by omega) (by decide) (r_size hK 1 (by decide)) rfl rfl (Nat.le_of_ble_eq_true rfl) ⟨by omega, by omega⟩ dX12_isPlayer_6 (fun _ _ h => False.elim h) (fun v1 σ' hp2 => ?_)
  obtain ⟨hp2, rfl⟩ := hp2
  cases (hp2 : _ = some (Value.int (nI (N 1))))
  show V g κ 2 (0) (0) (t, rO g ad N S F σ0) 9 [(0, .ref (ad (0))), (1, .int (a1))] [.int (nI (N 1)), .int (nI (0)), .int (a1)]
  refine V_iconst (v := nI 1) X dX12_isPlayer_9 (by decide) ?_
  refine V_isub X dX12_isPlayer_10 (V.topi (fun w3 ew3 => ?_))
  refine V_callS (rest := []) X E.room ml_X12_46 st_X12_is (by omega) (by decide) (k_X12_is (σ := (t, rO g ad N S F σ0)) (a1) (nI (0)) (w3)) rfl rfl (Nat.le_of_ble_eq_true rfl) ⟨by omega, by omega⟩ dX12_isPlayer_11 (fun _ _ h => False.elim h) (fun v11 σ' hp11 => ?_)
  obtain ⟨hp11, rfl⟩ := hp11
  rcases hp11 with ⟨rfl, z4⟩ | ⟨rfl, z4⟩
  · -- yes
    show V g κ 2 (0) (0) (t, rO g ad N S F σ0) 14 [(0, .ref (ad (0))), (1, .int (a1))] [.int (nI (1))]
    exact V_zret X E (by first | rfl | decide) (by omega) (by omega) ⟨Or.inl ⟨rfl, (zlt_iff (by omega)).mp (by subst_vars; assumption)⟩, rfl⟩ dX12_isPlayer_14
  · -- no
    show V g κ 2 (0) (0) (t, rO g ad N S F σ0) 14 [(0, .ref (ad (0))), (1, .int (a1))] [.int (nI (0))]
    exact V_zret X E (by first | rfl | decide) (by omega) (by omega) ⟨Or.inr ⟨rfl, fun q => absurd ((zlt_iff (by omega)).mpr q) (by subst_vars; assumption)⟩, rfl⟩ dX12_isPlayer_14
set_option maxRecDepth 100000 in
set_option maxHeartbeats 4000000 in
theorem k_X12_isScene {g : zG} {t : Nat × Nat} {ad N : Nat → Nat} {S : Int64} {σ0 : Nat → Option va_E} {F : Nat → Nat → Int32} (hK : rK g ad N) (hI : rI N F)  (a1 : Int32) : Ct g 11 yX12_isScene cX12_isScene 2 (some FieldType.boolean) 0 0 [.ref (ad (0)), .int (a1)] (t, rO g ad N S F σ0) (qR (pZ (zlt (N 2) a1)) (t, rO g ad N S F σ0)) zNo := by
  refine Ct.of (lv := [(0, .ref (ad (0))), (1, .int (a1))]) (by decide) (Nat.le_of_ble_eq_true rfl) rfl ?_
  intro κ X E B _
  have X : zX g κ RX12 cX12_isScene 2 := X
  obtain ⟨b0, b1, b2, b3, b4⟩ := hI.bnd
  refine V_iload_n X dX12_isScene_0 1 rfl ?_
  refine V_iconst (v := nI 0) X dX12_isScene_1 (by decide) ?_
  refine V_aload_n X dX12_isScene_2 0 rfl ?_
  refine R_getf X fl_X12_19 hK (0) (rlv (by omega)) rfl rfl dX12_isScene_3 ?_
  refine V_callV (rest := [.int (nI (0)), .int (a1)]) X E.room ml_X12_42 in_Jx4a65c_size_8abf5 (ci := 3) rfl se_Jx4a65c_size_8abf5 (rO_list hK (i := 2) (by decide)) (by omega) (by decide) (r_size hK 2 (by decide)) rfl rfl (Nat.le_of_ble_eq_true rfl) ⟨by omega, by omega⟩ dX12_isScene_6 (fun _ _ h => False.elim h) (fun v1 σ' hp2 => ?_)
  obtain ⟨hp2, rfl⟩ := hp2
  cases (hp2 : _ = some (Value.int (nI (N 2))))
  show V g κ 2 (0) (0) (t, rO g ad N S F σ0) 9 [(0, .ref (ad (0))), (1, .int (a1))] [.int (nI (N 2)), .int (nI (0)), .int (a1)]
  refine V_iconst (v := nI 1) X dX12_isScene_9 (by decide) ?_
  refine V_isub X dX12_isScene_10 (V.topi (fun w3 ew3 => ?_))
  refine V_callS (rest := []) X E.room ml_X12_46 st_X12_is (by omega) (by decide) (k_X12_is (σ := (t, rO g ad N S F σ0)) (a1) (nI (0)) (w3)) rfl rfl (Nat.le_of_ble_eq_true rfl) ⟨by omega, by omega⟩ dX12_isScene_11 (fun _ _ h => False.elim h) (fun v11 σ' hp11 => ?_)
  obtain ⟨hp11, rfl⟩ := hp11
  rcases hp11 with ⟨rfl, z4⟩ | ⟨rfl, z4⟩
  · -- yes
    show V g κ 2 (0) (0) (t, rO g ad N S F σ0) 14 [(0, .ref (ad (0))), (1, .int (a1))] [.int (nI (1))]
    exact V_zret X E (by first | rfl | decide) (by omega) (by omega) ⟨Or.inl ⟨rfl, (zlt_iff (by omega)).mp (by subst_vars; assumption)⟩, rfl⟩ dX12_isScene_14
  · -- no
    show V g κ 2 (0) (0) (t, rO g ad N S F σ0) 14 [(0, .ref (ad (0))), (1, .int (a1))] [.int (nI (0))]
    exact V_zret X E (by first | rfl | decide) (by omega) (by omega) ⟨Or.inr ⟨rfl, fun q => absurd ((zlt_iff (by omega)).mpr q) (by subst_vars; assumption)⟩, rfl⟩ dX12_isScene_14
set_option maxRecDepth 100000 in
set_option maxHeartbeats 4000000 in
theorem k_X12_isCoat {g : zG} {t : Nat × Nat} {ad N : Nat → Nat} {S : Int64} {σ0 : Nat → Option va_E} {F : Nat → Nat → Int32} (hK : rK g ad N) (hI : rI N F)  (a1 : Int32) : Ct g 11 yX12_isCoat cX12_isCoat 2 (some FieldType.boolean) 0 0 [.ref (ad (0)), .int (a1)] (t, rO g ad N S F σ0) (qR (pZ (zlt (N 3) a1)) (t, rO g ad N S F σ0)) zNo := by
  refine Ct.of (lv := [(0, .ref (ad (0))), (1, .int (a1))]) (by decide) (Nat.le_of_ble_eq_true rfl) rfl ?_
  intro κ X E B _
  have X : zX g κ RX12 cX12_isCoat 2 := X
  obtain ⟨b0, b1, b2, b3, b4⟩ := hI.bnd
  refine V_iload_n X dX12_isCoat_0 1 rfl ?_
  refine V_iconst (v := nI 0) X dX12_isCoat_1 (by decide) ?_
  refine V_aload_n X dX12_isCoat_2 0 rfl ?_
  refine R_getf X fl_X12_22 hK (0) (rlv (by omega)) rfl rfl dX12_isCoat_3 ?_
  refine V_callV (rest := [.int (nI (0)), .int (a1)]) X E.room ml_X12_42 in_Jx4a65c_size_8abf5 (ci := 3) rfl se_Jx4a65c_size_8abf5 (rO_list hK (i := 3) (by decide)) (by omega) (by decide) (r_size hK 3 (by decide)) rfl rfl (Nat.le_of_ble_eq_true rfl) ⟨by omega, by omega⟩ dX12_isCoat_6 (fun _ _ h => False.elim h) (fun v1 σ' hp2 => ?_)
  obtain ⟨hp2, rfl⟩ := hp2
  cases (hp2 : _ = some (Value.int (nI (N 3))))
  show V g κ 2 (0) (0) (t, rO g ad N S F σ0) 9 [(0, .ref (ad (0))), (1, .int (a1))] [.int (nI (N 3)), .int (nI (0)), .int (a1)]
  refine V_iconst (v := nI 1) X dX12_isCoat_9 (by decide) ?_
  refine V_isub X dX12_isCoat_10 (V.topi (fun w3 ew3 => ?_))
  refine V_callS (rest := []) X E.room ml_X12_46 st_X12_is (by omega) (by decide) (k_X12_is (σ := (t, rO g ad N S F σ0)) (a1) (nI (0)) (w3)) rfl rfl (Nat.le_of_ble_eq_true rfl) ⟨by omega, by omega⟩ dX12_isCoat_11 (fun _ _ h => False.elim h) (fun v11 σ' hp11 => ?_)
  obtain ⟨hp11, rfl⟩ := hp11
  rcases hp11 with ⟨rfl, z4⟩ | ⟨rfl, z4⟩
  · -- yes
    show V g κ 2 (0) (0) (t, rO g ad N S F σ0) 14 [(0, .ref (ad (0))), (1, .int (a1))] [.int (nI (1))]
    exact V_zret X E (by first | rfl | decide) (by omega) (by omega) ⟨Or.inl ⟨rfl, (zlt_iff (by omega)).mp (by subst_vars; assumption)⟩, rfl⟩ dX12_isCoat_14
  · -- no
    show V g κ 2 (0) (0) (t, rO g ad N S F σ0) 14 [(0, .ref (ad (0))), (1, .int (a1))] [.int (nI (0))]
    exact V_zret X E (by first | rfl | decide) (by omega) (by omega) ⟨Or.inr ⟨rfl, fun q => absurd ((zlt_iff (by omega)).mpr q) (by subst_vars; assumption)⟩, rfl⟩ dX12_isCoat_14
set_option maxRecDepth 100000 in
set_option maxHeartbeats 4000000 in
theorem k_X12_isTown {g : zG} {t : Nat × Nat} {ad N : Nat → Nat} {S : Int64} {σ0 : Nat → Option va_E} {F : Nat → Nat → Int32} (hK : rK g ad N) (hI : rI N F)  (a1 : Int32) : Ct g 11 yX12_isTown cX12_isTown 2 (some FieldType.boolean) 0 0 [.ref (ad (0)), .int (a1)] (t, rO g ad N S F σ0) (qR (pZ (zlt (N 4) a1)) (t, rO g ad N S F σ0)) zNo := by
  refine Ct.of (lv := [(0, .ref (ad (0))), (1, .int (a1))]) (by decide) (Nat.le_of_ble_eq_true rfl) rfl ?_
  intro κ X E B _
  have X : zX g κ RX12 cX12_isTown 2 := X
  obtain ⟨b0, b1, b2, b3, b4⟩ := hI.bnd
  refine V_iload_n X dX12_isTown_0 1 rfl ?_
  refine V_iconst (v := nI 0) X dX12_isTown_1 (by decide) ?_
  refine V_aload_n X dX12_isTown_2 0 rfl ?_
  refine R_getf X fl_X12_25 hK (0) (rlv (by omega)) rfl rfl dX12_isTown_3 ?_
  refine V_callV (rest := [.int (nI (0)), .int (a1)]) X E.room ml_X12_42 in_Jx4a65c_size_8abf5 (ci := 3) rfl se_Jx4a65c_size_8abf5 (rO_list hK (i := 4) (by decide)) (by omega) (by decide) (r_size hK 4 (by decide)) rfl rfl (Nat.le_of_ble_eq_true rfl) ⟨by omega, by omega⟩ dX12_isTown_6 (fun _ _ h => False.elim h) (fun v1 σ' hp2 => ?_)
  obtain ⟨hp2, rfl⟩ := hp2
  cases (hp2 : _ = some (Value.int (nI (N 4))))
  show V g κ 2 (0) (0) (t, rO g ad N S F σ0) 9 [(0, .ref (ad (0))), (1, .int (a1))] [.int (nI (N 4)), .int (nI (0)), .int (a1)]
  refine V_iconst (v := nI 1) X dX12_isTown_9 (by decide) ?_
  refine V_isub X dX12_isTown_10 (V.topi (fun w3 ew3 => ?_))
  refine V_callS (rest := []) X E.room ml_X12_46 st_X12_is (by omega) (by decide) (k_X12_is (σ := (t, rO g ad N S F σ0)) (a1) (nI (0)) (w3)) rfl rfl (Nat.le_of_ble_eq_true rfl) ⟨by omega, by omega⟩ dX12_isTown_11 (fun _ _ h => False.elim h) (fun v11 σ' hp11 => ?_)
  obtain ⟨hp11, rfl⟩ := hp11
  rcases hp11 with ⟨rfl, z4⟩ | ⟨rfl, z4⟩
  · -- yes
    show V g κ 2 (0) (0) (t, rO g ad N S F σ0) 14 [(0, .ref (ad (0))), (1, .int (a1))] [.int (nI (1))]
    exact V_zret X E (by first | rfl | decide) (by omega) (by omega) ⟨Or.inl ⟨rfl, (zlt_iff (by omega)).mp (by subst_vars; assumption)⟩, rfl⟩ dX12_isTown_14
  · -- no
    show V g κ 2 (0) (0) (t, rO g ad N S F σ0) 14 [(0, .ref (ad (0))), (1, .int (a1))] [.int (nI (0))]
    exact V_zret X E (by first | rfl | decide) (by omega) (by omega) ⟨Or.inr ⟨rfl, fun q => absurd ((zlt_iff (by omega)).mpr q) (by subst_vars; assumption)⟩, rfl⟩ dX12_isTown_14
set_option maxRecDepth 100000 in
set_option maxHeartbeats 4000000 in
theorem k_X12_all {g : zG} {t : Nat × Nat} {ad N : Nat → Nat} {S : Int64} {σ0 : Nat → Option va_E} {F : Nat → Nat → Int32} (hK : rK g ad N) (hI : rI N F)  : Ct g 11 yX12_all cX12_all 1 (some FieldType.int) 0 0 [.ref (ad (0))] (t, rO g ad N S F σ0) (qR (fun v => v = some (.int (nI (2 ^ N 2 - 1)))) (t, rO g ad N S F σ0)) zNo := by
  refine Ct.of (lv := [(0, .ref (ad (0)))]) (by decide) (Nat.le_of_ble_eq_true rfl) rfl ?_
  intro κ X E B _
  have X : zX g κ RX12 cX12_all 1 := X
  obtain ⟨b0, b1, b2, b3, b4⟩ := hI.bnd
  have hpw : 1 ≤ 2 ^ N 2 := Nat.one_le_two_pow
  refine V_iconst (v := nI 1) X dX12_all_0 (by decide) ?_
  refine V_aload_n X dX12_all_1 0 rfl ?_
  refine R_getf X fl_X12_19 hK (0) (rlv (by omega)) rfl rfl dX12_all_2 ?_
  refine V_callV (rest := [.int (nI (1))]) X E.room ml_X12_42 in_Jx4a65c_size_8abf5 (ci := 3) rfl se_Jx4a65c_size_8abf5 (rO_list hK (i := 2) (by decide)) (by omega) (by decide) (r_size hK 2 (by decide)) rfl rfl (Nat.le_of_ble_eq_true rfl) ⟨by omega, by omega⟩ dX12_all_5 (fun _ _ h => False.elim h) (fun v1 σ' hp2 => ?_)
  obtain ⟨hp2, rfl⟩ := hp2
  cases (hp2 : _ = some (Value.int (nI (N 2))))
  show V g κ 1 (0) (0) (t, rO g ad N S F σ0) 8 [(0, .ref (ad (0)))] [.int (nI (N 2)), .int (nI (1))]
  refine V_ishl1 X (by omega) dX12_all_8 ?_
  refine V_iconst (v := nI 1) X dX12_all_9 (by decide) ?_
  refine V_isubN X (by omega) dX12_all_10 ?_
  exact V_iret X E (by omega) (by omega) ⟨rfl, rfl⟩ dX12_all_11
set_option maxRecDepth 100000 in
set_option maxHeartbeats 4000000 in
theorem k_X12_plays {g : zG} {t : Nat × Nat} {ad N : Nat → Nat} {S : Int64} {σ0 : Nat → Option va_E} {F : Nat → Nat → Int32} (hK : rK g ad N) (hI : rI N F) (i p : Nat) (hi : i < N 1) (hp : p < N 0) : Ct g 13 yX12_plays cX12_plays 3 (some FieldType.boolean) 0 0 [.ref (ad (0)), .int (nI (i)), .int (nI (p))] (t, rO g ad N S F σ0) (qR (pZ (zPl F i p)) (t, rO g ad N S F σ0)) zNo := by
  refine Ct.of (lv := [(0, .ref (ad (0))), (1, .int (nI (i))), (2, .int (nI (p)))]) (by decide) (Nat.le_of_ble_eq_true rfl) rfl ?_
  intro κ X E B _
  have X : zX g κ RX12 cX12_plays 3 := X
  obtain ⟨b0, b1, b2, b3, b4⟩ := hI.bnd
  refine V_aload_n X dX12_plays_0 0 rfl ?_
  refine R_getf X fl_X12_16 hK (0) (rlv (by omega)) rfl rfl dX12_plays_1 ?_
  refine V_iload_n X dX12_plays_4 1 rfl ?_
  refine V_callV (rest := []) X E.room ml_X12_97 in_Jx4a65c_get_915e3 (ci := 3) rfl se_Jx4a65c_get_915e3 (rO_list hK (i := 1) (by decide)) (by omega) (by decide) (r_get hK 1 (by decide) (j := i) (by omega) (by omega)) rfl rfl (Nat.le_of_ble_eq_true rfl) ⟨by omega, by omega⟩ dX12_plays_5 (fun _ _ h => False.elim h) (fun v1 σ' hp2 => ?_)
  obtain ⟨hp2, rfl⟩ := hp2
  cases (hp2 : _ = some (Value.ref (ad (21 + (i)))))
  show V g κ 3 (0) (0) (t, rO g ad N S F σ0) 8 [(0, .ref (ad (0))), (1, .int (nI (i))), (2, .int (nI (p)))] [.ref (ad (21 + (i)))]
  refine V_cast X (C := RX9) rfl cl_X12_74 (R_recv hK (q := 21 + (i)) (rlv (by omega)) (rCell_player (by omega))) dX12_plays_8 ?_
  refine R_getf X fl_X12_115 hK (21 + (i)) (rlv (by omega)) (rCell_player (by omega)) rfl dX12_plays_11 (V.topi (fun x3 ex3 => ?_))
  refine V_ifne X (tgt := 55) dX12_plays_14 (by decide) (fun h4 => ?_) (fun h4 => ?_)
  · -- 14 true
    refine V_iconst (v := nI 0) X dX12_plays_55 (by decide) ?_
    exact V_zret X E (by first | rfl | decide) (by omega) (by omega) ⟨Or.inr ⟨rfl, fun q => by subst_vars; first | exact absurd q.1 (by assumption) | exact absurd q.2 (by assumption)⟩, rfl⟩ dX12_plays_56
  · -- 14 false
    refine V_aload_n X dX12_plays_17 0 rfl ?_
    refine R_getf X fl_X12_16 hK (0) (rlv (by omega)) rfl rfl dX12_plays_18 ?_
    refine V_iload_n X dX12_plays_21 1 rfl ?_
    refine V_callV (rest := []) X E.room ml_X12_97 in_Jx4a65c_get_915e3 (ci := 3) rfl se_Jx4a65c_get_915e3 (rO_list hK (i := 1) (by decide)) (by omega) (by decide) (r_get hK 1 (by decide) (j := i) (by omega) (by omega)) rfl rfl (Nat.le_of_ble_eq_true rfl) ⟨by omega, by omega⟩ dX12_plays_22 (fun _ _ h => False.elim h) (fun v5 σ' hp6 => ?_)
    obtain ⟨hp6, rfl⟩ := hp6
    cases (hp6 : _ = some (Value.ref (ad (21 + (i)))))
    show V g κ 3 (0) (0) (t, rO g ad N S F σ0) 25 [(0, .ref (ad (0))), (1, .int (nI (i))), (2, .int (nI (p)))] [.ref (ad (21 + (i)))]
    refine V_cast X (C := RX9) rfl cl_X12_74 (R_recv hK (q := 21 + (i)) (rlv (by omega)) (rCell_player (by omega))) dX12_plays_25 ?_
    refine R_getf X fl_X12_77 hK (21 + (i)) (rlv (by omega)) (rCell_player (by omega)) rfl dX12_plays_28 (V.topi (fun x7 ex7 => ?_))
    refine V_aload_n X dX12_plays_31 0 rfl ?_
    refine R_getf X fl_X12_10 hK (0) (rlv (by omega)) rfl rfl dX12_plays_32 ?_
    refine V_iload_n X dX12_plays_35 2 rfl ?_
    refine V_callV (rest := [.int (x7)]) X E.room ml_X12_97 in_Jx4a65c_get_915e3 (ci := 3) rfl se_Jx4a65c_get_915e3 (rO_list hK (i := 0) (by decide)) (by omega) (by decide) (r_get hK 0 (by decide) (j := p) (by omega) (by omega)) rfl rfl (Nat.le_of_ble_eq_true rfl) ⟨by omega, by omega⟩ dX12_plays_36 (fun _ _ h => False.elim h) (fun v8 σ' hp9 => ?_)
    obtain ⟨hp9, rfl⟩ := hp9
    cases (hp9 : _ = some (Value.ref (ad (14 + (p)))))
    show V g κ 3 (0) (0) (t, rO g ad N S F σ0) 39 [(0, .ref (ad (0))), (1, .int (nI (i))), (2, .int (nI (p)))] [.ref (ad (14 + (p))), .int (x7)]
    refine V_cast X (C := RX8) rfl cl_X12_54 (R_recv hK (q := 14 + (p)) (rlv (by omega)) (rCell_part (by omega))) dX12_plays_39 ?_
    refine R_getf X fl_X12_57 hK (14 + (p)) (rlv (by omega)) (rCell_part (by omega)) rfl dX12_plays_42 (V.topi (fun x10 ex10 => ?_))
    refine V_callS (rest := []) X E.room ml_X12_159 st_X12_isIn (by omega) (by decide) (k_X12_isIn (σ := (t, rO g ad N S F σ0)) (x7) (x10)) rfl rfl (Nat.le_of_ble_eq_true rfl) ⟨by omega, by omega⟩ dX12_plays_45 (fun _ _ h => False.elim h) (fun v45 σ' hp45 => ?_)
    obtain ⟨hp45, rfl⟩ := hp45
    rcases hp45 with ⟨rfl, z11⟩ | ⟨rfl, z11⟩
    · -- yes
      show V g κ 3 (0) (0) (t, rO g ad N S F σ0) 48 [(0, .ref (ad (0))), (1, .int (nI (i))), (2, .int (nI (p)))] [.int (nI (1))]
      refine V_ifeqN X (by omega) (tgt := 55) dX12_plays_48 (by decide) (fun h12 => absurd h12 (by omega)) (fun h12 => ?_)
      refine V_iconst (v := nI 1) X dX12_plays_51 (by decide) ?_
      refine V_goto (tgt := 56) X dX12_plays_52 (by decide) ?_
      exact V_zret X E (by first | rfl | decide) (by omega) (by omega) ⟨Or.inl ⟨rfl, ⟨by subst_vars; assumption, by subst_vars; assumption⟩⟩, rfl⟩ dX12_plays_56
    · -- no
      show V g κ 3 (0) (0) (t, rO g ad N S F σ0) 48 [(0, .ref (ad (0))), (1, .int (nI (i))), (2, .int (nI (p)))] [.int (nI (0))]
      refine V_ifeqN X (by omega) (tgt := 55) dX12_plays_48 (by decide) (fun h13 => ?_) (fun h13 => absurd h13 (by omega))
      refine V_iconst (v := nI 0) X dX12_plays_55 (by decide) ?_
      exact V_zret X E (by first | rfl | decide) (by omega) (by omega) ⟨Or.inr ⟨rfl, fun q => by subst_vars; first | exact absurd q.1 (by assumption) | exact absurd q.2 (by assumption)⟩, rfl⟩ dX12_plays_56
set_option maxRecDepth 100000 in
set_option maxHeartbeats 4000000 in
theorem k_X12_players {g : zG} {t : Nat × Nat} {ad N : Nat → Nat} {S : Int64} {σ0 : Nat → Option va_E} {F : Nat → Nat → Int32} (hK : rK g ad N) (hI : rI N F) (p : Nat) (hp : p < N 0) : Ct g 14 yX12_players cX12_players 4 (some FieldType.int) 0 0 [.ref (ad (0)), .int (nI (p))] (t, rO g ad N S F σ0) (qR (fun v => ∃ x : Int32, v = some (.int x) ∧ zMk x (fun q => q < N 1 ∧ zPl F q p)) (t, rO g ad N S F σ0)) zNo := by
  refine Ct.of (lv := [(0, .ref (ad (0))), (1, .int (nI (p)))]) (by decide) (Nat.le_of_ble_eq_true rfl) rfl ?_
  intro κ X E B _
  have X : zX g κ RX12 cX12_players 4 := X
  obtain ⟨b0, b1, b2, b3, b4⟩ := hI.bnd
  refine V_iconst (v := nI 0) X dX12_players_0 (by decide) ?_
  refine V_istore_n X [(2, .int (nI (0))), (0, .ref (ad (0))), (1, .int (nI (p)))] dX12_players_1 (by decide) rfl ?_
  refine V_iconst (v := nI 0) X dX12_players_2 (by decide) ?_
  refine V_istore_n X [(3, .int (nI (0))), (2, .int (nI (0))), (0, .ref (ad (0))), (1, .int (nI (p)))] dX12_players_3 (by decide) rfl ?_
  have L4 : ∀ (n4 : Nat) (i4 : Nat) (x4_2 : Int32), n4 = N 1 - i4 → i4 ≤ N 1 → (zMk x4_2 (fun q => q < i4 ∧ zPl F q p)) → V g κ 4 (0) (0) (t, rO g ad N S F σ0) 4 [(3, .int (nI (i4))), (2, .int (x4_2)), (0, .ref (ad (0))), (1, .int (nI (p)))] [] := by
    intro n4
    induction n4 using Nat.strongRecOn with
    | ind n4 ih4 =>
      intro i4 x4_2 hn4 hi4 hv4_0
      refine V_iload_n X dX12_players_4 0 rfl ?_
      refine V_aload_n X dX12_players_5 2 rfl ?_
      refine R_getf X fl_X12_16 hK (0) (rlv (by omega)) rfl rfl dX12_players_6 ?_
      refine V_callV (rest := [.int (nI (i4))]) X E.room ml_X12_42 in_Jx4a65c_size_8abf5 (ci := 3) rfl se_Jx4a65c_size_8abf5 (rO_list hK (i := 1) (by decide)) (by omega) (by decide) (r_size hK 1 (by decide)) rfl rfl (Nat.le_of_ble_eq_true rfl) ⟨by omega, by omega⟩ dX12_players_9 (fun _ _ h => False.elim h) (fun v1 σ' hp2 => ?_)
      obtain ⟨hp2, rfl⟩ := hp2
      cases (hp2 : _ = some (Value.int (nI (N 1))))
      show V g κ 4 (0) (0) (t, rO g ad N S F σ0) 12 [(3, .int (nI (i4))), (2, .int (x4_2)), (0, .ref (ad (0))), (1, .int (nI (p)))] [.int (nI (N 1)), .int (nI (i4))]
      refine V_icmpgeN X (by omega) (by omega) (tgt := 40) dX12_players_12 (by decide) (fun h3 => ?_) (fun h3 => ?_)
      · -- 12 true
        refine V_iload_n X dX12_players_40 1 rfl ?_
        exact V_iret X E (by omega) (by omega) ⟨⟨_, rfl, by rw [← show i4 = N 1 by omega]; exact hv4_0⟩, rfl⟩ dX12_players_41
      · -- 12 false
        refine V_iload_n X dX12_players_15 1 rfl ?_
        refine V_aload_n X dX12_players_16 2 rfl ?_
        refine V_iload_n X dX12_players_17 0 rfl ?_
        refine V_iload_n X dX12_players_18 3 rfl ?_
        refine V_callV (rest := [.int (x4_2)]) X E.room ml_X12_163 in_X12_plays (ci := 16) rfl se_X12_plays (R_recv hK (q := 0) (rlv (by omega)) rfl) (by omega) (by decide) (k_X12_plays hK hI (i4) (p) (by omega) (by omega)) rfl rfl (Nat.le_of_ble_eq_true rfl) ⟨by omega, by omega⟩ dX12_players_19 (fun _ _ h => False.elim h) (fun v19 σ' hp19 => ?_)
        obtain ⟨hp19, rfl⟩ := hp19
        rcases hp19 with ⟨rfl, z4⟩ | ⟨rfl, z4⟩
        · -- yes
          show V g κ 4 (0) (0) (t, rO g ad N S F σ0) 22 [(3, .int (nI (i4))), (2, .int (x4_2)), (0, .ref (ad (0))), (1, .int (nI (p)))] [.int (nI (1)), .int (x4_2)]
          refine V_ifeqN X (by omega) (tgt := 31) dX12_players_22 (by decide) (fun h5 => absurd h5 (by omega)) (fun h5 => ?_)
          refine V_iconst (v := nI 1) X dX12_players_25 (by decide) ?_
          refine V_iload_n X dX12_players_26 0 rfl ?_
          refine V_ishl1 X (by omega) dX12_players_27 ?_
          refine V_goto (tgt := 32) X dX12_players_28 (by decide) ?_
          refine V_ior X dX12_players_32 (V.topi (fun w6 ew6 => ?_))
          refine V_istore_n X [(2, .int (w6)), (3, .int (nI (i4))), (0, .ref (ad (0))), (1, .int (nI (p)))] dX12_players_33 (by decide) rfl ?_
          refine V_iinc X (nI (i4 + 1)) [(3, .int (nI (i4 + 1))), (2, .int (w6)), (0, .ref (ad (0))), (1, .int (nI (p)))] dX12_players_34 1 rfl (zinc _) (by decide) rfl ?_
          refine V_goto (tgt := 4) X dX12_players_37 (by decide) ?_
          exact V.sub [0, 1, 2, 3] rfl (ih4 _ (by omega) (i4 + 1) (w6) rfl (by omega) (by rw [ew6]; exact abl_yes hv4_0 z4 (by omega)))
        · -- no
          show V g κ 4 (0) (0) (t, rO g ad N S F σ0) 22 [(3, .int (nI (i4))), (2, .int (x4_2)), (0, .ref (ad (0))), (1, .int (nI (p)))] [.int (nI (0)), .int (x4_2)]
          refine V_ifeqN X (by omega) (tgt := 31) dX12_players_22 (by decide) (fun h7 => ?_) (fun h7 => absurd h7 (by omega))
          refine V_iconst (v := nI 0) X dX12_players_31 (by decide) ?_
          refine V_ior X dX12_players_32 (V.topi (fun w8 ew8 => ?_))
          refine V_istore_n X [(2, .int (w8)), (3, .int (nI (i4))), (0, .ref (ad (0))), (1, .int (nI (p)))] dX12_players_33 (by decide) rfl ?_
          refine V_iinc X (nI (i4 + 1)) [(3, .int (nI (i4 + 1))), (2, .int (w8)), (0, .ref (ad (0))), (1, .int (nI (p)))] dX12_players_34 1 rfl (zinc _) (by decide) rfl ?_
          refine V_goto (tgt := 4) X dX12_players_37 (by decide) ?_
          exact V.sub [0, 1, 2, 3] rfl (ih4 _ (by omega) (i4 + 1) (w8) rfl (by omega) (by rw [ew8]; rw [zor0]; exact abl_no hv4_0 z4))
  exact L4 _ (0) (nI (0)) rfl (by omega) (abl_0 (P := fun q => zPl F q p))
set_option maxRecDepth 100000 in
set_option maxHeartbeats 4000000 in
theorem k_X12_clash {g : zG} {t : Nat × Nat} {ad N : Nat → Nat} {S : Int64} {σ0 : Nat → Option va_E} {F : Nat → Nat → Int32} (hK : rK g ad N) (hI : rI N F)  (a1 : Int32) : Ct g 13 yX12_clash cX12_clash 8 none 0 0 [.ref (ad (0)), .int (a1)] (t, rO g ad N S F σ0) (qJ pV g t ad N S F σ0) zNo := by
  refine Ct.of (lv := [(0, .ref (ad (0))), (1, .int (a1))]) (by decide) (Nat.le_of_ble_eq_true rfl) rfl ?_
  intro κ X E B _
  have X : zX g κ RX12 cX12_clash 8 := X
  obtain ⟨b0, b1, b2, b3, b4⟩ := hI.bnd
  refine V_iconst (v := nI 0) X dX12_clash_0 (by decide) ?_
  refine V_istore_n X [(2, .int (nI (0))), (0, .ref (ad (0))), (1, .int (a1))] dX12_clash_1 (by decide) rfl ?_
  have L2 : ∀ (n2 : Nat) (i2 : Nat) (G2 : Nat → Nat → Int32), n2 = 7 - i2 → i2 ≤ 7 → rJ F G2 → V g κ 8 (0) (0) (t, rO g ad N S G2 σ0) 2 [(2, .int (nI (i2))), (0, .ref (ad (0))), (1, .int (a1))] [] := by
    intro n2
    induction n2 using Nat.strongRecOn with
    | ind n2 ih2 =>
      intro i2 G2 hn2 hi2 hJ2
      refine V_iload_n X dX12_clash_2 0 rfl ?_
      refine V_bipush (v := nI 7) X dX12_clash_3 (by decide) ?_
      refine V_icmpgeN X (by omega) (by omega) (tgt := 21) dX12_clash_5 (by decide) (fun h1 => ?_) (fun h1 => ?_)
      · -- 5 true
        refine V_iconst (v := (-1)) X dX12_clash_21 (by decide) ?_
        refine V_istore_n X [(2, .int (-1)), (0, .ref (ad (0))), (1, .int (a1))] dX12_clash_22 (by decide) rfl ?_
        refine V_iconst (v := nI 0) X dX12_clash_23 (by decide) ?_
        refine V_istore_n X [(3, .int (nI (0))), (2, .int (-1)), (0, .ref (ad (0))), (1, .int (a1))] dX12_clash_24 (by decide) rfl ?_
        have L25 : ∀ (n25 : Nat) (i25 : Nat) (x25_2 : Int32) (G25 : Nat → Nat → Int32), n25 = N 2 - i25 → i25 ≤ N 2 → rJ F G25 → ((x25_2 = -1 ∨ ∃ b, b < N 2 ∧ x25_2 = nI b)) → V g κ 8 (0) (0) (t, rO g ad N S G25 σ0) 25 [(3, .int (nI (i25))), (2, .int (x25_2)), (0, .ref (ad (0))), (1, .int (a1))] [] := by
          intro n25
          induction n25 using Nat.strongRecOn with
          | ind n25 ih25 =>
            intro i25 x25_2 G25 hn25 hi25 hJ25 hv25_0
            refine V_iload_n X dX12_clash_25 0 rfl ?_
            refine V_aload_n X dX12_clash_26 2 rfl ?_
            refine R_getf X fl_X12_19 hK (0) (rlv (by omega)) rfl rfl dX12_clash_27 ?_
            refine V_callV (rest := [.int (nI (i25))]) X E.room ml_X12_42 in_Jx4a65c_size_8abf5 (ci := 3) rfl se_Jx4a65c_size_8abf5 (rO_list hK (i := 2) (by decide)) (by omega) (by decide) (r_size hK 2 (by decide)) rfl rfl (Nat.le_of_ble_eq_true rfl) ⟨by omega, by omega⟩ dX12_clash_30 (fun _ _ h => False.elim h) (fun v2 σ' hp3 => ?_)
            obtain ⟨hp3, rfl⟩ := hp3
            cases (hp3 : _ = some (Value.int (nI (N 2))))
            show V g κ 8 (0) (0) (t, rO g ad N S G25 σ0) 33 [(3, .int (nI (i25))), (2, .int (x25_2)), (0, .ref (ad (0))), (1, .int (a1))] [.int (nI (N 2)), .int (nI (i25))]
            refine V_icmpgeN X (by omega) (by omega) (tgt := 308) dX12_clash_33 (by decide) (fun h4 => ?_) (fun h4 => ?_)
            · -- 33 true
              exact V_vret X E (by omega) (by omega) ⟨rfl, ⟨_, rfl, hJ25⟩⟩ dX12_clash_308
            · -- 33 false
              refine V_iload_n X dX12_clash_36 3 rfl ?_
              refine V_iload_n X dX12_clash_37 0 rfl ?_
              refine V_callS (rest := []) X E.room ml_X12_159 st_X12_isIn (by omega) (by decide) (k_X12_isIn (σ := (t, rO g ad N S G25 σ0)) (a1) (nI (i25))) rfl rfl (Nat.le_of_ble_eq_true rfl) ⟨by omega, by omega⟩ dX12_clash_38 (fun _ _ h => False.elim h) (fun v38 σ' hp38 => ?_)
              obtain ⟨hp38, rfl⟩ := hp38
              rcases hp38 with ⟨rfl, z5⟩ | ⟨rfl, z5⟩
              · -- yes
                show V g κ 8 (0) (0) (t, rO g ad N S G25 σ0) 41 [(3, .int (nI (i25))), (2, .int (x25_2)), (0, .ref (ad (0))), (1, .int (a1))] [.int (nI (1))]
                refine V_ifneN X (by omega) (tgt := 47) dX12_clash_41 (by decide) (fun h6 => ?_) (fun h6 => absurd h6 (by omega))
                refine V_aload_n X dX12_clash_47 2 rfl ?_
                refine R_getf X fl_X12_19 hK (0) (rlv (by omega)) rfl rfl dX12_clash_48 ?_
                refine V_iload_n X dX12_clash_51 0 rfl ?_
                refine V_callV (rest := []) X E.room ml_X12_97 in_Jx4a65c_get_915e3 (ci := 3) rfl se_Jx4a65c_get_915e3 (rO_list hK (i := 2) (by decide)) (by omega) (by decide) (r_get hK 2 (by decide) (j := i25) (by omega) (by omega)) rfl rfl (Nat.le_of_ble_eq_true rfl) ⟨by omega, by omega⟩ dX12_clash_52 (fun _ _ h => False.elim h) (fun v7 σ' hp8 => ?_)
                obtain ⟨hp8, rfl⟩ := hp8
                cases (hp8 : _ = some (Value.ref (ad (26 + (i25)))))
                show V g κ 8 (0) (0) (t, rO g ad N S G25 σ0) 55 [(3, .int (nI (i25))), (2, .int (x25_2)), (0, .ref (ad (0))), (1, .int (a1))] [.ref (ad (26 + (i25)))]
                refine V_cast X (C := RX10) rfl cl_X12_85 (R_recv hK (q := 26 + (i25)) (rlv (by omega)) (rCell_scene (by omega))) dX12_clash_55 ?_
                obtain ⟨m9, hm9, em9⟩ := (hI.mv hJ25).sp (i25) (by omega)
                have gm9 : m9 < 128 := Nat.lt_of_lt_of_le hm9 (zp2 (n := 7) (by omega))
                refine R_getfN (z := nI (m9)) X fl_X12_88 hK (26 + (i25)) (rlv (by omega)) (rCell_scene (by omega)) rfl em9 dX12_clash_58 ?_
                refine V_istore X [(4, .int (nI (m9))), (3, .int (nI (i25))), (2, .int (x25_2)), (0, .ref (ad (0))), (1, .int (a1))] dX12_clash_61 (by decide) rfl ?_
                refine V_iconst (v := nI 0) X dX12_clash_63 (by decide) ?_
                refine V_istore X [(5, .int (nI (0))), (4, .int (nI (m9))), (3, .int (nI (i25))), (2, .int (x25_2)), (0, .ref (ad (0))), (1, .int (a1))] dX12_clash_64 (by decide) rfl ?_
                have L66 : ∀ (n66 : Nat) (i66 : Nat) (G66 : Nat → Nat → Int32), n66 = N 0 - i66 → i66 ≤ N 0 → rJ F G66 → V g κ 8 (0) (0) (t, rO g ad N S G66 σ0) 66 [(5, .int (nI (i66))), (4, .int (nI (m9))), (3, .int (nI (i25))), (2, .int (x25_2)), (0, .ref (ad (0))), (1, .int (a1))] [] := by
                  intro n66
                  induction n66 using Nat.strongRecOn with
                  | ind n66 ih66 =>
                    intro i66 G66 hn66 hi66 hJ66
                    refine V_iload X dX12_clash_66 0 rfl ?_
                    refine V_aload_n X dX12_clash_68 4 rfl ?_
                    refine R_getf X fl_X12_10 hK (0) (rlv (by omega)) rfl rfl dX12_clash_69 ?_
                    refine V_callV (rest := [.int (nI (i66))]) X E.room ml_X12_42 in_Jx4a65c_size_8abf5 (ci := 3) rfl se_Jx4a65c_size_8abf5 (rO_list hK (i := 0) (by decide)) (by omega) (by decide) (r_size hK 0 (by decide)) rfl rfl (Nat.le_of_ble_eq_true rfl) ⟨by omega, by omega⟩ dX12_clash_72 (fun _ _ h => False.elim h) (fun v10 σ' hp11 => ?_)
                    obtain ⟨hp11, rfl⟩ := hp11
                    cases (hp11 : _ = some (Value.int (nI (N 0))))
                    show V g κ 8 (0) (0) (t, rO g ad N S G66 σ0) 75 [(5, .int (nI (i66))), (4, .int (nI (m9))), (3, .int (nI (i25))), (2, .int (x25_2)), (0, .ref (ad (0))), (1, .int (a1))] [.int (nI (N 0)), .int (nI (i66))]
                    refine V_icmpgeN X (by omega) (by omega) (tgt := 113) dX12_clash_75 (by decide) (fun h12 => ?_) (fun h12 => ?_)
                    · -- 75 true
                      refine V_iconst (v := nI 0) X dX12_clash_113 (by decide) ?_
                      refine V_istore X [(5, .int (nI (0))), (4, .int (nI (m9))), (3, .int (nI (i25))), (2, .int (x25_2)), (0, .ref (ad (0))), (1, .int (a1))] dX12_clash_114 (by decide) rfl ?_
                      have L116 : ∀ (n116 : Nat) (i116 : Nat) (G116 : Nat → Nat → Int32), n116 = N 0 - i116 → i116 ≤ N 0 → rJ F G116 → V g κ 8 (0) (0) (t, rO g ad N S G116 σ0) 116 [(5, .int (nI (i116))), (4, .int (nI (m9))), (3, .int (nI (i25))), (2, .int (x25_2)), (0, .ref (ad (0))), (1, .int (a1))] [] := by
                        intro n116
                        induction n116 using Nat.strongRecOn with
                        | ind n116 ih116 =>
                          intro i116 G116 hn116 hi116 hJ116
                          refine V_iload X dX12_clash_116 0 rfl ?_
                          refine V_aload_n X dX12_clash_118 4 rfl ?_
                          refine R_getf X fl_X12_10 hK (0) (rlv (by omega)) rfl rfl dX12_clash_119 ?_
                          refine V_callV (rest := [.int (nI (i116))]) X E.room ml_X12_42 in_Jx4a65c_size_8abf5 (ci := 3) rfl se_Jx4a65c_size_8abf5 (rO_list hK (i := 0) (by decide)) (by omega) (by decide) (r_size hK 0 (by decide)) rfl rfl (Nat.le_of_ble_eq_true rfl) ⟨by omega, by omega⟩ dX12_clash_122 (fun _ _ h => False.elim h) (fun v13 σ' hp14 => ?_)
                          obtain ⟨hp14, rfl⟩ := hp14
                          cases (hp14 : _ = some (Value.int (nI (N 0))))
                          show V g κ 8 (0) (0) (t, rO g ad N S G116 σ0) 125 [(5, .int (nI (i116))), (4, .int (nI (m9))), (3, .int (nI (i25))), (2, .int (x25_2)), (0, .ref (ad (0))), (1, .int (a1))] [.int (nI (N 0)), .int (nI (i116))]
                          refine V_icmpgeN X (by omega) (by omega) (tgt := 300) dX12_clash_125 (by decide) (fun h15 => ?_) (fun h15 => ?_)
                          · -- 125 true
                            refine V_iload_n X dX12_clash_300 2 rfl ?_
                            refine V_istore_n X [(2, .int (nI (i25))), (5, .int (nI (i116))), (4, .int (nI (m9))), (3, .int (nI (i25))), (0, .ref (ad (0))), (1, .int (a1))] dX12_clash_301 (by decide) rfl ?_
                            refine V_iinc X (nI (i25 + 1)) [(3, .int (nI (i25 + 1))), (2, .int (nI (i25))), (5, .int (nI (i116))), (4, .int (nI (m9))), (0, .ref (ad (0))), (1, .int (a1))] dX12_clash_302 3 rfl (zinc _) (by decide) rfl ?_
                            refine V_goto (tgt := 25) X dX12_clash_305 (by decide) ?_
                            exact V.sub [0, 1, 4, 5] rfl (ih25 _ (by omega) (i25 + 1) (nI (i25)) G116 rfl (by omega) hJ116 (by first | exact hv25_0 | exact Or.inr ⟨_, by omega, rfl⟩))
                          · -- 125 false
                            refine V_iload_n X dX12_clash_128 3 rfl ?_
                            refine V_iconst (v := (-1)) X dX12_clash_129 (by decide) ?_
                            refine V_icmpeq X (tgt := 300) dX12_clash_130 (by decide) (fun h16 => ?_) (fun h16 => ?_)
                            · -- 130 true
                              refine V_iload_n X dX12_clash_300 2 rfl ?_
                              refine V_istore_n X [(2, .int (nI (i25))), (5, .int (nI (i116))), (4, .int (nI (m9))), (3, .int (nI (i25))), (0, .ref (ad (0))), (1, .int (a1))] dX12_clash_301 (by decide) rfl ?_
                              refine V_iinc X (nI (i25 + 1)) [(3, .int (nI (i25 + 1))), (2, .int (nI (i25))), (5, .int (nI (i116))), (4, .int (nI (m9))), (0, .ref (ad (0))), (1, .int (a1))] dX12_clash_302 3 rfl (zinc _) (by decide) rfl ?_
                              refine V_goto (tgt := 25) X dX12_clash_305 (by decide) ?_
                              exact V.sub [0, 1, 4, 5] rfl (ih25 _ (by omega) (i25 + 1) (nI (i25)) G116 rfl (by omega) hJ116 (by first | exact hv25_0 | exact Or.inr ⟨_, by omega, rfl⟩))
                            · -- 130 false
                              obtain ⟨b9, hb9, rfl⟩ := hv25_0.resolve_left h16
                              refine V_iconst (v := nI 0) X dX12_clash_133 (by decide) ?_
                              refine V_istore X [(6, .int (nI (0))), (5, .int (nI (i116))), (4, .int (nI (m9))), (3, .int (nI (i25))), (2, .int (nI (b9))), (0, .ref (ad (0))), (1, .int (a1))] dX12_clash_134 (by decide) rfl ?_
                              have L136 : ∀ (n136 : Nat) (i136 : Nat) (G136 : Nat → Nat → Int32), n136 = N 0 - i136 → i136 ≤ N 0 → rJ F G136 → V g κ 8 (0) (0) (t, rO g ad N S G136 σ0) 136 [(6, .int (nI (i136))), (5, .int (nI (i116))), (4, .int (nI (m9))), (3, .int (nI (i25))), (2, .int (nI (b9))), (0, .ref (ad (0))), (1, .int (a1))] [] := by
                                intro n136
                                induction n136 using Nat.strongRecOn with
                                | ind n136 ih136 =>
                                  intro i136 G136 hn136 hi136 hJ136
                                  refine V_iload X dX12_clash_136 0 rfl ?_
                                  refine V_aload_n X dX12_clash_138 5 rfl ?_
                                  refine R_getf X fl_X12_10 hK (0) (rlv (by omega)) rfl rfl dX12_clash_139 ?_
                                  refine V_callV (rest := [.int (nI (i136))]) X E.room ml_X12_42 in_Jx4a65c_size_8abf5 (ci := 3) rfl se_Jx4a65c_size_8abf5 (rO_list hK (i := 0) (by decide)) (by omega) (by decide) (r_size hK 0 (by decide)) rfl rfl (Nat.le_of_ble_eq_true rfl) ⟨by omega, by omega⟩ dX12_clash_142 (fun _ _ h => False.elim h) (fun v17 σ' hp18 => ?_)
                                  obtain ⟨hp18, rfl⟩ := hp18
                                  cases (hp18 : _ = some (Value.int (nI (N 0))))
                                  show V g κ 8 (0) (0) (t, rO g ad N S G136 σ0) 145 [(6, .int (nI (i136))), (5, .int (nI (i116))), (4, .int (nI (m9))), (3, .int (nI (i25))), (2, .int (nI (b9))), (0, .ref (ad (0))), (1, .int (a1))] [.int (nI (N 0)), .int (nI (i136))]
                                  refine V_icmpgeN X (by omega) (by omega) (tgt := 294) dX12_clash_145 (by decide) (fun h19 => ?_) (fun h19 => ?_)
                                  · -- 145 true
                                    refine V_iinc X (nI (i116 + 1)) [(5, .int (nI (i116 + 1))), (6, .int (nI (i136))), (4, .int (nI (m9))), (3, .int (nI (i25))), (2, .int (nI (b9))), (0, .ref (ad (0))), (1, .int (a1))] dX12_clash_294 1 rfl (zinc _) (by decide) rfl ?_
                                    refine V_goto (tgt := 116) X dX12_clash_297 (by decide) ?_
                                    exact V.sub [0, 2, 3, 4, 5, 6] rfl (ih116 _ (by omega) (i116 + 1) G136 rfl (by omega) hJ136)
                                  · -- 145 false
                                    refine V_iload X dX12_clash_148 1 rfl ?_
                                    refine V_iload X dX12_clash_150 0 rfl ?_
                                    refine V_icmpeqN X (by omega) (by omega) (tgt := 239) dX12_clash_152 (by decide) (fun h20 => ?_) (fun h20 => ?_)
                                    · -- 152 true
                                      refine V_iconst (v := nI 0) X dX12_clash_239 (by decide) ?_
                                      refine V_istore X [(7, .int (nI (0))), (6, .int (nI (i136))), (5, .int (nI (i116))), (4, .int (nI (m9))), (3, .int (nI (i25))), (2, .int (nI (b9))), (0, .ref (ad (0))), (1, .int (a1))] dX12_clash_240 (by decide) rfl ?_
                                      refine V_aload_n X dX12_clash_242 6 rfl ?_
                                      refine R_getf X fl_X12_35 hK (0) (rlv (by omega)) rfl rfl dX12_clash_243 ?_
                                      refine V_iload X dX12_clash_246 2 rfl ?_
                                      refine V_dup2 X dX12_clash_248 rfl rfl ?_
                                      refine R_iald X hK (13) (by omega) (i116) rfl (by omega) dX12_clash_249 ?_
                                      refine V.topi (fun x21 ex21 => ?_)
                                      refine V_iload X dX12_clash_250 0 rfl ?_
                                      refine V_ifeqN X (by omega) (tgt := 262) dX12_clash_252 (by decide) (fun h22 => ?_) (fun h22 => absurd h22 (by omega))
                                      refine V_iconst (v := nI 0) X dX12_clash_262 (by decide) ?_
                                      refine V_ior X dX12_clash_263 (V.topi (fun w23 ew23 => ?_))
                                      refine R_iast X hK (13) (by omega) (i116) rfl (by omega) dX12_clash_264 (fun F24 hF24 => ?_)
                                      have hJF24 := (hJ136 : rJ F G136).set hF24 (rsc_t (by omega))
                                      refine V_aload_n X dX12_clash_265 6 rfl ?_
                                      refine R_getf X fl_X12_35 hK (0) (rlv (by omega)) rfl rfl dX12_clash_266 ?_
                                      refine V_iload X dX12_clash_269 1 rfl ?_
                                      refine V_dup2 X dX12_clash_271 rfl rfl ?_
                                      refine R_iald X hK (13) (by omega) (i136) rfl (by omega) dX12_clash_272 ?_
                                      refine V.topi (fun x25 ex25 => ?_)
                                      refine V_iload X dX12_clash_273 0 rfl ?_
                                      refine V_ifeqN X (by omega) (tgt := 285) dX12_clash_275 (by decide) (fun h26 => ?_) (fun h26 => absurd h26 (by omega))
                                      refine V_iconst (v := nI 0) X dX12_clash_285 (by decide) ?_
                                      refine V_ior X dX12_clash_286 (V.topi (fun w27 ew27 => ?_))
                                      refine R_iast X hK (13) (by omega) (i136) rfl (by omega) dX12_clash_287 (fun F28 hF28 => ?_)
                                      have hJF28 := (hJF24 : rJ F F24).set hF28 (rsc_t (by omega))
                                      refine V_iinc X (nI (i136 + 1)) [(6, .int (nI (i136 + 1))), (7, .int (nI (0))), (5, .int (nI (i116))), (4, .int (nI (m9))), (3, .int (nI (i25))), (2, .int (nI (b9))), (0, .ref (ad (0))), (1, .int (a1))] dX12_clash_288 1 rfl (zinc _) (by decide) rfl ?_
                                      refine V_goto (tgt := 136) X dX12_clash_291 (by decide) ?_
                                      exact V.sub [0, 2, 3, 4, 5, 6, 7] rfl (ih136 _ (by omega) (i136 + 1) F28 rfl (by omega) hJF28)
                                    · -- 152 false
                                      refine V_aload_n X dX12_clash_155 5 rfl ?_
                                      refine R_getf X fl_X12_19 hK (0) (rlv (by omega)) rfl rfl dX12_clash_156 ?_
                                      refine V_iload_n X dX12_clash_159 4 rfl ?_
                                      refine V_callV (rest := []) X E.room ml_X12_97 in_Jx4a65c_get_915e3 (ci := 3) rfl se_Jx4a65c_get_915e3 (rO_list hK (i := 2) (by decide)) (by omega) (by decide) (r_get hK 2 (by decide) (j := b9) (by omega) (by omega)) rfl rfl (Nat.le_of_ble_eq_true rfl) ⟨by omega, by omega⟩ dX12_clash_160 (fun _ _ h => False.elim h) (fun v29 σ' hp30 => ?_)
                                      obtain ⟨hp30, rfl⟩ := hp30
                                      cases (hp30 : _ = some (Value.ref (ad (26 + (b9)))))
                                      show V g κ 8 (0) (0) (t, rO g ad N S G136 σ0) 163 [(6, .int (nI (i136))), (5, .int (nI (i116))), (4, .int (nI (m9))), (3, .int (nI (i25))), (2, .int (nI (b9))), (0, .ref (ad (0))), (1, .int (a1))] [.ref (ad (26 + (b9)))]
                                      refine V_cast X (C := RX10) rfl cl_X12_85 (R_recv hK (q := 26 + (b9)) (rlv (by omega)) (rCell_scene (by omega))) dX12_clash_163 ?_
                                      obtain ⟨m31, hm31, em31⟩ := (hI.mv hJ136).sp (b9) (by omega)
                                      have gm31 : m31 < 128 := Nat.lt_of_lt_of_le hm31 (zp2 (n := 7) (by omega))
                                      refine R_getfN (z := nI (m31)) X fl_X12_88 hK (26 + (b9)) (rlv (by omega)) (rCell_scene (by omega)) rfl em31 dX12_clash_166 ?_
                                      refine V_iload X dX12_clash_169 1 rfl ?_
                                      refine V_callS (rest := []) X E.room ml_X12_159 st_X12_isIn (by omega) (by decide) (k_X12_isIn (σ := (t, rO g ad N S G136 σ0)) (nI (m31)) (nI (i116))) rfl rfl (Nat.le_of_ble_eq_true rfl) ⟨by omega, by omega⟩ dX12_clash_171 (fun _ _ h => False.elim h) (fun v171 σ' hp171 => ?_)
                                      obtain ⟨hp171, rfl⟩ := hp171
                                      rcases hp171 with ⟨rfl, z32⟩ | ⟨rfl, z32⟩
                                      · -- yes
                                        show V g κ 8 (0) (0) (t, rO g ad N S G136 σ0) 174 [(6, .int (nI (i136))), (5, .int (nI (i116))), (4, .int (nI (m9))), (3, .int (nI (i25))), (2, .int (nI (b9))), (0, .ref (ad (0))), (1, .int (a1))] [.int (nI (1))]
                                        refine V_ifeqN X (by omega) (tgt := 239) dX12_clash_174 (by decide) (fun h33 => absurd h33 (by omega)) (fun h33 => ?_)
                                        refine V_iload X dX12_clash_177 2 rfl ?_
                                        refine V_iload X dX12_clash_179 0 rfl ?_
                                        refine V_callS (rest := []) X E.room ml_X12_159 st_X12_isIn (by omega) (by decide) (k_X12_isIn (σ := (t, rO g ad N S G136 σ0)) (nI (m9)) (nI (i136))) rfl rfl (Nat.le_of_ble_eq_true rfl) ⟨by omega, by omega⟩ dX12_clash_181 (fun _ _ h => False.elim h) (fun v181 σ' hp181 => ?_)
                                        obtain ⟨hp181, rfl⟩ := hp181
                                        rcases hp181 with ⟨rfl, z34⟩ | ⟨rfl, z34⟩
                                        · -- yes
                                          show V g κ 8 (0) (0) (t, rO g ad N S G136 σ0) 184 [(6, .int (nI (i136))), (5, .int (nI (i116))), (4, .int (nI (m9))), (3, .int (nI (i25))), (2, .int (nI (b9))), (0, .ref (ad (0))), (1, .int (a1))] [.int (nI (1))]
                                          refine V_ifeqN X (by omega) (tgt := 239) dX12_clash_184 (by decide) (fun h35 => absurd h35 (by omega)) (fun h35 => ?_)
                                          refine V_aload_n X dX12_clash_187 5 rfl ?_
                                          refine R_getf X fl_X12_10 hK (0) (rlv (by omega)) rfl rfl dX12_clash_188 ?_
                                          refine V_iload X dX12_clash_191 1 rfl ?_
                                          refine V_callV (rest := []) X E.room ml_X12_97 in_Jx4a65c_get_915e3 (ci := 3) rfl se_Jx4a65c_get_915e3 (rO_list hK (i := 0) (by decide)) (by omega) (by decide) (r_get hK 0 (by decide) (j := i116) (by omega) (by omega)) rfl rfl (Nat.le_of_ble_eq_true rfl) ⟨by omega, by omega⟩ dX12_clash_193 (fun _ _ h => False.elim h) (fun v36 σ' hp37 => ?_)
                                          obtain ⟨hp37, rfl⟩ := hp37
                                          cases (hp37 : _ = some (Value.ref (ad (14 + (i116)))))
                                          show V g κ 8 (0) (0) (t, rO g ad N S G136 σ0) 196 [(6, .int (nI (i136))), (5, .int (nI (i116))), (4, .int (nI (m9))), (3, .int (nI (i25))), (2, .int (nI (b9))), (0, .ref (ad (0))), (1, .int (a1))] [.ref (ad (14 + (i116)))]
                                          refine V_cast X (C := RX8) rfl cl_X12_54 (R_recv hK (q := 14 + (i116)) (rlv (by omega)) (rCell_part (by omega))) dX12_clash_196 ?_
                                          refine R_getf X fl_X12_63 hK (14 + (i116)) (rlv (by omega)) (rCell_part (by omega)) rfl dX12_clash_199 (V.topi (fun x38 ex38 => ?_))
                                          refine V_aload_n X dX12_clash_202 5 rfl ?_
                                          refine R_getf X fl_X12_10 hK (0) (rlv (by omega)) rfl rfl dX12_clash_203 ?_
                                          refine V_iload X dX12_clash_206 0 rfl ?_
                                          refine V_callV (rest := [.int (x38)]) X E.room ml_X12_97 in_Jx4a65c_get_915e3 (ci := 3) rfl se_Jx4a65c_get_915e3 (rO_list hK (i := 0) (by decide)) (by omega) (by decide) (r_get hK 0 (by decide) (j := i136) (by omega) (by omega)) rfl rfl (Nat.le_of_ble_eq_true rfl) ⟨by omega, by omega⟩ dX12_clash_208 (fun _ _ h => False.elim h) (fun v39 σ' hp40 => ?_)
                                          obtain ⟨hp40, rfl⟩ := hp40
                                          cases (hp40 : _ = some (Value.ref (ad (14 + (i136)))))
                                          show V g κ 8 (0) (0) (t, rO g ad N S G136 σ0) 211 [(6, .int (nI (i136))), (5, .int (nI (i116))), (4, .int (nI (m9))), (3, .int (nI (i25))), (2, .int (nI (b9))), (0, .ref (ad (0))), (1, .int (a1))] [.ref (ad (14 + (i136))), .int (x38)]
                                          refine V_cast X (C := RX8) rfl cl_X12_54 (R_recv hK (q := 14 + (i136)) (rlv (by omega)) (rCell_part (by omega))) dX12_clash_211 ?_
                                          refine R_getf X fl_X12_63 hK (14 + (i136)) (rlv (by omega)) (rCell_part (by omega)) rfl dX12_clash_214 (V.topi (fun x41 ex41 => ?_))
                                          refine V_iadd X dX12_clash_217 (V.topi (fun w42 ew42 => ?_))
                                          refine V_aload_n X dX12_clash_218 5 rfl ?_
                                          refine R_getf X fl_X12_19 hK (0) (rlv (by omega)) rfl rfl dX12_clash_219 ?_
                                          refine V_iload_n X dX12_clash_222 4 rfl ?_
                                          refine V_callV (rest := [.int (w42)]) X E.room ml_X12_97 in_Jx4a65c_get_915e3 (ci := 3) rfl se_Jx4a65c_get_915e3 (rO_list hK (i := 2) (by decide)) (by omega) (by decide) (r_get hK 2 (by decide) (j := b9) (by omega) (by omega)) rfl rfl (Nat.le_of_ble_eq_true rfl) ⟨by omega, by omega⟩ dX12_clash_223 (fun _ _ h => False.elim h) (fun v43 σ' hp44 => ?_)
                                          obtain ⟨hp44, rfl⟩ := hp44
                                          cases (hp44 : _ = some (Value.ref (ad (26 + (b9)))))
                                          show V g κ 8 (0) (0) (t, rO g ad N S G136 σ0) 226 [(6, .int (nI (i136))), (5, .int (nI (i116))), (4, .int (nI (m9))), (3, .int (nI (i25))), (2, .int (nI (b9))), (0, .ref (ad (0))), (1, .int (a1))] [.ref (ad (26 + (b9))), .int (w42)]
                                          refine V_cast X (C := RX10) rfl cl_X12_85 (R_recv hK (q := 26 + (b9)) (rlv (by omega)) (rCell_scene (by omega))) dX12_clash_226 ?_
                                          refine R_getf X fl_X12_90 hK (26 + (b9)) (rlv (by omega)) (rCell_scene (by omega)) rfl dX12_clash_229 (V.topi (fun x45 ex45 => ?_))
                                          refine V_icmple X (tgt := 239) dX12_clash_232 (by decide) (fun h46 => ?_) (fun h46 => ?_)
                                          · -- 232 true
                                            refine V_iconst (v := nI 0) X dX12_clash_239 (by decide) ?_
                                            refine V_istore X [(7, .int (nI (0))), (6, .int (nI (i136))), (5, .int (nI (i116))), (4, .int (nI (m9))), (3, .int (nI (i25))), (2, .int (nI (b9))), (0, .ref (ad (0))), (1, .int (a1))] dX12_clash_240 (by decide) rfl ?_
                                            refine V_aload_n X dX12_clash_242 6 rfl ?_
                                            refine R_getf X fl_X12_35 hK (0) (rlv (by omega)) rfl rfl dX12_clash_243 ?_
                                            refine V_iload X dX12_clash_246 2 rfl ?_
                                            refine V_dup2 X dX12_clash_248 rfl rfl ?_
                                            refine R_iald X hK (13) (by omega) (i116) rfl (by omega) dX12_clash_249 ?_
                                            refine V.topi (fun x47 ex47 => ?_)
                                            refine V_iload X dX12_clash_250 0 rfl ?_
                                            refine V_ifeqN X (by omega) (tgt := 262) dX12_clash_252 (by decide) (fun h48 => ?_) (fun h48 => absurd h48 (by omega))
                                            refine V_iconst (v := nI 0) X dX12_clash_262 (by decide) ?_
                                            refine V_ior X dX12_clash_263 (V.topi (fun w49 ew49 => ?_))
                                            refine R_iast X hK (13) (by omega) (i116) rfl (by omega) dX12_clash_264 (fun F50 hF50 => ?_)
                                            have hJF50 := (hJ136 : rJ F G136).set hF50 (rsc_t (by omega))
                                            refine V_aload_n X dX12_clash_265 6 rfl ?_
                                            refine R_getf X fl_X12_35 hK (0) (rlv (by omega)) rfl rfl dX12_clash_266 ?_
                                            refine V_iload X dX12_clash_269 1 rfl ?_
                                            refine V_dup2 X dX12_clash_271 rfl rfl ?_
                                            refine R_iald X hK (13) (by omega) (i136) rfl (by omega) dX12_clash_272 ?_
                                            refine V.topi (fun x51 ex51 => ?_)
                                            refine V_iload X dX12_clash_273 0 rfl ?_
                                            refine V_ifeqN X (by omega) (tgt := 285) dX12_clash_275 (by decide) (fun h52 => ?_) (fun h52 => absurd h52 (by omega))
                                            refine V_iconst (v := nI 0) X dX12_clash_285 (by decide) ?_
                                            refine V_ior X dX12_clash_286 (V.topi (fun w53 ew53 => ?_))
                                            refine R_iast X hK (13) (by omega) (i136) rfl (by omega) dX12_clash_287 (fun F54 hF54 => ?_)
                                            have hJF54 := (hJF50 : rJ F F50).set hF54 (rsc_t (by omega))
                                            refine V_iinc X (nI (i136 + 1)) [(6, .int (nI (i136 + 1))), (7, .int (nI (0))), (5, .int (nI (i116))), (4, .int (nI (m9))), (3, .int (nI (i25))), (2, .int (nI (b9))), (0, .ref (ad (0))), (1, .int (a1))] dX12_clash_288 1 rfl (zinc _) (by decide) rfl ?_
                                            refine V_goto (tgt := 136) X dX12_clash_291 (by decide) ?_
                                            exact V.sub [0, 2, 3, 4, 5, 6, 7] rfl (ih136 _ (by omega) (i136 + 1) F54 rfl (by omega) hJF54)
                                          · -- 232 false
                                            refine V_iconst (v := nI 1) X dX12_clash_235 (by decide) ?_
                                            refine V_goto (tgt := 240) X dX12_clash_236 (by decide) ?_
                                            refine V_istore X [(7, .int (nI (1))), (6, .int (nI (i136))), (5, .int (nI (i116))), (4, .int (nI (m9))), (3, .int (nI (i25))), (2, .int (nI (b9))), (0, .ref (ad (0))), (1, .int (a1))] dX12_clash_240 (by decide) rfl ?_
                                            refine V_aload_n X dX12_clash_242 6 rfl ?_
                                            refine R_getf X fl_X12_35 hK (0) (rlv (by omega)) rfl rfl dX12_clash_243 ?_
                                            refine V_iload X dX12_clash_246 2 rfl ?_
                                            refine V_dup2 X dX12_clash_248 rfl rfl ?_
                                            refine R_iald X hK (13) (by omega) (i116) rfl (by omega) dX12_clash_249 ?_
                                            refine V.topi (fun x55 ex55 => ?_)
                                            refine V_iload X dX12_clash_250 0 rfl ?_
                                            refine V_ifeqN X (by omega) (tgt := 262) dX12_clash_252 (by decide) (fun h56 => absurd h56 (by omega)) (fun h56 => ?_)
                                            refine V_iconst (v := nI 1) X dX12_clash_255 (by decide) ?_
                                            refine V_iload X dX12_clash_256 1 rfl ?_
                                            refine V_ishl1 X (by omega) dX12_clash_258 ?_
                                            refine V_goto (tgt := 263) X dX12_clash_259 (by decide) ?_
                                            refine V_ior X dX12_clash_263 (V.topi (fun w57 ew57 => ?_))
                                            refine R_iast X hK (13) (by omega) (i116) rfl (by omega) dX12_clash_264 (fun F58 hF58 => ?_)
                                            have hJF58 := (hJ136 : rJ F G136).set hF58 (rsc_t (by omega))
                                            refine V_aload_n X dX12_clash_265 6 rfl ?_
                                            refine R_getf X fl_X12_35 hK (0) (rlv (by omega)) rfl rfl dX12_clash_266 ?_
                                            refine V_iload X dX12_clash_269 1 rfl ?_
                                            refine V_dup2 X dX12_clash_271 rfl rfl ?_
                                            refine R_iald X hK (13) (by omega) (i136) rfl (by omega) dX12_clash_272 ?_
                                            refine V.topi (fun x59 ex59 => ?_)
                                            refine V_iload X dX12_clash_273 0 rfl ?_
                                            refine V_ifeqN X (by omega) (tgt := 285) dX12_clash_275 (by decide) (fun h60 => absurd h60 (by omega)) (fun h60 => ?_)
                                            refine V_iconst (v := nI 1) X dX12_clash_278 (by decide) ?_
                                            refine V_iload X dX12_clash_279 2 rfl ?_
                                            refine V_ishl1 X (by omega) dX12_clash_281 ?_
                                            refine V_goto (tgt := 286) X dX12_clash_282 (by decide) ?_
                                            refine V_ior X dX12_clash_286 (V.topi (fun w61 ew61 => ?_))
                                            refine R_iast X hK (13) (by omega) (i136) rfl (by omega) dX12_clash_287 (fun F62 hF62 => ?_)
                                            have hJF62 := (hJF58 : rJ F F58).set hF62 (rsc_t (by omega))
                                            refine V_iinc X (nI (i136 + 1)) [(6, .int (nI (i136 + 1))), (7, .int (nI (1))), (5, .int (nI (i116))), (4, .int (nI (m9))), (3, .int (nI (i25))), (2, .int (nI (b9))), (0, .ref (ad (0))), (1, .int (a1))] dX12_clash_288 1 rfl (zinc _) (by decide) rfl ?_
                                            refine V_goto (tgt := 136) X dX12_clash_291 (by decide) ?_
                                            exact V.sub [0, 2, 3, 4, 5, 6, 7] rfl (ih136 _ (by omega) (i136 + 1) F62 rfl (by omega) hJF62)
                                        · -- no
                                          show V g κ 8 (0) (0) (t, rO g ad N S G136 σ0) 184 [(6, .int (nI (i136))), (5, .int (nI (i116))), (4, .int (nI (m9))), (3, .int (nI (i25))), (2, .int (nI (b9))), (0, .ref (ad (0))), (1, .int (a1))] [.int (nI (0))]
                                          refine V_ifeqN X (by omega) (tgt := 239) dX12_clash_184 (by decide) (fun h63 => ?_) (fun h63 => absurd h63 (by omega))
                                          refine V_iconst (v := nI 0) X dX12_clash_239 (by decide) ?_
                                          refine V_istore X [(7, .int (nI (0))), (6, .int (nI (i136))), (5, .int (nI (i116))), (4, .int (nI (m9))), (3, .int (nI (i25))), (2, .int (nI (b9))), (0, .ref (ad (0))), (1, .int (a1))] dX12_clash_240 (by decide) rfl ?_
                                          refine V_aload_n X dX12_clash_242 6 rfl ?_
                                          refine R_getf X fl_X12_35 hK (0) (rlv (by omega)) rfl rfl dX12_clash_243 ?_
                                          refine V_iload X dX12_clash_246 2 rfl ?_
                                          refine V_dup2 X dX12_clash_248 rfl rfl ?_
                                          refine R_iald X hK (13) (by omega) (i116) rfl (by omega) dX12_clash_249 ?_
                                          refine V.topi (fun x64 ex64 => ?_)
                                          refine V_iload X dX12_clash_250 0 rfl ?_
                                          refine V_ifeqN X (by omega) (tgt := 262) dX12_clash_252 (by decide) (fun h65 => ?_) (fun h65 => absurd h65 (by omega))
                                          refine V_iconst (v := nI 0) X dX12_clash_262 (by decide) ?_
                                          refine V_ior X dX12_clash_263 (V.topi (fun w66 ew66 => ?_))
                                          refine R_iast X hK (13) (by omega) (i116) rfl (by omega) dX12_clash_264 (fun F67 hF67 => ?_)
                                          have hJF67 := (hJ136 : rJ F G136).set hF67 (rsc_t (by omega))
                                          refine V_aload_n X dX12_clash_265 6 rfl ?_
                                          refine R_getf X fl_X12_35 hK (0) (rlv (by omega)) rfl rfl dX12_clash_266 ?_
                                          refine V_iload X dX12_clash_269 1 rfl ?_
                                          refine V_dup2 X dX12_clash_271 rfl rfl ?_
                                          refine R_iald X hK (13) (by omega) (i136) rfl (by omega) dX12_clash_272 ?_
                                          refine V.topi (fun x68 ex68 => ?_)
                                          refine V_iload X dX12_clash_273 0 rfl ?_
                                          refine V_ifeqN X (by omega) (tgt := 285) dX12_clash_275 (by decide) (fun h69 => ?_) (fun h69 => absurd h69 (by omega))
                                          refine V_iconst (v := nI 0) X dX12_clash_285 (by decide) ?_
                                          refine V_ior X dX12_clash_286 (V.topi (fun w70 ew70 => ?_))
                                          refine R_iast X hK (13) (by omega) (i136) rfl (by omega) dX12_clash_287 (fun F71 hF71 => ?_)
                                          have hJF71 := (hJF67 : rJ F F67).set hF71 (rsc_t (by omega))
                                          refine V_iinc X (nI (i136 + 1)) [(6, .int (nI (i136 + 1))), (7, .int (nI (0))), (5, .int (nI (i116))), (4, .int (nI (m9))), (3, .int (nI (i25))), (2, .int (nI (b9))), (0, .ref (ad (0))), (1, .int (a1))] dX12_clash_288 1 rfl (zinc _) (by decide) rfl ?_
                                          refine V_goto (tgt := 136) X dX12_clash_291 (by decide) ?_
                                          exact V.sub [0, 2, 3, 4, 5, 6, 7] rfl (ih136 _ (by omega) (i136 + 1) F71 rfl (by omega) hJF71)
                                      · -- no
                                        show V g κ 8 (0) (0) (t, rO g ad N S G136 σ0) 174 [(6, .int (nI (i136))), (5, .int (nI (i116))), (4, .int (nI (m9))), (3, .int (nI (i25))), (2, .int (nI (b9))), (0, .ref (ad (0))), (1, .int (a1))] [.int (nI (0))]
                                        refine V_ifeqN X (by omega) (tgt := 239) dX12_clash_174 (by decide) (fun h72 => ?_) (fun h72 => absurd h72 (by omega))
                                        refine V_iconst (v := nI 0) X dX12_clash_239 (by decide) ?_
                                        refine V_istore X [(7, .int (nI (0))), (6, .int (nI (i136))), (5, .int (nI (i116))), (4, .int (nI (m9))), (3, .int (nI (i25))), (2, .int (nI (b9))), (0, .ref (ad (0))), (1, .int (a1))] dX12_clash_240 (by decide) rfl ?_
                                        refine V_aload_n X dX12_clash_242 6 rfl ?_
                                        refine R_getf X fl_X12_35 hK (0) (rlv (by omega)) rfl rfl dX12_clash_243 ?_
                                        refine V_iload X dX12_clash_246 2 rfl ?_
                                        refine V_dup2 X dX12_clash_248 rfl rfl ?_
                                        refine R_iald X hK (13) (by omega) (i116) rfl (by omega) dX12_clash_249 ?_
                                        refine V.topi (fun x73 ex73 => ?_)
                                        refine V_iload X dX12_clash_250 0 rfl ?_
                                        refine V_ifeqN X (by omega) (tgt := 262) dX12_clash_252 (by decide) (fun h74 => ?_) (fun h74 => absurd h74 (by omega))
                                        refine V_iconst (v := nI 0) X dX12_clash_262 (by decide) ?_
                                        refine V_ior X dX12_clash_263 (V.topi (fun w75 ew75 => ?_))
                                        refine R_iast X hK (13) (by omega) (i116) rfl (by omega) dX12_clash_264 (fun F76 hF76 => ?_)
                                        have hJF76 := (hJ136 : rJ F G136).set hF76 (rsc_t (by omega))
                                        refine V_aload_n X dX12_clash_265 6 rfl ?_
                                        refine R_getf X fl_X12_35 hK (0) (rlv (by omega)) rfl rfl dX12_clash_266 ?_
                                        refine V_iload X dX12_clash_269 1 rfl ?_
                                        refine V_dup2 X dX12_clash_271 rfl rfl ?_
                                        refine R_iald X hK (13) (by omega) (i136) rfl (by omega) dX12_clash_272 ?_
                                        refine V.topi (fun x77 ex77 => ?_)
                                        refine V_iload X dX12_clash_273 0 rfl ?_
                                        refine V_ifeqN X (by omega) (tgt := 285) dX12_clash_275 (by decide) (fun h78 => ?_) (fun h78 => absurd h78 (by omega))
                                        refine V_iconst (v := nI 0) X dX12_clash_285 (by decide) ?_
                                        refine V_ior X dX12_clash_286 (V.topi (fun w79 ew79 => ?_))
                                        refine R_iast X hK (13) (by omega) (i136) rfl (by omega) dX12_clash_287 (fun F80 hF80 => ?_)
                                        have hJF80 := (hJF76 : rJ F F76).set hF80 (rsc_t (by omega))
                                        refine V_iinc X (nI (i136 + 1)) [(6, .int (nI (i136 + 1))), (7, .int (nI (0))), (5, .int (nI (i116))), (4, .int (nI (m9))), (3, .int (nI (i25))), (2, .int (nI (b9))), (0, .ref (ad (0))), (1, .int (a1))] dX12_clash_288 1 rfl (zinc _) (by decide) rfl ?_
                                        refine V_goto (tgt := 136) X dX12_clash_291 (by decide) ?_
                                        exact V.sub [0, 2, 3, 4, 5, 6, 7] rfl (ih136 _ (by omega) (i136 + 1) F80 rfl (by omega) hJF80)
                              exact L136 _ (0) G116 rfl (by omega) hJ116
                      exact L116 _ (0) G66 rfl (by omega) hJ66
                    · -- 75 false
                      refine V_iload X dX12_clash_78 1 rfl ?_
                      refine V_iload X dX12_clash_80 0 rfl ?_
                      refine V_callS (rest := []) X E.room ml_X12_159 st_X12_isIn (by omega) (by decide) (k_X12_isIn (σ := (t, rO g ad N S G66 σ0)) (nI (m9)) (nI (i66))) rfl rfl (Nat.le_of_ble_eq_true rfl) ⟨by omega, by omega⟩ dX12_clash_82 (fun _ _ h => False.elim h) (fun v82 σ' hp82 => ?_)
                      obtain ⟨hp82, rfl⟩ := hp82
                      rcases hp82 with ⟨rfl, z81⟩ | ⟨rfl, z81⟩
                      · -- yes
                        show V g κ 8 (0) (0) (t, rO g ad N S G66 σ0) 85 [(5, .int (nI (i66))), (4, .int (nI (m9))), (3, .int (nI (i25))), (2, .int (x25_2)), (0, .ref (ad (0))), (1, .int (a1))] [.int (nI (1))]
                        refine V_ifeqN X (by omega) (tgt := 107) dX12_clash_85 (by decide) (fun h82 => absurd h82 (by omega)) (fun h82 => ?_)
                        refine V_aload_n X dX12_clash_88 4 rfl ?_
                        refine R_getf X fl_X12_35 hK (0) (rlv (by omega)) rfl rfl dX12_clash_89 ?_
                        refine V_iload X dX12_clash_92 0 rfl ?_
                        refine V_dup2 X dX12_clash_94 rfl rfl ?_
                        refine R_iald X hK (13) (by omega) (i66) rfl (by omega) dX12_clash_95 ?_
                        refine V.topi (fun x83 ex83 => ?_)
                        refine V_iload X dX12_clash_96 1 rfl ?_
                        refine V_iconst (v := nI 1) X dX12_clash_98 (by decide) ?_
                        refine V_iload X dX12_clash_99 0 rfl ?_
                        refine V_ishl1 X (by omega) dX12_clash_101 ?_
                        refine V_iconst (v := (-1)) X dX12_clash_102 (by decide) ?_
                        refine V_ixor X dX12_clash_103 (V.topi (fun w84 ew84 => ?_))
                        refine V_iand X dX12_clash_104 (V.topi (fun w85 ew85 => ?_))
                        refine V_ior X dX12_clash_105 (V.topi (fun w86 ew86 => ?_))
                        refine R_iast X hK (13) (by omega) (i66) rfl (by omega) dX12_clash_106 (fun F87 hF87 => ?_)
                        have hJF87 := (hJ66 : rJ F G66).set hF87 (rsc_t (by omega))
                        refine V_iinc X (nI (i66 + 1)) [(5, .int (nI (i66 + 1))), (4, .int (nI (m9))), (3, .int (nI (i25))), (2, .int (x25_2)), (0, .ref (ad (0))), (1, .int (a1))] dX12_clash_107 0 rfl (zinc _) (by decide) rfl ?_
                        refine V_goto (tgt := 66) X dX12_clash_110 (by decide) ?_
                        exact V.sub [0, 1, 2, 3, 4, 5] rfl (ih66 _ (by omega) (i66 + 1) F87 rfl (by omega) hJF87)
                      · -- no
                        show V g κ 8 (0) (0) (t, rO g ad N S G66 σ0) 85 [(5, .int (nI (i66))), (4, .int (nI (m9))), (3, .int (nI (i25))), (2, .int (x25_2)), (0, .ref (ad (0))), (1, .int (a1))] [.int (nI (0))]
                        refine V_ifeqN X (by omega) (tgt := 107) dX12_clash_85 (by decide) (fun h88 => ?_) (fun h88 => absurd h88 (by omega))
                        refine V_iinc X (nI (i66 + 1)) [(5, .int (nI (i66 + 1))), (4, .int (nI (m9))), (3, .int (nI (i25))), (2, .int (x25_2)), (0, .ref (ad (0))), (1, .int (a1))] dX12_clash_107 0 rfl (zinc _) (by decide) rfl ?_
                        refine V_goto (tgt := 66) X dX12_clash_110 (by decide) ?_
                        exact V.sub [0, 1, 2, 3, 4, 5] rfl (ih66 _ (by omega) (i66 + 1) G66 rfl (by omega) hJ66)
                exact L66 _ (0) G25 rfl (by omega) hJ25
              · -- no
                show V g κ 8 (0) (0) (t, rO g ad N S G25 σ0) 41 [(3, .int (nI (i25))), (2, .int (x25_2)), (0, .ref (ad (0))), (1, .int (a1))] [.int (nI (0))]
                refine V_ifneN X (by omega) (tgt := 47) dX12_clash_41 (by decide) (fun h89 => absurd h89 (by omega)) (fun h89 => ?_)
                refine V_goto (tgt := 302) X dX12_clash_44 (by decide) ?_
                refine V_iinc X (nI (i25 + 1)) [(3, .int (nI (i25 + 1))), (2, .int (x25_2)), (0, .ref (ad (0))), (1, .int (a1))] dX12_clash_302 0 rfl (zinc _) (by decide) rfl ?_
                refine V_goto (tgt := 25) X dX12_clash_305 (by decide) ?_
                exact V.sub [0, 1, 2, 3] rfl (ih25 _ (by omega) (i25 + 1) (x25_2) G25 rfl (by omega) hJ25 (by first | exact hv25_0 | exact Or.inr ⟨_, by omega, rfl⟩))
        exact L25 _ (0) (-1) G2 rfl (by omega) hJ2 (Or.inl rfl)
      · -- 5 false
        refine V_aload_n X dX12_clash_8 1 rfl ?_
        refine R_getf X fl_X12_35 hK (0) (rlv (by omega)) rfl rfl dX12_clash_9 ?_
        refine V_iload_n X dX12_clash_12 0 rfl ?_
        refine V_iconst (v := nI 0) X dX12_clash_13 (by decide) ?_
        refine R_iast X hK (13) (by omega) (i2) rfl (by omega) dX12_clash_14 (fun F90 hF90 => ?_)
        have hJF90 := (hJ2 : rJ F G2).set hF90 (rsc_t (by omega))
        refine V_iinc X (nI (i2 + 1)) [(2, .int (nI (i2 + 1))), (0, .ref (ad (0))), (1, .int (a1))] dX12_clash_15 0 rfl (zinc _) (by decide) rfl ?_
        refine V_goto (tgt := 2) X dX12_clash_18 (by decide) ?_
        exact V.sub [0, 1, 2] rfl (ih2 _ (by omega) (i2 + 1) F90 rfl (by omega) hJF90)
  exact L2 _ (0) F rfl (by omega) rJ.rfl'
set_option maxRecDepth 100000 in
set_option maxHeartbeats 4000000 in
theorem k_X12_excess {g : zG} {t : Nat × Nat} {ad N : Nat → Nat} {S : Int64} {σ0 : Nat → Option va_E} {F : Nat → Nat → Int32} (hK : rK g ad N) (hI : rI N F)  (a1 : Int32) : Ct g 15 yX12_excess cX12_excess 4 (some FieldType.int) 0 0 [.ref (ad (0)), .int (a1)] (t, rO g ad N S F σ0) (qR pI (t, rO g ad N S F σ0)) zNo := by
  refine Ct.of (lv := [(0, .ref (ad (0))), (1, .int (a1))]) (by decide) (Nat.le_of_ble_eq_true rfl) rfl ?_
  intro κ X E B _
  have X : zX g κ RX12 cX12_excess 4 := X
  obtain ⟨b0, b1, b2, b3, b4⟩ := hI.bnd
  refine V_iconst (v := nI 0) X dX12_excess_0 (by decide) ?_
  refine V_istore_n X [(2, .int (nI (0))), (0, .ref (ad (0))), (1, .int (a1))] dX12_excess_1 (by decide) rfl ?_
  refine V_iconst (v := nI 0) X dX12_excess_2 (by decide) ?_
  refine V_istore_n X [(3, .int (nI (0))), (2, .int (nI (0))), (0, .ref (ad (0))), (1, .int (a1))] dX12_excess_3 (by decide) rfl ?_
  have L4 : ∀ (n4 : Nat) (i4 : Nat) (x4_2 : Int32), n4 = N 0 - i4 → i4 ≤ N 0 → V g κ 4 (0) (0) (t, rO g ad N S F σ0) 4 [(3, .int (nI (i4))), (2, .int (x4_2)), (0, .ref (ad (0))), (1, .int (a1))] [] := by
    intro n4
    induction n4 using Nat.strongRecOn with
    | ind n4 ih4 =>
      intro i4 x4_2 hn4 hi4
      refine V_iload_n X dX12_excess_4 0 rfl ?_
      refine V_aload_n X dX12_excess_5 2 rfl ?_
      refine R_getf X fl_X12_10 hK (0) (rlv (by omega)) rfl rfl dX12_excess_6 ?_
      refine V_callV (rest := [.int (nI (i4))]) X E.room ml_X12_42 in_Jx4a65c_size_8abf5 (ci := 3) rfl se_Jx4a65c_size_8abf5 (rO_list hK (i := 0) (by decide)) (by omega) (by decide) (r_size hK 0 (by decide)) rfl rfl (Nat.le_of_ble_eq_true rfl) ⟨by omega, by omega⟩ dX12_excess_9 (fun _ _ h => False.elim h) (fun v1 σ' hp2 => ?_)
      obtain ⟨hp2, rfl⟩ := hp2
      cases (hp2 : _ = some (Value.int (nI (N 0))))
      show V g κ 4 (0) (0) (t, rO g ad N S F σ0) 12 [(3, .int (nI (i4))), (2, .int (x4_2)), (0, .ref (ad (0))), (1, .int (a1))] [.int (nI (N 0)), .int (nI (i4))]
      refine V_icmpgeN X (by omega) (by omega) (tgt := 41) dX12_excess_12 (by decide) (fun h3 => ?_) (fun h3 => ?_)
      · -- 12 true
        refine V_iload_n X dX12_excess_41 3 rfl ?_
        refine V_callS (rest := []) X E.room ml_X12_170 st_J6_bitCount_0f7a4 (by omega) (by decide) (k_J6_bitCount_0f7a4 (σ := (t, rO g ad N S F σ0)) (a1)) rfl rfl (Nat.le_of_ble_eq_true rfl) ⟨by omega, by omega⟩ dX12_excess_42 (fun _ _ h => False.elim h) (fun v42 σ' hp42 => ?_)
        obtain ⟨hp42, rfl⟩ := hp42
        cases (hp42 : _ = some (Value.int (zbc (a1))))
        show V g κ 4 (0) (0) (t, rO g ad N S F σ0) 45 [(3, .int (nI (i4))), (2, .int (x4_2)), (0, .ref (ad (0))), (1, .int (a1))] [.int (zbc (a1))]
        refine V_iload_n X dX12_excess_45 1 rfl ?_
        refine V_callS (rest := [.int (zbc (a1))]) X E.room ml_X12_170 st_J6_bitCount_0f7a4 (by omega) (by decide) (k_J6_bitCount_0f7a4 (σ := (t, rO g ad N S F σ0)) (x4_2)) rfl rfl (Nat.le_of_ble_eq_true rfl) ⟨by omega, by omega⟩ dX12_excess_46 (fun _ _ h => False.elim h) (fun v46 σ' hp46 => ?_)
        obtain ⟨hp46, rfl⟩ := hp46
        cases (hp46 : _ = some (Value.int (zbc (x4_2))))
        show V g κ 4 (0) (0) (t, rO g ad N S F σ0) 49 [(3, .int (nI (i4))), (2, .int (x4_2)), (0, .ref (ad (0))), (1, .int (a1))] [.int (zbc (x4_2)), .int (zbc (a1))]
        refine V_isub X dX12_excess_49 (V.topi (fun w4 ew4 => ?_))
        exact V_iret X E (by omega) (by omega) ⟨⟨_, rfl⟩, rfl⟩ dX12_excess_50
      · -- 12 false
        refine V_iload_n X dX12_excess_15 1 rfl ?_
        refine V_iload_n X dX12_excess_16 3 rfl ?_
        refine V_iload_n X dX12_excess_17 0 rfl ?_
        refine V_callS (rest := [.int (x4_2)]) X E.room ml_X12_159 st_X12_isIn (by omega) (by decide) (k_X12_isIn (σ := (t, rO g ad N S F σ0)) (a1) (nI (i4))) rfl rfl (Nat.le_of_ble_eq_true rfl) ⟨by omega, by omega⟩ dX12_excess_18 (fun _ _ h => False.elim h) (fun v18 σ' hp18 => ?_)
        obtain ⟨hp18, rfl⟩ := hp18
        rcases hp18 with ⟨rfl, z5⟩ | ⟨rfl, z5⟩
        · -- yes
          show V g κ 4 (0) (0) (t, rO g ad N S F σ0) 21 [(3, .int (nI (i4))), (2, .int (x4_2)), (0, .ref (ad (0))), (1, .int (a1))] [.int (nI (1)), .int (x4_2)]
          refine V_ifeqN X (by omega) (tgt := 32) dX12_excess_21 (by decide) (fun h6 => absurd h6 (by omega)) (fun h6 => ?_)
          refine V_aload_n X dX12_excess_24 2 rfl ?_
          refine V_iload_n X dX12_excess_25 0 rfl ?_
          refine V_callV (rest := [.int (x4_2)]) X E.room ml_X12_195 in_X12_players (ci := 16) rfl se_X12_players (R_recv hK (q := 0) (rlv (by omega)) rfl) (by omega) (by decide) (k_X12_players hK hI (i4) (by omega)) rfl rfl (Nat.le_of_ble_eq_true rfl) ⟨by omega, by omega⟩ dX12_excess_26 (fun _ _ h => False.elim h) (fun v26 σ' hp26 => ?_)
          obtain ⟨hp26, rfl⟩ := hp26
          obtain ⟨r7, rfl, fr7⟩ := hp26
          show V g κ 4 (0) (0) (t, rO g ad N S F σ0) 29 [(3, .int (nI (i4))), (2, .int (x4_2)), (0, .ref (ad (0))), (1, .int (a1))] [.int (r7), .int (x4_2)]
          refine V_goto (tgt := 33) X dX12_excess_29 (by decide) ?_
          refine V_ior X dX12_excess_33 (V.topi (fun w8 ew8 => ?_))
          refine V_istore_n X [(2, .int (w8)), (3, .int (nI (i4))), (0, .ref (ad (0))), (1, .int (a1))] dX12_excess_34 (by decide) rfl ?_
          refine V_iinc X (nI (i4 + 1)) [(3, .int (nI (i4 + 1))), (2, .int (w8)), (0, .ref (ad (0))), (1, .int (a1))] dX12_excess_35 1 rfl (zinc _) (by decide) rfl ?_
          refine V_goto (tgt := 4) X dX12_excess_38 (by decide) ?_
          exact V.sub [0, 1, 2, 3] rfl (ih4 _ (by omega) (i4 + 1) (w8) rfl (by omega))
        · -- no
          show V g κ 4 (0) (0) (t, rO g ad N S F σ0) 21 [(3, .int (nI (i4))), (2, .int (x4_2)), (0, .ref (ad (0))), (1, .int (a1))] [.int (nI (0)), .int (x4_2)]
          refine V_ifeqN X (by omega) (tgt := 32) dX12_excess_21 (by decide) (fun h9 => ?_) (fun h9 => absurd h9 (by omega))
          refine V_iconst (v := nI 0) X dX12_excess_32 (by decide) ?_
          refine V_ior X dX12_excess_33 (V.topi (fun w10 ew10 => ?_))
          refine V_istore_n X [(2, .int (w10)), (3, .int (nI (i4))), (0, .ref (ad (0))), (1, .int (a1))] dX12_excess_34 (by decide) rfl ?_
          refine V_iinc X (nI (i4 + 1)) [(3, .int (nI (i4 + 1))), (2, .int (w10)), (0, .ref (ad (0))), (1, .int (a1))] dX12_excess_35 1 rfl (zinc _) (by decide) rfl ?_
          refine V_goto (tgt := 4) X dX12_excess_38 (by decide) ?_
          exact V.sub [0, 1, 2, 3] rfl (ih4 _ (by omega) (i4 + 1) (w10) rfl (by omega))
  exact L4 _ (0) (nI (0)) rfl (by omega)
set_option maxRecDepth 100000 in
set_option maxHeartbeats 4000000 in
theorem k_X12_lack {g : zG} {t : Nat × Nat} {ad N : Nat → Nat} {S : Int64} {σ0 : Nat → Option va_E} {F : Nat → Nat → Int32} (hK : rK g ad N) (hI : rI N F) (m : Nat) (hm : m < 128) : Ct g 16 yX12_lack cX12_lack 4 (some FieldType.int) 0 0 [.ref (ad (0)), .int (nI (m))] (t, rO g ad N S F σ0) (qR pI (t, rO g ad N S F σ0)) zNo := by
  refine Ct.of (lv := [(0, .ref (ad (0))), (1, .int (nI (m)))]) (by decide) (Nat.le_of_ble_eq_true rfl) rfl ?_
  intro κ X E B _
  have X : zX g κ RX12 cX12_lack 4 := X
  obtain ⟨b0, b1, b2, b3, b4⟩ := hI.bnd
  refine V_iconst (v := nI 0) X dX12_lack_0 (by decide) ?_
  refine V_istore_n X [(2, .int (nI (0))), (0, .ref (ad (0))), (1, .int (nI (m)))] dX12_lack_1 (by decide) rfl ?_
  refine V_iconst (v := nI 1) X dX12_lack_2 (by decide) ?_
  refine V_istore_n X [(3, .int (nI (1))), (2, .int (nI (0))), (0, .ref (ad (0))), (1, .int (nI (m)))] dX12_lack_3 (by decide) rfl ?_
  have L4 : ∀ (n4 : Nat) (i4 : Nat) (x4_2 : Int32), n4 = (m + 1) - i4 → i4 ≤ (m + 1) → 1 ≤ i4 → V g κ 4 (0) (0) (t, rO g ad N S F σ0) 4 [(3, .int (nI (i4))), (2, .int (x4_2)), (0, .ref (ad (0))), (1, .int (nI (m)))] [] := by
    intro n4
    induction n4 using Nat.strongRecOn with
    | ind n4 ih4 =>
      intro i4 x4_2 hn4 hi4 hl4
      refine V_iload_n X dX12_lack_4 0 rfl ?_
      refine V_iload_n X dX12_lack_5 3 rfl ?_
      refine V_icmpgtN X (by omega) (by omega) (tgt := 38) dX12_lack_6 (by decide) (fun h1 => ?_) (fun h1 => ?_)
      · -- 6 true
        refine V_iload_n X dX12_lack_38 1 rfl ?_
        exact V_iret X E (by omega) (by omega) ⟨⟨_, rfl⟩, rfl⟩ dX12_lack_39
      · -- 6 false
        refine V_iload_n X dX12_lack_9 0 rfl ?_
        refine V_iload_n X dX12_lack_10 3 rfl ?_
        refine V_iconst (v := (-1)) X dX12_lack_11 (by decide) ?_
        refine V_ixor X dX12_lack_12 (V.topi (fun w2 ew2 => ?_))
        refine V_iand X dX12_lack_13 (V.topi (fun w3 ew3 => ?_))
        refine V_ifne X (tgt := 32) dX12_lack_14 (by decide) (fun h4 => ?_) (fun h4 => ?_)
        · -- 14 true
          refine V_iinc X (nI (i4 + 1)) [(3, .int (nI (i4 + 1))), (2, .int (x4_2)), (0, .ref (ad (0))), (1, .int (nI (m)))] dX12_lack_32 0 rfl (zinc _) (by decide) rfl ?_
          refine V_goto (tgt := 4) X dX12_lack_35 (by decide) ?_
          exact V.sub [0, 1, 2, 3] rfl (ih4 _ (by omega) (i4 + 1) (x4_2) rfl (by omega) (by omega))
        · -- 14 false
          refine V_aload_n X dX12_lack_17 2 rfl ?_
          refine V_iload_n X dX12_lack_18 0 rfl ?_
          refine V_callV (rest := []) X E.room ml_X12_197 in_X12_excess (ci := 16) rfl se_X12_excess (R_recv hK (q := 0) (rlv (by omega)) rfl) (by omega) (by decide) (k_X12_excess hK hI (nI (i4))) rfl rfl (Nat.le_of_ble_eq_true rfl) ⟨by omega, by omega⟩ dX12_lack_19 (fun _ _ h => False.elim h) (fun v19 σ' hp19 => ?_)
          obtain ⟨hp19, rfl⟩ := hp19
          obtain ⟨r5, rfl⟩ := hp19
          show V g κ 4 (0) (0) (t, rO g ad N S F σ0) 22 [(3, .int (nI (i4))), (2, .int (x4_2)), (0, .ref (ad (0))), (1, .int (nI (m)))] [.int (r5)]
          refine V_aload_n X dX12_lack_22 2 rfl ?_
          refine V_iload_n X dX12_lack_23 1 rfl ?_
          refine V_callV (rest := [.int (r5)]) X E.room ml_X12_197 in_X12_excess (ci := 16) rfl se_X12_excess (R_recv hK (q := 0) (rlv (by omega)) rfl) (by omega) (by decide) (k_X12_excess hK hI (x4_2)) rfl rfl (Nat.le_of_ble_eq_true rfl) ⟨by omega, by omega⟩ dX12_lack_24 (fun _ _ h => False.elim h) (fun v24 σ' hp24 => ?_)
          obtain ⟨hp24, rfl⟩ := hp24
          obtain ⟨r6, rfl⟩ := hp24
          show V g κ 4 (0) (0) (t, rO g ad N S F σ0) 27 [(3, .int (nI (i4))), (2, .int (x4_2)), (0, .ref (ad (0))), (1, .int (nI (m)))] [.int (r6), .int (r5)]
          refine V_icmple X (tgt := 32) dX12_lack_27 (by decide) (fun h7 => ?_) (fun h7 => ?_)
          · -- 27 true
            refine V_iinc X (nI (i4 + 1)) [(3, .int (nI (i4 + 1))), (2, .int (x4_2)), (0, .ref (ad (0))), (1, .int (nI (m)))] dX12_lack_32 0 rfl (zinc _) (by decide) rfl ?_
            refine V_goto (tgt := 4) X dX12_lack_35 (by decide) ?_
            exact V.sub [0, 1, 2, 3] rfl (ih4 _ (by omega) (i4 + 1) (x4_2) rfl (by omega) (by omega))
          · -- 27 false
            refine V_iload_n X dX12_lack_30 0 rfl ?_
            refine V_istore_n X [(2, .int (nI (i4))), (3, .int (nI (i4))), (0, .ref (ad (0))), (1, .int (nI (m)))] dX12_lack_31 (by decide) rfl ?_
            refine V_iinc X (nI (i4 + 1)) [(3, .int (nI (i4 + 1))), (2, .int (nI (i4))), (0, .ref (ad (0))), (1, .int (nI (m)))] dX12_lack_32 1 rfl (zinc _) (by decide) rfl ?_
            refine V_goto (tgt := 4) X dX12_lack_35 (by decide) ?_
            exact V.sub [0, 1, 2, 3] rfl (ih4 _ (by omega) (i4 + 1) (nI (i4)) rfl (by omega) (by omega))
  exact L4 _ (1) (nI (0)) rfl (by omega) (by omega)
set_option maxRecDepth 100000 in
set_option maxHeartbeats 4000000 in
theorem k_X12_scenesWith {g : zG} {t : Nat × Nat} {ad N : Nat → Nat} {S : Int64} {σ0 : Nat → Option va_E} {F : Nat → Nat → Int32} (hK : rK g ad N) (hI : rI N F) (p : Nat) (hp : p < N 0) : Ct g 13 yX12_scenesWith cX12_scenesWith 4 (some FieldType.int) 0 0 [.ref (ad (0)), .int (nI (p))] (t, rO g ad N S F σ0) (qR (fun v => ∃ x : Int32, v = some (.int x) ∧ zMk x (fun q => q < N 2 ∧ zIn (F (26 + q) 0) (nI p))) (t, rO g ad N S F σ0)) zNo := by
  refine Ct.of (lv := [(0, .ref (ad (0))), (1, .int (nI (p)))]) (by decide) (Nat.le_of_ble_eq_true rfl) rfl ?_
  intro κ X E B _
  have X : zX g κ RX12 cX12_scenesWith 4 := X
  obtain ⟨b0, b1, b2, b3, b4⟩ := hI.bnd
  refine V_iconst (v := nI 0) X dX12_scenesWith_0 (by decide) ?_
  refine V_istore_n X [(2, .int (nI (0))), (0, .ref (ad (0))), (1, .int (nI (p)))] dX12_scenesWith_1 (by decide) rfl ?_
  refine V_iconst (v := nI 0) X dX12_scenesWith_2 (by decide) ?_
  refine V_istore_n X [(3, .int (nI (0))), (2, .int (nI (0))), (0, .ref (ad (0))), (1, .int (nI (p)))] dX12_scenesWith_3 (by decide) rfl ?_
  have L4 : ∀ (n4 : Nat) (i4 : Nat) (x4_2 : Int32), n4 = N 2 - i4 → i4 ≤ N 2 → (zMk x4_2 (fun q => q < i4 ∧ zIn (F (26 + q) 0) (nI p))) → V g κ 4 (0) (0) (t, rO g ad N S F σ0) 4 [(3, .int (nI (i4))), (2, .int (x4_2)), (0, .ref (ad (0))), (1, .int (nI (p)))] [] := by
    intro n4
    induction n4 using Nat.strongRecOn with
    | ind n4 ih4 =>
      intro i4 x4_2 hn4 hi4 hv4_0
      refine V_iload_n X dX12_scenesWith_4 0 rfl ?_
      refine V_aload_n X dX12_scenesWith_5 2 rfl ?_
      refine R_getf X fl_X12_19 hK (0) (rlv (by omega)) rfl rfl dX12_scenesWith_6 ?_
      refine V_callV (rest := [.int (nI (i4))]) X E.room ml_X12_42 in_Jx4a65c_size_8abf5 (ci := 3) rfl se_Jx4a65c_size_8abf5 (rO_list hK (i := 2) (by decide)) (by omega) (by decide) (r_size hK 2 (by decide)) rfl rfl (Nat.le_of_ble_eq_true rfl) ⟨by omega, by omega⟩ dX12_scenesWith_9 (fun _ _ h => False.elim h) (fun v1 σ' hp2 => ?_)
      obtain ⟨hp2, rfl⟩ := hp2
      cases (hp2 : _ = some (Value.int (nI (N 2))))
      show V g κ 4 (0) (0) (t, rO g ad N S F σ0) 12 [(3, .int (nI (i4))), (2, .int (x4_2)), (0, .ref (ad (0))), (1, .int (nI (p)))] [.int (nI (N 2)), .int (nI (i4))]
      refine V_icmpgeN X (by omega) (by omega) (tgt := 52) dX12_scenesWith_12 (by decide) (fun h3 => ?_) (fun h3 => ?_)
      · -- 12 true
        refine V_iload_n X dX12_scenesWith_52 1 rfl ?_
        exact V_iret X E (by omega) (by omega) ⟨⟨_, rfl, by rw [← show i4 = N 2 by omega]; exact hv4_0⟩, rfl⟩ dX12_scenesWith_53
      · -- 12 false
        refine V_iload_n X dX12_scenesWith_15 1 rfl ?_
        refine V_aload_n X dX12_scenesWith_16 2 rfl ?_
        refine R_getf X fl_X12_19 hK (0) (rlv (by omega)) rfl rfl dX12_scenesWith_17 ?_
        refine V_iload_n X dX12_scenesWith_20 0 rfl ?_
        refine V_callV (rest := [.int (x4_2)]) X E.room ml_X12_97 in_Jx4a65c_get_915e3 (ci := 3) rfl se_Jx4a65c_get_915e3 (rO_list hK (i := 2) (by decide)) (by omega) (by decide) (r_get hK 2 (by decide) (j := i4) (by omega) (by omega)) rfl rfl (Nat.le_of_ble_eq_true rfl) ⟨by omega, by omega⟩ dX12_scenesWith_21 (fun _ _ h => False.elim h) (fun v4 σ' hp5 => ?_)
        obtain ⟨hp5, rfl⟩ := hp5
        cases (hp5 : _ = some (Value.ref (ad (26 + (i4)))))
        show V g κ 4 (0) (0) (t, rO g ad N S F σ0) 24 [(3, .int (nI (i4))), (2, .int (x4_2)), (0, .ref (ad (0))), (1, .int (nI (p)))] [.ref (ad (26 + (i4))), .int (x4_2)]
        refine V_cast X (C := RX10) rfl cl_X12_85 (R_recv hK (q := 26 + (i4)) (rlv (by omega)) (rCell_scene (by omega))) dX12_scenesWith_24 ?_
        obtain ⟨m6, hm6, em6⟩ := hI.sp (i4) (by omega)
        refine R_getfN (z := nI (m6)) X fl_X12_88 hK (26 + (i4)) (rlv (by omega)) (rCell_scene (by omega)) rfl em6 dX12_scenesWith_27 ?_
        refine V_iload_n X dX12_scenesWith_30 3 rfl ?_
        refine V_callS (rest := [.int (x4_2)]) X E.room ml_X12_159 st_X12_isIn (by omega) (by decide) (k_X12_isIn (σ := (t, rO g ad N S F σ0)) (nI (m6)) (nI (p))) rfl rfl (Nat.le_of_ble_eq_true rfl) ⟨by omega, by omega⟩ dX12_scenesWith_31 (fun _ _ h => False.elim h) (fun v31 σ' hp31 => ?_)
        obtain ⟨hp31, rfl⟩ := hp31
        rcases hp31 with ⟨rfl, z7⟩ | ⟨rfl, z7⟩
        · -- yes
          show V g κ 4 (0) (0) (t, rO g ad N S F σ0) 34 [(3, .int (nI (i4))), (2, .int (x4_2)), (0, .ref (ad (0))), (1, .int (nI (p)))] [.int (nI (1)), .int (x4_2)]
          refine V_ifeqN X (by omega) (tgt := 43) dX12_scenesWith_34 (by decide) (fun h8 => absurd h8 (by omega)) (fun h8 => ?_)
          refine V_iconst (v := nI 1) X dX12_scenesWith_37 (by decide) ?_
          refine V_iload_n X dX12_scenesWith_38 0 rfl ?_
          refine V_ishl1 X (by omega) dX12_scenesWith_39 ?_
          refine V_goto (tgt := 44) X dX12_scenesWith_40 (by decide) ?_
          refine V_ior X dX12_scenesWith_44 (V.topi (fun w9 ew9 => ?_))
          refine V_istore_n X [(2, .int (w9)), (3, .int (nI (i4))), (0, .ref (ad (0))), (1, .int (nI (p)))] dX12_scenesWith_45 (by decide) rfl ?_
          refine V_iinc X (nI (i4 + 1)) [(3, .int (nI (i4 + 1))), (2, .int (w9)), (0, .ref (ad (0))), (1, .int (nI (p)))] dX12_scenesWith_46 1 rfl (zinc _) (by decide) rfl ?_
          refine V_goto (tgt := 4) X dX12_scenesWith_49 (by decide) ?_
          exact V.sub [0, 1, 2, 3] rfl (ih4 _ (by omega) (i4 + 1) (w9) rfl (by omega) (by rw [ew9]; exact abl_yes hv4_0 (show zIn (F (26 + i4) 0) (nI (p)) by rw [em6]; exact z7) (by omega)))
        · -- no
          show V g κ 4 (0) (0) (t, rO g ad N S F σ0) 34 [(3, .int (nI (i4))), (2, .int (x4_2)), (0, .ref (ad (0))), (1, .int (nI (p)))] [.int (nI (0)), .int (x4_2)]
          refine V_ifeqN X (by omega) (tgt := 43) dX12_scenesWith_34 (by decide) (fun h10 => ?_) (fun h10 => absurd h10 (by omega))
          refine V_iconst (v := nI 0) X dX12_scenesWith_43 (by decide) ?_
          refine V_ior X dX12_scenesWith_44 (V.topi (fun w11 ew11 => ?_))
          refine V_istore_n X [(2, .int (w11)), (3, .int (nI (i4))), (0, .ref (ad (0))), (1, .int (nI (p)))] dX12_scenesWith_45 (by decide) rfl ?_
          refine V_iinc X (nI (i4 + 1)) [(3, .int (nI (i4 + 1))), (2, .int (w11)), (0, .ref (ad (0))), (1, .int (nI (p)))] dX12_scenesWith_46 1 rfl (zinc _) (by decide) rfl ?_
          refine V_goto (tgt := 4) X dX12_scenesWith_49 (by decide) ?_
          exact V.sub [0, 1, 2, 3] rfl (ih4 _ (by omega) (i4 + 1) (w11) rfl (by omega) (by rw [ew11]; rw [zor0]; exact abl_no hv4_0 (show ¬ zIn (F (26 + i4) 0) (nI (p)) by rw [em6]; exact z7)))
  exact L4 _ (0) (nI (0)) rfl (by omega) (abl_0 (P := fun q => zIn (F (26 + q) 0) (nI p)))
set_option maxRecDepth 100000 in
set_option maxHeartbeats 4000000 in
theorem k_X12_miles {g : zG} {σ : zS}  (a1 : Int32) (a2 : Int32) (a3 : Int32) (a4 : Int32) : Ct g 10 yX12_miles cX12_miles 4 (some FieldType.int) 0 0 [.int (a1), .int (a2), .int (a3), .int (a4)] σ (qR (fun v => ∃ x : Int32, v = some (.int x) ∧ x = (if 0 ≤ a1 - a3 then a1 - a3 else 0 - (a1 - a3)) + (if 0 ≤ a2 - a4 then a2 - a4 else 0 - (a2 - a4))) σ) zNo := by
  refine Ct.of (lv := [(0, .int (a1)), (1, .int (a2)), (2, .int (a3)), (3, .int (a4))]) (by decide) (Nat.le_of_ble_eq_true rfl) rfl ?_
  intro κ X E B _
  have X : zX g κ RX12 cX12_miles 4 := X
  refine V_iload_n X dX12_miles_0 0 rfl ?_
  refine V_iload_n X dX12_miles_1 2 rfl ?_
  refine V_isub X dX12_miles_2 (V.topi (fun w1 ew1 => ?_))
  refine V_mabs X E.room (by omega) (by omega) (by decide) ml_X12_200 st_J9_abs_0f7a4 rfl rfl (Nat.le_of_ble_eq_true rfl) dX12_miles_3 (V.topi (fun w2 ew2 => ?_))
  refine V_iload_n X dX12_miles_6 1 rfl ?_
  refine V_iload_n X dX12_miles_7 3 rfl ?_
  refine V_isub X dX12_miles_8 (V.topi (fun w3 ew3 => ?_))
  refine V_mabs X E.room (by omega) (by omega) (by decide) ml_X12_200 st_J9_abs_0f7a4 rfl rfl (Nat.le_of_ble_eq_true rfl) dX12_miles_9 (V.topi (fun w4 ew4 => ?_))
  refine V_iadd X dX12_miles_12 (V.topi (fun w5 ew5 => ?_))
  exact V_iret X E (by omega) (by omega) ⟨⟨_, rfl, by subst_vars; rfl⟩, rfl⟩ dX12_miles_13
