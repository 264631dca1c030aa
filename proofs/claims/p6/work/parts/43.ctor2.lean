/-! ===== the class's own constructor ===== -/
theorem zo28 (g : zG) (X0 : Nat) : (.inl (g.2.2.2 4, 32, .inr (.inr (.inr (.inr (zoF (X0 + 28) 32))))) : va_E) = cCell g X0 28 (fun _ => nI 0) := by
  show (.inl (g.2.2.2 4, 32, .inr (.inr (.inr (.inr (zoF (X0 + 28) 32))))) : va_E) = .inl (g.2.2.2 4, 32, .inr (.inr (.inr (.inr (fun i => if i < 32 then some (X0 + (29 + i)) else none)))))
  have e : zoF (X0 + 28) 32 = fun i => if i < 32 then some (X0 + (29 + i)) else none := by
    funext i
    unfold zoF
    by_cases h : i < 32
    · rw [if_pos h, if_pos h]
      congr 1
      omega
    · rw [if_neg h, if_neg h]
  rw [e]
theorem fk_X5_10 : Cond.fieldLink RX5 10 RX5 (TX5 0).2.1 (TX5 0).2.2.1 ∈ zTBL := tb1 (j := 217) (by decide +kernel) rfl
theorem fk_X5_19 : Cond.fieldLink RX5 19 RX5 (TX5 1).2.1 (TX5 1).2.2.1 ∈ zTBL := tb1 (j := 218) (by decide +kernel) rfl
theorem fk_X5_26 : Cond.fieldLink RX5 26 RX5 (TX5 2).2.1 (TX5 2).2.2.1 ∈ zTBL := tb1 (j := 219) (by decide +kernel) rfl
theorem fk_X5_33 : Cond.fieldLink RX5 33 RX5 (TX5 3).2.1 (TX5 3).2.2.1 ∈ zTBL := tb1 (j := 220) (by decide +kernel) rfl
theorem fk_X5_40 : Cond.fieldLink RX5 40 RX5 (TX5 4).2.1 (TX5 4).2.2.1 ∈ zTBL := tb1 (j := 221) (by decide +kernel) rfl
set_option maxRecDepth 100000 in
set_option maxHeartbeats 4000000 in
theorem k_X5_init {g : zG} {n0 : Nat} {f : Nat → Option va_E} {X0 : Nat} (hB : f X0 = some (.inr (9, [.null, .null, .null, .null, .null, .int (nI 0), .int (nI 0), .int (nI 0), .int (nI 0)]))) (gB : g.2.1.size ≤ X0) : Ct g 10 yX5_init cX5_init 1 none 60 440 [.ref X0] ((X0 + 1, n0), f) (fun v σ' => v = none ∧ σ' = ((X0 + 61, n0 + 440), cW g X0 (fun _ _ => nI 0) f)) zNo := by
  refine Ct.ofN (lv := [(0, .ref X0)]) (by decide) (Nat.le_of_ble_eq_true rfl) rfl ?_
  intro κ X E B9 hnm
  have X : zX g κ RX5 cX5_init 1 := X
  refine V_aload_n X dX5_init_0 0 rfl ?_
  refine V_objInit X E.room (by decide) oi_X5_1 oi_in oi_code (Nat.le_of_ble_eq_true rfl) dX5_init_1 ?_
  refine V_aload_n X dX5_init_4 0 rfl ?_
  refine V_new X E.room (ci := 6) (fs := [.null, .null, .null, .null, .null, .int (nI 0), .int (nI 0)]) rfl zi_X2 tyX2 tyX2_ok cl_X5_7 mk_X2 nz_X2 (by intro j hj; match j, hj with | 0, _ => rfl | 1, _ => rfl | 2, _ => rfl | 3, _ => rfl | 4, _ => rfl | 5, _ => rfl | 6, _ => rfl | i + 7, hj => exact absurd hj (by omega)) (by omega) (by omega) dX5_init_5 ?_
  show V g κ 1 (1) (7) ((X0 + 2, n0 + 7), zup f (X0 + 1) (.inr (6, [.null, .null, .null, .null, .null, .int (nI 0), .int (nI 0)]))) 8 [(0, .ref X0)] [.ref (X0 + 1), .ref X0]
  refine V_dup X dX5_init_8 rfl ?_
  refine V_callIN (rest := [.ref (X0 + 1), .ref X0]) X E.room ml_X5_9 in_X2_init rfl (by omega) (by decide) (k_X2_init (t := (X0 + 2, n0 + 7)) (B := X0 + 1) (zup_eq) (by omega) (by show _ < X0 + 2; omega)) rfl rfl (Nat.le_of_ble_eq_true rfl) ⟨by omega, by omega⟩ dX5_init_9 (fun _ _ h => False.elim h) (fun v9 σ' hp9 => ?_)
  obtain ⟨hv9, f1, rfl, q0_o, q0_0, q0_1, q0_2, q0_3, q0_4, q0_f⟩ := hp9
  cases (hv9 : _ = none)
  show V g κ 1 (6) (40) ((X0 + 7, n0 + 40), f1) 12 [(0, .ref X0)] [.ref (X0 + 1), .ref X0]
  refine V_putfF X fl_X5_10 fk_X5_10 zt_X5 hnm ((q0_f _ (by omega) (by omega)).trans ((zup_ne (by omega)).trans (hB))) gB (Nat.le_of_ble_eq_true rfl) rfl (tyX5_ok 0 (by decide)) rfl rfl dX5_init_12 ?_
  show V g κ 1 (6) (40) ((X0 + 7, n0 + 40), zup f1 (X0) (.inr (9, [.ref (X0 + 1), .null, .null, .null, .null, .int (nI 0), .int (nI 0), .int (nI 0), .int (nI 0)]))) 15 [(0, .ref X0)] []
  refine V_aload_n X dX5_init_15 0 rfl ?_
  refine V_new X E.room (ci := 5) (fs := [.null, .null, .null, .null, .int (nI 0), .int (nI 0)]) rfl zi_X1 tyX1 tyX1_ok cl_X5_16 mk_X1 nz_X1 (by intro j hj; match j, hj with | 0, _ => rfl | 1, _ => rfl | 2, _ => rfl | 3, _ => rfl | 4, _ => rfl | 5, _ => rfl | i + 6, hj => exact absurd hj (by omega)) (by omega) (by omega) dX5_init_16 ?_
  show V g κ 1 (7) (46) ((X0 + 8, n0 + 46), zup (zup f1 (X0) (.inr (9, [.ref (X0 + 1), .null, .null, .null, .null, .int (nI 0), .int (nI 0), .int (nI 0), .int (nI 0)]))) (X0 + 7) (.inr (5, [.null, .null, .null, .null, .int (nI 0), .int (nI 0)]))) 19 [(0, .ref X0)] [.ref (X0 + 7), .ref X0]
  refine V_dup X dX5_init_19 rfl ?_
  refine V_callIN (rest := [.ref (X0 + 7), .ref X0]) X E.room ml_X5_18 in_X1_init rfl (by omega) (by decide) (k_X1_init (t := (X0 + 8, n0 + 46)) (B := X0 + 7) (zup_eq) (by omega) (by show _ < X0 + 8; omega)) rfl rfl (Nat.le_of_ble_eq_true rfl) ⟨by omega, by omega⟩ dX5_init_20 (fun _ _ h => False.elim h) (fun v20 σ' hp20 => ?_)
  obtain ⟨hv20, f2, rfl, q1_o, q1_0, q1_1, q1_2, q1_3, q1_f⟩ := hp20
  cases (hv20 : _ = none)
  show V g κ 1 (11) (66) ((X0 + 12, n0 + 66), f2) 23 [(0, .ref X0)] [.ref (X0 + 7), .ref X0]
  refine V_putfF X fl_X5_19 fk_X5_19 zt_X5 hnm ((q1_f _ (by omega) (by omega)).trans ((zup_ne (by omega)).trans (zup_eq))) gB (Nat.le_of_ble_eq_true rfl) rfl (tyX5_ok 1 (by decide)) rfl rfl dX5_init_23 ?_
  show V g κ 1 (11) (66) ((X0 + 12, n0 + 66), zup f2 (X0) (.inr (9, [.ref (X0 + 1), .ref (X0 + 7), .null, .null, .null, .int (nI 0), .int (nI 0), .int (nI 0), .int (nI 0)]))) 26 [(0, .ref X0)] []
  refine V_aload_n X dX5_init_26 0 rfl ?_
  refine V_new X E.room (ci := 4) (fs := [.null, .int (nI 0), .int (nI 0), .int (nI 0), .null, .null, .null, .null, .int (nI 0)]) rfl zi_X0 tyX0 tyX0_ok cl_X5_23 mk_X0 nz_X0 (by intro j hj; match j, hj with | 0, _ => rfl | 1, _ => rfl | 2, _ => rfl | 3, _ => rfl | 4, _ => rfl | 5, _ => rfl | 6, _ => rfl | 7, _ => rfl | 8, _ => rfl | i + 9, hj => exact absurd hj (by omega)) (by omega) (by omega) dX5_init_27 ?_
  show V g κ 1 (12) (75) ((X0 + 13, n0 + 75), zup (zup f2 (X0) (.inr (9, [.ref (X0 + 1), .ref (X0 + 7), .null, .null, .null, .int (nI 0), .int (nI 0), .int (nI 0), .int (nI 0)]))) (X0 + 12) (.inr (4, [.null, .int (nI 0), .int (nI 0), .int (nI 0), .null, .null, .null, .null, .int (nI 0)]))) 30 [(0, .ref X0)] [.ref (X0 + 12), .ref X0]
  refine V_dup X dX5_init_30 rfl ?_
  refine V_callIN (rest := [.ref (X0 + 12), .ref X0]) X E.room ml_X5_25 in_X0_init rfl (by omega) (by decide) (k_X0_init (t := (X0 + 13, n0 + 75)) (B := X0 + 12) (zup_eq) (by omega) (by show _ < X0 + 13; omega)) rfl rfl (Nat.le_of_ble_eq_true rfl) ⟨by omega, by omega⟩ dX5_init_31 (fun _ _ h => False.elim h) (fun v31 σ' hp31 => ?_)
  obtain ⟨hv31, f3, rfl, q2_o, q2_0, q2_1, q2_2, q2_3, q2_4, q2_f⟩ := hp31
  cases (hv31 : _ = none)
  show V g κ 1 (17) (106) ((X0 + 18, n0 + 106), f3) 34 [(0, .ref X0)] [.ref (X0 + 12), .ref X0]
  refine V_putfF X fl_X5_26 fk_X5_26 zt_X5 hnm ((q2_f _ (by omega) (by omega)).trans ((zup_ne (by omega)).trans (zup_eq))) gB (Nat.le_of_ble_eq_true rfl) rfl (tyX5_ok 2 (by decide)) rfl rfl dX5_init_34 ?_
  show V g κ 1 (17) (106) ((X0 + 18, n0 + 106), zup f3 (X0) (.inr (9, [.ref (X0 + 1), .ref (X0 + 7), .ref (X0 + 12), .null, .null, .int (nI 0), .int (nI 0), .int (nI 0), .int (nI 0)]))) 37 [(0, .ref X0)] []
  refine V_aload_n X dX5_init_37 0 rfl ?_
  refine V_new X E.room (ci := 8) (fs := [.null, .null, .null, .int (nI 0), .int (nI 0), .null, .int (nI 0)]) rfl zi_X4 tyX4 tyX4_ok cl_X5_30 mk_X4 nz_X4 (by intro j hj; match j, hj with | 0, _ => rfl | 1, _ => rfl | 2, _ => rfl | 3, _ => rfl | 4, _ => rfl | 5, _ => rfl | 6, _ => rfl | i + 7, hj => exact absurd hj (by omega)) (by omega) (by omega) dX5_init_38 ?_
  show V g κ 1 (18) (113) ((X0 + 19, n0 + 113), zup (zup f3 (X0) (.inr (9, [.ref (X0 + 1), .ref (X0 + 7), .ref (X0 + 12), .null, .null, .int (nI 0), .int (nI 0), .int (nI 0), .int (nI 0)]))) (X0 + 18) (.inr (8, [.null, .null, .null, .int (nI 0), .int (nI 0), .null, .int (nI 0)]))) 41 [(0, .ref X0)] [.ref (X0 + 18), .ref X0]
  refine V_dup X dX5_init_41 rfl ?_
  refine V_callIN (rest := [.ref (X0 + 18), .ref X0]) X E.room ml_X5_32 in_X4_init rfl (by omega) (by decide) (k_X4_init (t := (X0 + 19, n0 + 113)) (B := X0 + 18) (zup_eq) (by omega) (by show _ < X0 + 19; omega)) rfl rfl (Nat.le_of_ble_eq_true rfl) ⟨by omega, by omega⟩ dX5_init_42 (fun _ _ h => False.elim h) (fun v42 σ' hp42 => ?_)
  obtain ⟨hv42, f4, rfl, q3_o, q3_0, q3_1, q3_2, q3_3, q3_f⟩ := hp42
  cases (hv42 : _ = none)
  show V g κ 1 (22) (195) ((X0 + 23, n0 + 195), f4) 45 [(0, .ref X0)] [.ref (X0 + 18), .ref X0]
  refine V_putfF X fl_X5_33 fk_X5_33 zt_X5 hnm ((q3_f _ (by omega) (by omega)).trans ((zup_ne (by omega)).trans (zup_eq))) gB (Nat.le_of_ble_eq_true rfl) rfl (tyX5_ok 3 (by decide)) rfl rfl dX5_init_45 ?_
  show V g κ 1 (22) (195) ((X0 + 23, n0 + 195), zup f4 (X0) (.inr (9, [.ref (X0 + 1), .ref (X0 + 7), .ref (X0 + 12), .ref (X0 + 18), .null, .int (nI 0), .int (nI 0), .int (nI 0), .int (nI 0)]))) 48 [(0, .ref X0)] []
  refine V_aload_n X dX5_init_48 0 rfl ?_
  refine V_new X E.room (ci := 7) (fs := [.null, .null, .null, .null, .int (nI 0), .null]) rfl zi_X3 tyX3 tyX3_ok cl_X5_37 mk_X3 nz_X3 (by intro j hj; match j, hj with | 0, _ => rfl | 1, _ => rfl | 2, _ => rfl | 3, _ => rfl | 4, _ => rfl | 5, _ => rfl | i + 6, hj => exact absurd hj (by omega)) (by omega) (by omega) dX5_init_49 ?_
  show V g κ 1 (23) (201) ((X0 + 24, n0 + 201), zup (zup f4 (X0) (.inr (9, [.ref (X0 + 1), .ref (X0 + 7), .ref (X0 + 12), .ref (X0 + 18), .null, .int (nI 0), .int (nI 0), .int (nI 0), .int (nI 0)]))) (X0 + 23) (.inr (7, [.null, .null, .null, .null, .int (nI 0), .null]))) 52 [(0, .ref X0)] [.ref (X0 + 23), .ref X0]
  refine V_dup X dX5_init_52 rfl ?_
  refine V_callIN (rest := [.ref (X0 + 23), .ref X0]) X E.room ml_X5_39 in_X3_init rfl (by omega) (by decide) (k_X3_init (t := (X0 + 24, n0 + 201)) (B := X0 + 23) (zup_eq) (by omega) (by show _ < X0 + 24; omega)) rfl rfl (Nat.le_of_ble_eq_true rfl) ⟨by omega, by omega⟩ dX5_init_53 (fun _ _ h => False.elim h) (fun v53 σ' hp53 => ?_)
  obtain ⟨hv53, f5, rfl, q4_o, q4_0, q4_1, q4_2, q4_3, q4_4, q4_r, q4_f⟩ := hp53
  cases (hv53 : _ = none)
  show V g κ 1 (60) (440) ((X0 + 61, n0 + 440), f5) 56 [(0, .ref X0)] [.ref (X0 + 23), .ref X0]
  refine V_putfF X fl_X5_40 fk_X5_40 zt_X5 hnm ((q4_f _ (by omega) (by omega)).trans ((zup_ne (by omega)).trans (zup_eq))) gB (Nat.le_of_ble_eq_true rfl) rfl (tyX5_ok 4 (by decide)) rfl rfl dX5_init_56 ?_
  show V g κ 1 (60) (440) ((X0 + 61, n0 + 440), zup f5 (X0) (.inr (9, [.ref (X0 + 1), .ref (X0 + 7), .ref (X0 + 12), .ref (X0 + 18), .ref (X0 + 23), .int (nI 0), .int (nI 0), .int (nI 0), .int (nI 0)]))) 59 [(0, .ref X0)] []
  refine V.so (σ' := ((X0 + 61, n0 + 440), cW g X0 (fun _ _ => nI 0) f)) (congrArg (Prod.mk _) ?_) ?_
  · funext a
    by_cases h : X0 ≤ a ∧ a < X0 + 61
    · obtain ⟨k, rfl⟩ := Nat.exists_eq_add_of_le h.1
      have hk : k < 61 := by omega
      rw [cW_at hk]
      by_cases h29 : 29 ≤ k
      · obtain ⟨i9, rfl⟩ := Nat.exists_eq_add_of_le h29
        rw [cCell_row g X0 h29]
        rw [show X0 + (29 + i9) = X0 + 28 + 1 + i9 by omega]
        exact (zup_ne (by omega)).trans (q4_r i9 (by omega))
      · match k, h29, hk with
        | 0, _, _ => exact zup_eq
        | 1, _, _ => exact (zup_ne (by omega)).trans ((q4_f _ (by omega) (by omega)).trans ((zup_ne (by omega)).trans ((zup_ne (by omega)).trans ((q3_f _ (by omega) (by omega)).trans ((zup_ne (by omega)).trans ((zup_ne (by omega)).trans ((q2_f _ (by omega) (by omega)).trans ((zup_ne (by omega)).trans ((zup_ne (by omega)).trans ((q1_f _ (by omega) (by omega)).trans ((zup_ne (by omega)).trans ((zup_ne (by omega)).trans (q0_o)))))))))))))
        | 2, _, _ => exact (zup_ne (by omega)).trans ((q4_f _ (by omega) (by omega)).trans ((zup_ne (by omega)).trans ((zup_ne (by omega)).trans ((q3_f _ (by omega) (by omega)).trans ((zup_ne (by omega)).trans ((zup_ne (by omega)).trans ((q2_f _ (by omega) (by omega)).trans ((zup_ne (by omega)).trans ((zup_ne (by omega)).trans ((q1_f _ (by omega) (by omega)).trans ((zup_ne (by omega)).trans ((zup_ne (by omega)).trans (q0_0)))))))))))))
        | 3, _, _ => exact (zup_ne (by omega)).trans ((q4_f _ (by omega) (by omega)).trans ((zup_ne (by omega)).trans ((zup_ne (by omega)).trans ((q3_f _ (by omega) (by omega)).trans ((zup_ne (by omega)).trans ((zup_ne (by omega)).trans ((q2_f _ (by omega) (by omega)).trans ((zup_ne (by omega)).trans ((zup_ne (by omega)).trans ((q1_f _ (by omega) (by omega)).trans ((zup_ne (by omega)).trans ((zup_ne (by omega)).trans (q0_1)))))))))))))
        | 4, _, _ => exact (zup_ne (by omega)).trans ((q4_f _ (by omega) (by omega)).trans ((zup_ne (by omega)).trans ((zup_ne (by omega)).trans ((q3_f _ (by omega) (by omega)).trans ((zup_ne (by omega)).trans ((zup_ne (by omega)).trans ((q2_f _ (by omega) (by omega)).trans ((zup_ne (by omega)).trans ((zup_ne (by omega)).trans ((q1_f _ (by omega) (by omega)).trans ((zup_ne (by omega)).trans ((zup_ne (by omega)).trans (q0_2)))))))))))))
        | 5, _, _ => exact (zup_ne (by omega)).trans ((q4_f _ (by omega) (by omega)).trans ((zup_ne (by omega)).trans ((zup_ne (by omega)).trans ((q3_f _ (by omega) (by omega)).trans ((zup_ne (by omega)).trans ((zup_ne (by omega)).trans ((q2_f _ (by omega) (by omega)).trans ((zup_ne (by omega)).trans ((zup_ne (by omega)).trans ((q1_f _ (by omega) (by omega)).trans ((zup_ne (by omega)).trans ((zup_ne (by omega)).trans (q0_3)))))))))))))
        | 6, _, _ => exact (zup_ne (by omega)).trans ((q4_f _ (by omega) (by omega)).trans ((zup_ne (by omega)).trans ((zup_ne (by omega)).trans ((q3_f _ (by omega) (by omega)).trans ((zup_ne (by omega)).trans ((zup_ne (by omega)).trans ((q2_f _ (by omega) (by omega)).trans ((zup_ne (by omega)).trans ((zup_ne (by omega)).trans ((q1_f _ (by omega) (by omega)).trans ((zup_ne (by omega)).trans ((zup_ne (by omega)).trans (q0_4)))))))))))))
        | 7, _, _ => exact (zup_ne (by omega)).trans ((q4_f _ (by omega) (by omega)).trans ((zup_ne (by omega)).trans ((zup_ne (by omega)).trans ((q3_f _ (by omega) (by omega)).trans ((zup_ne (by omega)).trans ((zup_ne (by omega)).trans ((q2_f _ (by omega) (by omega)).trans ((zup_ne (by omega)).trans ((zup_ne (by omega)).trans (q1_o))))))))))
        | 8, _, _ => exact (zup_ne (by omega)).trans ((q4_f _ (by omega) (by omega)).trans ((zup_ne (by omega)).trans ((zup_ne (by omega)).trans ((q3_f _ (by omega) (by omega)).trans ((zup_ne (by omega)).trans ((zup_ne (by omega)).trans ((q2_f _ (by omega) (by omega)).trans ((zup_ne (by omega)).trans ((zup_ne (by omega)).trans (q1_0))))))))))
        | 9, _, _ => exact (zup_ne (by omega)).trans ((q4_f _ (by omega) (by omega)).trans ((zup_ne (by omega)).trans ((zup_ne (by omega)).trans ((q3_f _ (by omega) (by omega)).trans ((zup_ne (by omega)).trans ((zup_ne (by omega)).trans ((q2_f _ (by omega) (by omega)).trans ((zup_ne (by omega)).trans ((zup_ne (by omega)).trans (q1_1))))))))))
        | 10, _, _ => exact (zup_ne (by omega)).trans ((q4_f _ (by omega) (by omega)).trans ((zup_ne (by omega)).trans ((zup_ne (by omega)).trans ((q3_f _ (by omega) (by omega)).trans ((zup_ne (by omega)).trans ((zup_ne (by omega)).trans ((q2_f _ (by omega) (by omega)).trans ((zup_ne (by omega)).trans ((zup_ne (by omega)).trans (q1_2))))))))))
        | 11, _, _ => exact (zup_ne (by omega)).trans ((q4_f _ (by omega) (by omega)).trans ((zup_ne (by omega)).trans ((zup_ne (by omega)).trans ((q3_f _ (by omega) (by omega)).trans ((zup_ne (by omega)).trans ((zup_ne (by omega)).trans ((q2_f _ (by omega) (by omega)).trans ((zup_ne (by omega)).trans ((zup_ne (by omega)).trans (q1_3))))))))))
        | 12, _, _ => exact (zup_ne (by omega)).trans ((q4_f _ (by omega) (by omega)).trans ((zup_ne (by omega)).trans ((zup_ne (by omega)).trans ((q3_f _ (by omega) (by omega)).trans ((zup_ne (by omega)).trans ((zup_ne (by omega)).trans (q2_o)))))))
        | 13, _, _ => exact (zup_ne (by omega)).trans ((q4_f _ (by omega) (by omega)).trans ((zup_ne (by omega)).trans ((zup_ne (by omega)).trans ((q3_f _ (by omega) (by omega)).trans ((zup_ne (by omega)).trans ((zup_ne (by omega)).trans (q2_0)))))))
        | 14, _, _ => exact (zup_ne (by omega)).trans ((q4_f _ (by omega) (by omega)).trans ((zup_ne (by omega)).trans ((zup_ne (by omega)).trans ((q3_f _ (by omega) (by omega)).trans ((zup_ne (by omega)).trans ((zup_ne (by omega)).trans (q2_1)))))))
        | 15, _, _ => exact (zup_ne (by omega)).trans ((q4_f _ (by omega) (by omega)).trans ((zup_ne (by omega)).trans ((zup_ne (by omega)).trans ((q3_f _ (by omega) (by omega)).trans ((zup_ne (by omega)).trans ((zup_ne (by omega)).trans (q2_2)))))))
        | 16, _, _ => exact (zup_ne (by omega)).trans ((q4_f _ (by omega) (by omega)).trans ((zup_ne (by omega)).trans ((zup_ne (by omega)).trans ((q3_f _ (by omega) (by omega)).trans ((zup_ne (by omega)).trans ((zup_ne (by omega)).trans (q2_3)))))))
        | 17, _, _ => exact (zup_ne (by omega)).trans ((q4_f _ (by omega) (by omega)).trans ((zup_ne (by omega)).trans ((zup_ne (by omega)).trans ((q3_f _ (by omega) (by omega)).trans ((zup_ne (by omega)).trans ((zup_ne (by omega)).trans (q2_4)))))))
        | 18, _, _ => exact (zup_ne (by omega)).trans ((q4_f _ (by omega) (by omega)).trans ((zup_ne (by omega)).trans ((zup_ne (by omega)).trans (q3_o))))
        | 19, _, _ => exact (zup_ne (by omega)).trans ((q4_f _ (by omega) (by omega)).trans ((zup_ne (by omega)).trans ((zup_ne (by omega)).trans (q3_0))))
        | 20, _, _ => exact (zup_ne (by omega)).trans ((q4_f _ (by omega) (by omega)).trans ((zup_ne (by omega)).trans ((zup_ne (by omega)).trans (q3_1))))
        | 21, _, _ => exact (zup_ne (by omega)).trans ((q4_f _ (by omega) (by omega)).trans ((zup_ne (by omega)).trans ((zup_ne (by omega)).trans (q3_2))))
        | 22, _, _ => exact (zup_ne (by omega)).trans ((q4_f _ (by omega) (by omega)).trans ((zup_ne (by omega)).trans ((zup_ne (by omega)).trans (q3_3))))
        | 23, _, _ => exact (zup_ne (by omega)).trans (q4_o)
        | 24, _, _ => exact (zup_ne (by omega)).trans (q4_0)
        | 25, _, _ => exact (zup_ne (by omega)).trans (q4_1)
        | 26, _, _ => exact (zup_ne (by omega)).trans (q4_2)
        | 27, _, _ => exact (zup_ne (by omega)).trans (q4_3)
        | 28, _, _ => exact ((zup_ne (by omega)).trans (q4_4)).trans (congrArg some (zo28 g X0))
        | k + 29, h, _ => exact absurd (Nat.le_add_left 29 k) h
    · rw [cW_out (by omega)]
      exact (zup_ne (by omega)).trans ((q4_f _ (by omega) (by omega)).trans ((zup_ne (by omega)).trans ((zup_ne (by omega)).trans ((q3_f _ (by omega) (by omega)).trans ((zup_ne (by omega)).trans ((zup_ne (by omega)).trans ((q2_f _ (by omega) (by omega)).trans ((zup_ne (by omega)).trans ((zup_ne (by omega)).trans ((q1_f _ (by omega) (by omega)).trans ((zup_ne (by omega)).trans ((zup_ne (by omega)).trans ((q0_f _ (by omega) (by omega)).trans ((zup_ne (by omega)).trans (rfl)))))))))))))))
  exact V_vret X E (by omega) (by omega) ⟨rfl, rfl⟩ dX5_init_59
