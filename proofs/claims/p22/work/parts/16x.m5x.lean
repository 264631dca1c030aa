/-! ===== would, without of the class, exact ===== -/
set_option maxRecDepth 100000 in
set_option maxHeartbeats 4000000 in
theorem k_X5_would_x {g : zG} {t : Nat × Nat} {X0 : Nat} {σ0 : Nat → Option va_E} {F : Nat → Nat → Int32} (hX : g.2.1.size ≤ X0) {nP nS nA nC nT : Nat} (hI : cI nP nS nA nC nT F) (hG : g.1.stackTraces = false)  (a1 : Int32) (hB : cBd nP nS nA F) : Ct g 21 yX5_would cX5_would 2 (some FieldType.int) 1 6 [.ref (X0 + 0), .int (a1)] (t, cW g X0 F σ0) (fun v σ' => zlt (2 ^ nS) a1 ∧ ∃ x : Int32, v = some (.int x) ∧ mFew (zFC nP nS nA F (nI (2 ^ nS - 1) &&& (a1 ^^^ (-1)))) x ∧ ∃ F' : Nat → Nat → Int32, σ' = (t, cW g X0 F' σ0) ∧ cM F F') (zXP [(zlt (2 ^ nS) a1, RIAE)] zF0 g X0 F σ0) := by
  refine Ct.of (lv := [(0, .ref (X0 + 0)), (1, .int (a1))]) (by decide) (Nat.le_of_ble_eq_true rfl) rfl ?_
  intro κ X E B _
  have X : zX g κ RX5 cX5_would 2 := X
  obtain ⟨b1, b2, b3, b4, b5⟩ := hI.bnd
  have h64 : 2 ^ nS ≤ 64 := zp2 (n := 6) (by omega)
  have h1 := Nat.one_le_two_pow (n := nS)
  refine V_iload_n X dX5_would_0 1 rfl ?_
  refine V_aload_n X dX5_would_1 0 rfl ?_
  refine C_getf X fl_X5_10 0 (by decide) rfl rfl dX5_would_2 ?_
  refine C_getfN (z := nI (nS)) X fl_X5_72 1 (by decide) rfl rfl hI.f1_6 dX5_would_5 ?_
  refine V_callS (rest := []) X E.room ml_X5_63 st_X5_needSet (by decide) (by decide) (k_X5_needSet hG (a1) (nS) (by omega)) rfl rfl (Nat.le_of_ble_eq_true rfl) ⟨Nat.le_of_ble_eq_true rfl, Nat.le_of_ble_eq_true rfl⟩ dX5_would_8 (fun Ex σ' h => VX_out X E (Nat.le_of_ble_eq_true rfl) (Nat.le_of_ble_eq_true rfl) ⟨Or.inl (Or.inl ⟨h.2.1, h.1⟩), σ'.1, F, Prod.ext rfl h.2.2, cM.rfl'⟩) (fun v9 σ' hp9 => ?_)
  obtain ⟨⟨rfl, g0_0⟩, rfl⟩ := hp9
  refine V.shrink B 0 0 (Nat.le_refl _) (Nat.le_refl _) ?_
  obtain ⟨j2, ej2, uj2⟩ := id g0_0
  subst ej2
  show V g κ 2 0 0 (t, cW g X0 F σ0) 11 [(0, .ref (X0 + 0)), (1, .int (nI (j2)))] []
  refine V_aload_n X dX5_would_11 0 rfl ?_
  refine C_getf X fl_X5_26 0 (by decide) rfl rfl dX5_would_12 ?_
  refine V_aload_n X dX5_would_15 0 rfl ?_
  refine C_getf X fl_X5_10 0 (by decide) rfl rfl dX5_would_16 ?_
  refine V_aload_n X dX5_would_19 0 rfl ?_
  refine C_getf X fl_X5_19 0 (by decide) rfl rfl dX5_would_20 ?_
  refine V_aload_n X dX5_would_23 0 rfl ?_
  refine C_getf X fl_X5_10 0 (by decide) rfl rfl dX5_would_24 ?_
  refine V_callV (rest := [.ref (X0 + 7), .ref (X0 + 1), .ref (X0 + 12)]) X E.room ml_X5_251 in_X2_allScenes (ci := 6) rfl se_X2_allScenes (C_recv (q := 1) (by decide) rfl) (by decide) (by decide) (k_X2_allScenes hX hI) rfl rfl (Nat.le_of_ble_eq_true rfl) ⟨Nat.le_of_ble_eq_true rfl, Nat.le_of_ble_eq_true rfl⟩ dX5_would_27 (fun _ _ h => False.elim h) (fun v27 σ' hp27 => ?_)
  obtain ⟨hp27, rfl⟩ := hp27
  cases (hp27 : _ = some (Value.int (nI (2 ^ nS - 1))))
  show V g κ 2 0 0 (t, cW g X0 F σ0) 30 [(0, .ref (X0 + 0)), (1, .int (nI (j2)))] [.int (nI (2 ^ nS - 1)), .ref (X0 + 7), .ref (X0 + 1), .ref (X0 + 12)]
  refine V_iload_n X dX5_would_30 1 rfl ?_
  refine V_iconst (v := (-1)) X dX5_would_31 (by decide) ?_
  refine V_ixor X dX5_would_32 (V.topi (fun w3 ew3 => ?_))
  refine V_iandL X (by omega) dX5_would_33 (fun j4 hj4 ej4 => ?_)
  refine V_callV (rest := []) X E.room ml_X5_254 in_X0_fewest (ci := 4) rfl se_X0_fewest (C_recv (q := 12) (by decide) rfl) (by decide) (by decide) (k_X0_fewest_x hX hI (nI (j4)) hB) rfl rfl (Nat.le_of_ble_eq_true rfl) ⟨Nat.le_of_ble_eq_true rfl, Nat.le_of_ble_eq_true rfl⟩ dX5_would_34 (fun _ _ h => False.elim h) (fun v34 σ' hp34 => ?_)
  obtain ⟨r6, rfl, fr6, F5, rfl, hJF5⟩ := hp34
  have hKF5 : cM F F5 := hJF5.m
  show V g κ 2 0 0 (t, cW g X0 F5 σ0) 37 [(0, .ref (X0 + 0)), (1, .int (nI (j2)))] [.int (r6)]
  exact V_iret X E (Nat.zero_le _) (Nat.zero_le _) ⟨g0_0, _, rfl, by rw [← ew3, ej4]; exact fr6, _, rfl, hKF5⟩ dX5_would_37
set_option maxRecDepth 100000 in
set_option maxHeartbeats 4000000 in
theorem k_X5_without_x {g : zG} {t : Nat × Nat} {X0 : Nat} {σ0 : Nat → Option va_E} {F : Nat → Nat → Int32} (hX : g.2.1.size ≤ X0) {nP nS nA nC nT : Nat} (hI : cI nP nS nA nC nT F) (hG : g.1.stackTraces = false)  (a1 : Int32) (hB : cBd nP nS nA F) : Ct g 21 yX5_without cX5_without 4 (some FieldType.int) 1 6 [.ref (X0 + 0), .int (a1)] (t, cW g X0 F σ0) (fun v σ' => ∃ p : Nat, a1 = nI p ∧ p < nA ∧ ∃ x : Int32, v = some (.int x) ∧ mFew (zFC nP nS nA (fset F 7 5 (F 7 5 ||| nI (2 ^ p))) (nI (2 ^ nS - 1))) x ∧ ∃ F' : Nat → Nat → Int32, σ' = (t, cW g X0 F' σ0) ∧ cM F F') (zXP [(zlt nA a1, RIOB)] zF0 g X0 F σ0) := by
  refine Ct.of (lv := [(0, .ref (X0 + 0)), (1, .int (a1))]) (by decide) (Nat.le_of_ble_eq_true rfl) rfl ?_
  intro κ X E B _
  have X : zX g κ RX5 cX5_without 4 := X
  obtain ⟨b1, b2, b3, b4, b5⟩ := hI.bnd
  refine V_iload_n X dX5_without_0 1 rfl ?_
  refine V_aload_n X dX5_without_1 0 rfl ?_
  refine C_getf X fl_X5_19 0 (by decide) rfl rfl dX5_without_2 ?_
  refine C_getfN (z := nI (nA)) X fl_X5_66 7 (by decide) rfl rfl hI.f7_4 dX5_without_5 ?_
  refine V_callS (rest := []) X E.room ml_X5_79 st_X5_needIndex (by decide) (by decide) (k_X5_needIndex hG (a1) (nA) (by omega)) rfl rfl (Nat.le_of_ble_eq_true rfl) ⟨Nat.le_of_ble_eq_true rfl, Nat.le_of_ble_eq_true rfl⟩ dX5_without_8 (fun Ex σ' h => VX_out X E (Nat.le_of_ble_eq_true rfl) (Nat.le_of_ble_eq_true rfl) ⟨Or.inl (Or.inl ⟨h.2.1, h.1⟩), σ'.1, F, Prod.ext rfl h.2.2, cM.rfl'⟩) (fun v9 σ' hp9 => ?_)
  obtain ⟨⟨rfl, g0_0⟩, rfl⟩ := hp9
  refine V.shrink B 0 0 (Nat.le_refl _) (Nat.le_refl _) ?_
  obtain ⟨j2, ej2, uj2⟩ := id g0_0
  subst ej2
  show V g κ 4 0 0 (t, cW g X0 F σ0) 11 [(0, .ref (X0 + 0)), (1, .int (nI (j2)))] []
  refine V_aload_n X dX5_without_11 0 rfl ?_
  refine C_getf X fl_X5_19 0 (by decide) rfl rfl dX5_without_12 ?_
  refine C_getf X fl_X5_86 7 (by decide) rfl rfl dX5_without_15 (V.topi (fun x3 ex3 => ?_))
  refine V_istore_n X [(2, .int (x3)), (0, .ref (X0 + 0)), (1, .int (nI (j2)))] dX5_without_18 (by decide) rfl ?_
  refine V_aload_n X dX5_without_19 1 rfl ?_
  refine C_getf X fl_X5_19 0 (by decide) rfl rfl dX5_without_20 ?_
  refine V_dup X dX5_without_23 rfl ?_
  refine C_getf X fl_X5_86 7 (by decide) rfl rfl dX5_without_24 (V.topi (fun x4 ex4 => ?_))
  refine V_iconst (v := nI 1) X dX5_without_27 (by decide) ?_
  refine V_iload_n X dX5_without_28 2 rfl ?_
  refine V_ishl1 X (by omega) dX5_without_29 ?_
  refine V_ior X dX5_without_30 (V.topi (fun w5 ew5 => ?_))
  refine C_putf X fl_X5_86 zt_X1 7 (by decide) hX rfl (Nat.le_of_ble_eq_true rfl) rfl rfl rfl rfl rfl dX5_without_31 (fun F6 hF6 => ?_)
  have hBF6 : cBd nP nS nA F6 := hB.mvM (fun k j h => by rw [hF6, fset_ne (by omega)])
  have hIF6 := hI.st hF6 rfl
  refine V_aload_n X dX5_without_34 1 rfl ?_
  refine C_getf X fl_X5_26 0 (by decide) rfl rfl dX5_without_35 ?_
  refine V_aload_n X dX5_without_38 1 rfl ?_
  refine C_getf X fl_X5_10 0 (by decide) rfl rfl dX5_without_39 ?_
  refine V_aload_n X dX5_without_42 1 rfl ?_
  refine C_getf X fl_X5_19 0 (by decide) rfl rfl dX5_without_43 ?_
  refine V_aload_n X dX5_without_46 1 rfl ?_
  refine C_getf X fl_X5_10 0 (by decide) rfl rfl dX5_without_47 ?_
  refine V_callV (rest := [.ref (X0 + 7), .ref (X0 + 1), .ref (X0 + 12)]) X E.room ml_X5_251 in_X2_allScenes (ci := 6) rfl se_X2_allScenes (C_recv (q := 1) (by decide) rfl) (by decide) (by decide) (k_X2_allScenes hX hIF6) rfl rfl (Nat.le_of_ble_eq_true rfl) ⟨Nat.le_of_ble_eq_true rfl, Nat.le_of_ble_eq_true rfl⟩ dX5_without_50 (fun _ _ h => False.elim h) (fun v50 σ' hp50 => ?_)
  obtain ⟨hp50, rfl⟩ := hp50
  cases (hp50 : _ = some (Value.int (nI (2 ^ nS - 1))))
  show V g κ 4 0 0 (t, cW g X0 F6 σ0) 53 [(2, .int (x3)), (0, .ref (X0 + 0)), (1, .int (nI (j2)))] [.int (nI (2 ^ nS - 1)), .ref (X0 + 7), .ref (X0 + 1), .ref (X0 + 12)]
  refine V_callV (rest := []) X E.room ml_X5_254 in_X0_fewest (ci := 4) rfl se_X0_fewest (C_recv (q := 12) (by decide) rfl) (by decide) (by decide) (k_X0_fewest_x hX hIF6 (nI (2 ^ nS - 1)) hBF6) rfl rfl (Nat.le_of_ble_eq_true rfl) ⟨Nat.le_of_ble_eq_true rfl, Nat.le_of_ble_eq_true rfl⟩ dX5_without_53 (fun _ _ h => False.elim h) (fun v53 σ' hp53 => ?_)
  obtain ⟨r8, rfl, fr8, F7, rfl, hJF7⟩ := hp53
  have hKF7 : cM F6 F7 := hJF7.m
  show V g κ 4 0 0 (t, cW g X0 F7 σ0) 56 [(2, .int (x3)), (0, .ref (X0 + 0)), (1, .int (nI (j2)))] [.int (r8)]
  refine V_istore_n X [(3, .int (r8)), (2, .int (x3)), (0, .ref (X0 + 0)), (1, .int (nI (j2)))] dX5_without_56 (by decide) rfl ?_
  refine V_aload_n X dX5_without_57 2 rfl ?_
  refine C_getf X fl_X5_19 0 (by decide) rfl rfl dX5_without_58 ?_
  refine V_iload_n X dX5_without_61 1 rfl ?_
  refine C_putf X fl_X5_86 zt_X1 7 (by decide) hX rfl (Nat.le_of_ble_eq_true rfl) rfl rfl rfl rfl rfl dX5_without_62 (fun F9 hF9 => ?_)
  have hJF9 : cM F F9 := cM.undo hF6 hKF7 hF9 ex3
  refine V_iload_n X dX5_without_65 0 rfl ?_
  exact V_iret X E (Nat.zero_le _) (Nat.zero_le _) ⟨_, rfl, by omega, _, rfl, by rw [← ex4, ← ew5, ← hF6]; exact fr8, _, rfl, hJF9⟩ dX5_without_66
