/-! ===== the law's own methods ===== -/
theorem pBelow (a : Int32) {n : Nat} (h0 : 0 < n) (hn : n < 2 ^ 31) : ∃ j, j < n ∧ (a &&& 2147483647) - (a &&& 2147483647) / nI n * nI n = nI j := by
  obtain ⟨k, hk, e⟩ := pk_andE a (m := 2147483647) 31 (by decide)
  rw [e, pk_rem hk h0 hn]
  exact ⟨_, Nat.mod_lt _ h0, rfl⟩
set_option maxRecDepth 100000 in
set_option maxHeartbeats 4000000 in
theorem k_L_below {g : zG} {σ : zS} (a1 : Int32) (n9 : Nat) (h0 : 0 < n9) (hn : n9 < 2 ^ 31) : Ct g 10 yL_below cL_below 2 (some .int) 0 0 [.int a1, .int (nI n9)] σ (qR (fun v => pN n9 v) σ) zNo := by
  refine Ct.of (lv := [(0, .int a1), (1, .int (nI n9))]) (by decide) (Nat.le_of_ble_eq_true rfl) rfl ?_
  intro κ X E B _
  have X : zX g κ RL cL_below 2 := X
  refine V_iload_n X dL_below_0 0 rfl ?_
  refine V_ldc X cn_L_7 dL_below_1 ?_
  refine V_iand X dL_below_3 ?_
  refine V_iload_n X dL_below_4 1 rfl ?_
  refine V_irem X (nI_ne0 h0 hn) dL_below_5 ?_
  obtain ⟨j, hj, e⟩ := pBelow a1 h0 hn
  exact V_iret X E (Nat.zero_le _) (Nat.zero_le _) ⟨⟨j, hj, congrArg (fun z => some (Value.int z)) e⟩, rfl⟩ dL_below_6
theorem zScr {g : zG} {κ : zC} {own : String} {cc : ByteArray} {nL : Nat} (X : zX g κ own cc nL) : g.2.2.2 8 < g.2.1.size ∧ g.2.2.2 9 ≤ 260 ∧ ∃ xs : Nat → Int32, va_X (g.2.2.2 8) (g.2.2.2 9) xs (zs κ) g.2.1 := X.2.2.2.2.2.2.2.2.2.2.2.2.2.2.2.1
set_option maxRecDepth 100000 in
set_option maxHeartbeats 4000000 in
theorem k_L_excess {g : zG} {t : Nat × Nat} {X0 : Nat} {σ0 : Nat → Option va_E} {F : Nat → Nat → Int32} (hX : g.2.1.size ≤ X0) {nP nS nA nC nT : Nat} (hI : cI nP nS nA nC nT F) (hG : g.1.stackTraces = false) {B9 : Nat} (hV : jV nP nS nA nC nT B9 F) (m : Nat) (hm : m < 2 ^ nP) : Ct g 30 yL_excess cL_excess 4 (some FieldType.int) 1 6 [.ref (X0 + 0), .int (nI (m))] (t, cW g X0 F σ0) (fun v σ' => ∃ x : Int32, v = some (.int x) ∧ zEk (mPm F nA) nP m x ∧ ∃ F' : Nat → Nat → Int32, σ' = (t, cW g X0 F' σ0) ∧ cM F F') zNo := by
  refine Ct.of (lv := [(0, .ref (X0 + 0)), (1, .int (nI (m)))]) (by decide) (Nat.le_of_ble_eq_true rfl) rfl ?_
  intro κ X E B _
  have X : zX g κ RL cL_excess 4 := X
  obtain ⟨b1, b2, b3, b4, b5⟩ := hI.bnd
  have hB := hV.bd
  have hD := hV.db
  have hC := hV.2.1
  have h128 : m < 128 := Nat.lt_of_lt_of_le hm (zp2 (n := 7) b1)
  refine V_iconst (v := nI 0) X dL_excess_0 (by decide) ?_
  refine V_istore_n X [(2, .int (nI (0))), (0, .ref (X0 + 0)), (1, .int (nI (m)))] dL_excess_1 (by decide) rfl ?_
  refine V_iload_n X dL_excess_2 2 rfl ?_
  refine V_istore_n X [(3, .int (nI (m))), (2, .int (nI (0))), (0, .ref (X0 + 0)), (1, .int (nI (m)))] dL_excess_3 (by decide) rfl ?_
  have L4 : ∀ (n4 : Nat) (l4 : Nat) (y4 : Int32) (G4 : Nat → Nat → Int32), n4 = l4 → cM F G4 → l4 < 128 → (∀ q, l4.testBit q = true → m.testBit q = true) → zMk y4 (fun i => ∃ p, p < nP ∧ (m.testBit p = true ∧ ¬ l4.testBit p = true) ∧ mPm F nA i p) → V g κ 4 (0) (0) (t, cW g X0 G4 σ0) 4 [(3, .int (nI (l4))), (2, .int (y4)), (0, .ref (X0 + 0)), (1, .int (nI (m)))] [] := by
    intro n4
    induction n4 using Nat.strongRecOn with
    | ind n4 ih4 =>
      intro l4 y4 G4 hn4 hJ4 hv4_0 hv4_1 hv4_2
      refine V_iload_n X dL_excess_4 0 rfl ?_
      refine V_ifeqN X (by omega) (tgt := 29) dL_excess_5 (by decide) (fun h1 => ?_) (fun h1 => ?_)
      · -- 5 true
        refine V_iload_n X dL_excess_29 3 rfl ?_
        refine V_callS (rest := []) X E.room ml_L_96 st_J6_bitCount_0f7a4 (by omega) (by decide) (k_J6_bitCount_0f7a4 (σ := (t, cW g X0 G4 σ0)) (nI (m))) rfl rfl (Nat.le_of_ble_eq_true rfl) ⟨Nat.le_of_ble_eq_true rfl, Nat.le_of_ble_eq_true rfl⟩ dL_excess_30 (fun _ _ h => False.elim h) (fun v30 σ' hp30 => ?_)
        obtain ⟨hp30, rfl⟩ := hp30
        cases (hp30 : _ = some (Value.int (zbc (nI (m)))))
        show V g κ 4 (0) (0) (t, cW g X0 G4 σ0) 33 [(3, .int (nI (l4))), (2, .int (y4)), (0, .ref (X0 + 0)), (1, .int (nI (m)))] [.int (zbc (nI (m)))]
        refine V_iload_n X dL_excess_33 1 rfl ?_
        refine V_callS (rest := [.int (zbc (nI (m)))]) X E.room ml_L_96 st_J6_bitCount_0f7a4 (by omega) (by decide) (k_J6_bitCount_0f7a4 (σ := (t, cW g X0 G4 σ0)) (y4)) rfl rfl (Nat.le_of_ble_eq_true rfl) ⟨Nat.le_of_ble_eq_true rfl, Nat.le_of_ble_eq_true rfl⟩ dL_excess_34 (fun _ _ h => False.elim h) (fun v34 σ' hp34 => ?_)
        obtain ⟨hp34, rfl⟩ := hp34
        cases (hp34 : _ = some (Value.int (zbc (y4))))
        show V g κ 4 (0) (0) (t, cW g X0 G4 σ0) 37 [(3, .int (nI (l4))), (2, .int (y4)), (0, .ref (X0 + 0)), (1, .int (nI (m)))] [.int (zbc (y4)), .int (zbc (nI (m)))]
        refine V_isub X dL_excess_37 (V.topi (fun w2 ew2 => ?_))
        exact V_iret X E (Nat.zero_le _) (Nat.zero_le _) ⟨_, rfl, pEx_end h1 hv4_2 ew2, _, rfl, hJ4⟩ dL_excess_38
      · -- 5 false
        obtain ⟨pl1, pl2, pl3, -⟩ := pl_low l4 hv4_0 h1
        have pl4 : zctz l4 < nP := pl_lt hm (hv4_1 _ pl3)
        refine V_iload_n X dL_excess_8 1 rfl ?_
        refine V_aload_n X dL_excess_9 2 rfl ?_
        refine V_iload_n X dL_excess_10 0 rfl ?_
        refine V_callS (rest := [.ref (X0 + 0), .int (y4)]) X E.room ml_L_101 st_J6_numberOfTrailingZeros_0f7a4 (by decide) (by decide) (k_J6_numberOfTrailingZeros_0f7a4 (σ := (t, cW g X0 G4 σ0)) (l4) (by omega) (by assumption)) rfl rfl (Nat.le_of_ble_eq_true rfl) ⟨Nat.le_of_ble_eq_true rfl, Nat.le_of_ble_eq_true rfl⟩ dL_excess_11 (fun _ _ h => False.elim h) (fun v11 σ' hp11 => ?_)
        obtain ⟨hp11, rfl⟩ := hp11
        cases (hp11 : _ = some (Value.int (nI (zctz (l4)))))
        show V g κ 4 (0) (0) (t, cW g X0 G4 σ0) 14 [(3, .int (nI (l4))), (2, .int (y4)), (0, .ref (X0 + 0)), (1, .int (nI (m)))] [.int (nI (zctz (l4))), .ref (X0 + 0), .int (y4)]
        refine V_iconst (v := nI 5) X dL_excess_14 (by decide) ?_
        refine V_callV (rest := [.int (y4)]) X E.room ml_L_104 in_X5_ofPart (ci := 7) rfl se_X5_ofPart (C_recv (q := 0) (by decide) rfl) (by decide) (by decide) (k_X5_ofPart hX (hI.mvM hJ4) hG (nI (zctz (l4))) (nI (5)) (hB.mvC hJ4) (hJ4.2 hC)) rfl rfl (Nat.le_of_ble_eq_true rfl) ⟨Nat.le_of_ble_eq_true rfl, Nat.le_of_ble_eq_true rfl⟩ dL_excess_15 (fun _ _ h => False.elim (h.1.elim (fun q => q.elim (fun q => q.1 (⟨_, rfl, by omega⟩)) (fun q => (fun q => q.elim (fun q => q.1 (⟨_, rfl, by omega, by omega⟩)) (fun q => (fun q => q) q.2)) q.2)) id)) (fun v15 σ' hp15 => ?_)
        obtain ⟨p9, w9, ep9, lp9, ew9, lw9, r3, rfl, hrr3, F4, rfl, hJF4⟩ := hp15
        have zp9 : zctz (l4) = p9 := (nI_eq (by omega) (by omega)).mp ep9
        subst zp9
        have zw9 : 5 = w9 := (nI_eq (by omega) (by omega)).mp ew9
        subst zw9
        have hvr3 : cPt nP nS nA F (zctz (l4)) (5) (r3) := by have z : cPt nP nS nA G4 (zctz (l4)) (5) (r3) := hrr3; rw [cPt_W (hJ4).1] at z; exact z
        have hKF4 : cM F F4 := hJ4.trans hJF4
        refine V.shrink B 0 0 (Nat.le_refl _) (Nat.le_refl _) ?_
        show V g κ 4 (0) (0) (t, cW g X0 F4 σ0) 18 [(3, .int (nI (l4))), (2, .int (y4)), (0, .ref (X0 + 0)), (1, .int (nI (m)))] [.int (r3), .int (y4)]
        refine V_ior X dL_excess_18 (V.topi (fun w5 ew5 => ?_))
        refine V_istore_n X [(2, .int (w5)), (3, .int (nI (l4))), (0, .ref (X0 + 0)), (1, .int (nI (m)))] dL_excess_19 (by decide) rfl ?_
        refine V_iload_n X dL_excess_20 1 rfl ?_
        refine V_iload_n X dL_excess_21 1 rfl ?_
        refine V_iconst (v := nI 1) X dL_excess_22 (by decide) ?_
        refine V_isubN X (by omega) dL_excess_23 ?_
        refine V_iand X dL_excess_24 ?_
        rw [pl_and l4 hv4_0 h1]
        show V g κ 4 (0) (0) (t, cW g X0 F4 σ0) 25 [(2, .int (w5)), (3, .int (nI (l4))), (0, .ref (X0 + 0)), (1, .int (nI (m)))] [.int (nI (l4 &&& (l4 - 1)))]
        refine V_istore_n X [(3, .int (nI (l4 &&& (l4 - 1)))), (2, .int (w5)), (0, .ref (X0 + 0)), (1, .int (nI (m)))] dL_excess_25 (by decide) rfl ?_
        refine V_goto (tgt := 4) X dL_excess_26 (by decide) ?_
        exact V.sub [0, 1, 2, 3] rfl (ih4 _ (by omega) (l4 &&& (l4 - 1)) (w5) F4 rfl hKF4 (Nat.lt_of_le_of_lt Nat.and_le_left hv4_0) (fun q h => hv4_1 q (by rw [Nat.testBit_and, Bool.and_eq_true] at h; exact h.1)) (pEx_step b1 hv4_0 h1 hv4_1 pl4 hv4_2 (cPt_5 hvr3) ew5))
  exact L4 _ (m) (nI 0) F rfl cM.rfl' (h128) (fun _ h => h) (pEx_0)
set_option maxRecDepth 100000 in
set_option maxHeartbeats 4000000 in
theorem k_L_isFilled {g : zG} {t : Nat × Nat} {X0 : Nat} {σ0 : Nat → Option va_E} {F : Nat → Nat → Int32} (hX : g.2.1.size ≤ X0) {nP nS nA nC nT : Nat} (hI : cI nP nS nA nC nT F) (hG : g.1.stackTraces = false) {B9 : Nat} (hV : jV nP nS nA nC nT B9 F) (p : Nat) (hp : p < nS) : Ct g 31 yL_isFilled cL_isFilled 6 (some FieldType.boolean) 1 6 [.ref (X0 + 0), .int (nI (p))] (t, cW g X0 F σ0) (fun v σ' => v = some (.int (nI 1)) ∧ ∃ F' : Nat → Nat → Int32, σ' = (t, cW g X0 F' σ0) ∧ cM F F') zNo := by
  refine Ct.of (lv := [(0, .ref (X0 + 0)), (1, .int (nI (p)))]) (by decide) (Nat.le_of_ble_eq_true rfl) rfl ?_
  intro κ X E B _
  have X : zX g κ RL cL_isFilled 6 := X
  obtain ⟨b1, b2, b3, b4, b5⟩ := hI.bnd
  have hB := hV.bd
  have hD := hV.db
  have hC := hV.2.1
  obtain ⟨m, hm, em⟩ := hB.2.2 p hp
  have h128 : m < 128 := Nat.lt_of_lt_of_le hm (zp2 (n := 7) b1)
  refine V_aload_n X dL_isFilled_0 0 rfl ?_
  refine V_iload_n X dL_isFilled_1 1 rfl ?_
  refine V_iconst (v := nI 0) X dL_isFilled_2 (by decide) ?_
  refine V_callV (rest := []) X E.room ml_L_89 in_X5_ofScene (ci := 7) rfl se_X5_ofScene (C_recv (q := 0) (by decide) rfl) (by decide) (by decide) (k_X5_ofScene hX hI hG (nI (p)) (nI (0)) hD hB hC) rfl rfl (Nat.le_of_ble_eq_true rfl) ⟨Nat.le_of_ble_eq_true rfl, Nat.le_of_ble_eq_true rfl⟩ dL_isFilled_3 (fun _ _ h => False.elim (h.1.elim (fun q => q.elim (fun q => q.1 (⟨_, rfl, by omega⟩)) (fun q => (fun q => q.elim (fun q => q.1 (⟨_, rfl, by omega, by omega⟩)) (fun q => (fun q => q) q.2)) q.2)) id)) (fun v3 σ' hp3 => ?_)
  obtain ⟨p9, w9, ep9, lp9, ew9, lw9, r1, rfl, hrr1, F2, rfl, hJF2⟩ := hp3
  have zp9 : p = p9 := (nI_eq (by omega) (by omega)).mp ep9
  subst zp9
  have zw9 : 0 = w9 := (nI_eq (by omega) (by omega)).mp ew9
  subst zw9
  have hvr1 : cSc nP nS nA nC F (p) (0) (r1) := hrr1
  have hKF2 : cM F F2 := hJF2
  refine V.shrink B 0 0 (Nat.le_refl _) (Nat.le_refl _) ?_
  show V g κ 6 (0) (0) (t, cW g X0 F2 σ0) 6 [(0, .ref (X0 + 0)), (1, .int (nI (p)))] [.int (r1)]
  obtain rfl : r1 = nI m := (cSc_0 hvr1).trans em
  show V g κ 6 (0) (0) (t, cW g X0 F2 σ0) 6 [(0, .ref (X0 + 0)), (1, .int (nI (p)))] [.int (nI (m))]
  refine V_istore_n X [(2, .int (nI (m))), (0, .ref (X0 + 0)), (1, .int (nI (p)))] dL_isFilled_6 (by decide) rfl ?_
  refine V_aload_n X dL_isFilled_7 1 rfl ?_
  refine V_iload_n X dL_isFilled_8 2 rfl ?_
  refine V_iconst (v := nI 3) X dL_isFilled_9 (by decide) ?_
  refine V_callV (rest := []) X E.room ml_L_89 in_X5_ofScene (ci := 7) rfl se_X5_ofScene (C_recv (q := 0) (by decide) rfl) (by decide) (by decide) (k_X5_ofScene hX (hI.mvM hKF2) hG (nI (p)) (nI (3)) (hD.mvC hKF2) (hB.mvC hKF2) (hKF2.2 hC)) rfl rfl (Nat.le_of_ble_eq_true rfl) ⟨Nat.le_of_ble_eq_true rfl, Nat.le_of_ble_eq_true rfl⟩ dL_isFilled_10 (fun _ _ h => False.elim (h.1.elim (fun q => q.elim (fun q => q.1 (⟨_, rfl, by omega⟩)) (fun q => (fun q => q.elim (fun q => q.1 (⟨_, rfl, by omega, by omega⟩)) (fun q => (fun q => q) q.2)) q.2)) id)) (fun v10 σ' hp10 => ?_)
  obtain ⟨p9, w9, ep9, lp9, ew9, lw9, r3, rfl, hrr3, F4, rfl, hJF4⟩ := hp10
  have zp9 : p = p9 := (nI_eq (by omega) (by omega)).mp ep9
  subst zp9
  have zw9 : 3 = w9 := (nI_eq (by omega) (by omega)).mp ew9
  subst zw9
  have hvr3 : cSc nP nS nA nC F (p) (3) (r3) := by have z : cSc nP nS nA nC F2 (p) (3) (r3) := hrr3; rw [cSc_W (hKF2).1] at z; exact z
  have hKF4 : cM F F4 := hKF2.trans hJF4
  refine V.shrink B 0 0 (Nat.le_refl _) (Nat.le_refl _) ?_
  show V g κ 6 (0) (0) (t, cW g X0 F4 σ0) 13 [(2, .int (nI (m))), (0, .ref (X0 + 0)), (1, .int (nI (p)))] [.int (r3)]
  obtain ⟨m3, c3, e3, hm3, em3, rfl, hl3⟩ := cSc_3 hvr3
  obtain rfl : m3 = m := pm_m b1 hm em hm3 em3
  have hc3 : c3 ≤ m := by have := hl3.2.1; omega
  show V g κ 6 (0) (0) (t, cW g X0 F4 σ0) 13 [(2, .int (nI (m))), (0, .ref (X0 + 0)), (1, .int (nI (p)))] [.int (nI (c3))]
  refine V_istore_n X [(3, .int (nI (c3))), (2, .int (nI (m))), (0, .ref (X0 + 0)), (1, .int (nI (p)))] dL_isFilled_13 (by decide) rfl ?_
  refine V_iconst (v := nI 0) X dL_isFilled_14 (by decide) ?_
  refine V_istore X [(4, .int (nI (0))), (3, .int (nI (c3))), (2, .int (nI (m))), (0, .ref (X0 + 0)), (1, .int (nI (p)))] dL_isFilled_15 (by decide) rfl ?_
  refine V_iconst (v := nI 0) X dL_isFilled_17 (by decide) ?_
  refine V_istore X [(5, .int (nI (0))), (4, .int (nI (0))), (3, .int (nI (c3))), (2, .int (nI (m))), (0, .ref (X0 + 0)), (1, .int (nI (p)))] dL_isFilled_18 (by decide) rfl ?_
  have L20 : ∀ (n20 : Nat) (i20 : Nat) (x20_4 : Int32) (G20 : Nat → Nat → Int32), n20 = (m + 1) - i20 → i20 ≤ (m + 1) → cM F G20 → ∃ c, zLk (zEk (mPm F nA) nP) m i20 c x20_4 → V g κ 6 (0) (0) (t, cW g X0 G20 σ0) 20 [(5, .int (nI (i20))), (4, .int (x20_4)), (3, .int (nI (c3))), (2, .int (nI (m))), (0, .ref (X0 + 0)), (1, .int (nI (p)))] [] := by
    intro n20
    induction n20 using Nat.strongRecOn with
    | ind n20 ih20 =>
      intro i20 x20_4 G20 hn20 hi20 hJ20 hv20_0
      refine V_iload X dL_isFilled_20 0 rfl ?_
      refine V_iload_n X dL_isFilled_22 3 rfl ?_
      refine V_icmpgtN X (by omega) (by omega) (tgt := 54) dL_isFilled_23 (by decide) (fun h5 => ?_) (fun h5 => ?_)
      · -- 23 true
        obtain ⟨c9, k9⟩ := hv20_0
        have k9 : zLk (zEk (mPm F nA) nP) m (m + 1) c9 x20_4 := by have z := k9; rw [show i20 = m + 1 by omega] at z; exact z
        obtain ⟨q1, q2⟩ := zLk_un hl3 k9
        subst q1
        have q2 := q2.symm
        subst q2
        refine V_iload_n X dL_isFilled_54 2 rfl ?_
        refine V_iload_n X dL_isFilled_55 3 rfl ?_
        refine V_iconst (v := (-1)) X dL_isFilled_56 (by decide) ?_
        refine V_ixor X dL_isFilled_57 (V.topi (fun w6 ew6 => ?_))
        refine V_iandL X (by omega) dL_isFilled_58 (fun j7 hj7 ej7 => ?_)
        refine V_ifneN X (by omega) (tgt := 117) dL_isFilled_59 (by decide) (fun h8 => absurd h8 (not_not_intro ((zSb_iff ej7 ew6 (by omega)).mp hl3.2.2.1))) (fun h8 => ?_)
        refine V_aload_n X dL_isFilled_62 4 rfl ?_
        refine V_iload_n X dL_isFilled_63 2 rfl ?_
        refine V_callS (rest := []) X E.room ml_L_92 st_L_excess (by decide) (by decide) (k_L_excess hX (hI.mvM hJ20) hG (hV.mv hJ20) (c3) (by omega)) rfl rfl (Nat.le_of_ble_eq_true rfl) ⟨Nat.le_of_ble_eq_true rfl, Nat.le_of_ble_eq_true rfl⟩ dL_isFilled_64 (fun _ _ h => False.elim h) (fun v64 σ' hp64 => ?_)
        obtain ⟨r9, rfl, hrr9, F10, rfl, hJF10⟩ := hp64
        have hvr9 : zEk (mPm F nA) nP (c3) r9 := by have z := hrr9; rw [mPm_W (hJ20).1] at z; exact z
        have hKF10 : cM F F10 := hJ20.trans hJF10
        refine V.shrink B 0 0 (Nat.le_refl _) (Nat.le_refl _) ?_
        show V g κ 6 (0) (0) (t, cW g X0 F10 σ0) 67 [(5, .int (nI (i20))), (4, .int (x20_4)), (3, .int (nI (c3))), (2, .int (nI (m))), (0, .ref (X0 + 0)), (1, .int (nI (p)))] [.int (r9)]
        refine V_iload X dL_isFilled_67 1 rfl ?_
        refine V_icmpne X (tgt := 117) dL_isFilled_69 (by decide) (fun h11 => absurd h11 (not_not_intro (zEk_un hvr9 hl3.1))) (fun h11 => ?_)
        refine V_aload_n X dL_isFilled_72 4 rfl ?_
        refine V_iload_n X dL_isFilled_73 5 rfl ?_
        refine V_iconst (v := nI 4) X dL_isFilled_74 (by decide) ?_
        refine V_callV (rest := []) X E.room ml_L_89 in_X5_ofScene (ci := 7) rfl se_X5_ofScene (C_recv (q := 0) (by decide) rfl) (by decide) (by decide) (k_X5_ofScene hX (hI.mvM hKF10) hG (nI (p)) (nI (4)) (hD.mvC hKF10) (hB.mvC hKF10) (hKF10.2 hC)) rfl rfl (Nat.le_of_ble_eq_true rfl) ⟨Nat.le_of_ble_eq_true rfl, Nat.le_of_ble_eq_true rfl⟩ dL_isFilled_75 (fun _ _ h => False.elim (h.1.elim (fun q => q.elim (fun q => q.1 (⟨_, rfl, by omega⟩)) (fun q => (fun q => q.elim (fun q => q.1 (⟨_, rfl, by omega, by omega⟩)) (fun q => (fun q => q) q.2)) q.2)) id)) (fun v75 σ' hp75 => ?_)
        obtain ⟨p9, w9, ep9, lp9, ew9, lw9, r12, rfl, hrr12, F13, rfl, hJF13⟩ := hp75
        have zp9 : p = p9 := (nI_eq (by omega) (by omega)).mp ep9
        subst zp9
        have zw9 : 4 = w9 := (nI_eq (by omega) (by omega)).mp ew9
        subst zw9
        have hvr12 : cSc nP nS nA nC F (p) (4) (r12) := by have z : cSc nP nS nA nC F10 (p) (4) (r12) := hrr12; rw [cSc_W (hKF10).1] at z; exact z
        have hKF13 : cM F F13 := hKF10.trans hJF13
        refine V.shrink B 0 0 (Nat.le_refl _) (Nat.le_refl _) ?_
        show V g κ 6 (0) (0) (t, cW g X0 F13 σ0) 78 [(5, .int (nI (i20))), (4, .int (x20_4)), (3, .int (nI (c3))), (2, .int (nI (m))), (0, .ref (X0 + 0)), (1, .int (nI (p)))] [.int (r12)]
        refine V_iload X dL_isFilled_78 1 rfl ?_
        refine V_icmpne X (tgt := 117) dL_isFilled_80 (by decide) (fun h14 => absurd h14 (not_not_intro (cSc_4e b1 hm em hl3 hvr12))) (fun h14 => ?_)
        refine V_aload_n X dL_isFilled_83 4 rfl ?_
        refine V_iload_n X dL_isFilled_84 5 rfl ?_
        refine V_iconst (v := nI 2) X dL_isFilled_85 (by decide) ?_
        refine V_callV (rest := []) X E.room ml_L_89 in_X5_ofScene (ci := 7) rfl se_X5_ofScene (C_recv (q := 0) (by decide) rfl) (by decide) (by decide) (k_X5_ofScene hX (hI.mvM hKF13) hG (nI (p)) (nI (2)) (hD.mvC hKF13) (hB.mvC hKF13) (hKF13.2 hC)) rfl rfl (Nat.le_of_ble_eq_true rfl) ⟨Nat.le_of_ble_eq_true rfl, Nat.le_of_ble_eq_true rfl⟩ dL_isFilled_86 (fun _ _ h => False.elim (h.1.elim (fun q => q.elim (fun q => q.1 (⟨_, rfl, by omega⟩)) (fun q => (fun q => q.elim (fun q => q.1 (⟨_, rfl, by omega, by omega⟩)) (fun q => (fun q => q) q.2)) q.2)) id)) (fun v86 σ' hp86 => ?_)
        obtain ⟨p9, w9, ep9, lp9, ew9, lw9, r15, rfl, hrr15, F16, rfl, hJF16⟩ := hp86
        have zp9 : p = p9 := (nI_eq (by omega) (by omega)).mp ep9
        subst zp9
        have zw9 : 2 = w9 := (nI_eq (by omega) (by omega)).mp ew9
        subst zw9
        have hvr15 : cSc nP nS nA nC F (p) (2) (r15) := by have z : cSc nP nS nA nC F13 (p) (2) (r15) := hrr15; rw [cSc_W (hKF13).1] at z; exact z
        have hKF16 : cM F F16 := hKF13.trans hJF16
        refine V.shrink B 0 0 (Nat.le_refl _) (Nat.le_refl _) ?_
        show V g κ 6 (0) (0) (t, cW g X0 F16 σ0) 89 [(5, .int (nI (i20))), (4, .int (x20_4)), (3, .int (nI (c3))), (2, .int (nI (m))), (0, .ref (X0 + 0)), (1, .int (nI (p)))] [.int (r15)]
        refine V_iload_n X dL_isFilled_89 3 rfl ?_
        refine V_callS (rest := [.int (r15)]) X E.room ml_L_96 st_J6_bitCount_0f7a4 (by omega) (by decide) (k_J6_bitCount_0f7a4 (σ := (t, cW g X0 F16 σ0)) (nI (m))) rfl rfl (Nat.le_of_ble_eq_true rfl) ⟨Nat.le_of_ble_eq_true rfl, Nat.le_of_ble_eq_true rfl⟩ dL_isFilled_90 (fun _ _ h => False.elim h) (fun v90 σ' hp90 => ?_)
        obtain ⟨hp90, rfl⟩ := hp90
        cases (hp90 : _ = some (Value.int (zbc (nI (m)))))
        show V g κ 6 (0) (0) (t, cW g X0 F16 σ0) 93 [(5, .int (nI (i20))), (4, .int (x20_4)), (3, .int (nI (c3))), (2, .int (nI (m))), (0, .ref (X0 + 0)), (1, .int (nI (p)))] [.int (zbc (nI (m))), .int (r15)]
        refine V_iload X dL_isFilled_93 1 rfl ?_
        refine V_isub X dL_isFilled_95 (V.topi (fun w17 ew17 => ?_))
        refine V_icmpne X (tgt := 117) dL_isFilled_96 (by decide) (fun h18 => absurd h18 (not_not_intro ((cSc_2e b1 b3 hm em hl3 hvr15).trans ew17.symm))) (fun h18 => ?_)
        refine V_aload_n X dL_isFilled_99 4 rfl ?_
        refine V_iload_n X dL_isFilled_100 5 rfl ?_
        refine V_iconst (v := nI 2) X dL_isFilled_101 (by decide) ?_
        refine V_callV (rest := []) X E.room ml_L_89 in_X5_ofScene (ci := 7) rfl se_X5_ofScene (C_recv (q := 0) (by decide) rfl) (by decide) (by decide) (k_X5_ofScene hX (hI.mvM hKF16) hG (nI (p)) (nI (2)) (hD.mvC hKF16) (hB.mvC hKF16) (hKF16.2 hC)) rfl rfl (Nat.le_of_ble_eq_true rfl) ⟨Nat.le_of_ble_eq_true rfl, Nat.le_of_ble_eq_true rfl⟩ dL_isFilled_102 (fun _ _ h => False.elim (h.1.elim (fun q => q.elim (fun q => q.1 (⟨_, rfl, by omega⟩)) (fun q => (fun q => q.elim (fun q => q.1 (⟨_, rfl, by omega, by omega⟩)) (fun q => (fun q => q) q.2)) q.2)) id)) (fun v102 σ' hp102 => ?_)
        obtain ⟨p9, w9, ep9, lp9, ew9, lw9, r19, rfl, hrr19, F20, rfl, hJF20⟩ := hp102
        have zp9 : p = p9 := (nI_eq (by omega) (by omega)).mp ep9
        subst zp9
        have zw9 : 2 = w9 := (nI_eq (by omega) (by omega)).mp ew9
        subst zw9
        have hvr19 : cSc nP nS nA nC F (p) (2) (r19) := by have z : cSc nP nS nA nC F16 (p) (2) (r19) := hrr19; rw [cSc_W (hKF16).1] at z; exact z
        have hKF20 : cM F F20 := hKF16.trans hJF20
        refine V.shrink B 0 0 (Nat.le_refl _) (Nat.le_refl _) ?_
        show V g κ 6 (0) (0) (t, cW g X0 F20 σ0) 105 [(5, .int (nI (i20))), (4, .int (x20_4)), (3, .int (nI (c3))), (2, .int (nI (m))), (0, .ref (X0 + 0)), (1, .int (nI (p)))] [.int (r19)]
        refine V_aload_n X dL_isFilled_105 4 rfl ?_
        refine V_iconst (v := nI 2) X dL_isFilled_106 (by decide) ?_
        refine V_callV (rest := [.int (r19)]) X E.room ml_L_38 in_X5_house (ci := 7) rfl se_X5_house (C_recv (q := 0) (by decide) rfl) (by decide) (by decide) (k_X5_house hX (hI.mvM hKF20) hG (nI (2)) (hB.mvC hKF20) (hKF20.2 hC)) rfl rfl (Nat.le_of_ble_eq_true rfl) ⟨Nat.le_of_ble_eq_true rfl, Nat.le_of_ble_eq_true rfl⟩ dL_isFilled_107 (fun _ _ h => False.elim (h.1.elim (fun q => q.elim (fun q => q.1 (⟨_, rfl, by omega, by omega⟩)) (fun q => (fun q => q) q.2)) id)) (fun v107 σ' hp107 => ?_)
        obtain ⟨w9, ew9, lw9, r21, rfl, hrr21, F22, rfl, hJF22⟩ := hp107
        have zw9 : 2 = w9 := (nI_eq (by omega) (by omega)).mp ew9
        subst zw9
        have hvr21 : cHo nP nS nA nC nT F (2) (r21) := by have z : cHo nP nS nA nC nT F20 (2) (r21) := hrr21; rw [cHo_W (hKF20).1] at z; exact z
        have hKF22 : cM F F22 := hKF20.trans hJF22
        refine V.shrink B 0 0 (Nat.le_refl _) (Nat.le_refl _) ?_
        show V g κ 6 (0) (0) (t, cW g X0 F22 σ0) 110 [(5, .int (nI (i20))), (4, .int (x20_4)), (3, .int (nI (c3))), (2, .int (nI (m))), (0, .ref (X0 + 0)), (1, .int (nI (p)))] [.int (r21), .int (r19)]
        refine V_icmpgt X (tgt := 117) dL_isFilled_110 (by decide) (fun h23 => absurd h23 (cSc_2le b1 b3 (hV.2.2.2.2.2.2.2.2.2.2.2.2.2.2.2.2.2.1) hvr19 hvr21)) (fun h23 => ?_)
        refine V_iconst (v := nI 1) X dL_isFilled_113 (by decide) ?_
        refine V_goto (tgt := 118) X dL_isFilled_114 (by decide) ?_
        exact V_zret X E (zbool z01_1) (Nat.zero_le _) (Nat.zero_le _) ⟨rfl, _, rfl, hKF22⟩ dL_isFilled_118
      · -- 23 false
        refine V_iload X dL_isFilled_26 0 rfl ?_
        refine V_iload_n X dL_isFilled_28 3 rfl ?_
        refine V_iconst (v := (-1)) X dL_isFilled_29 (by decide) ?_
        refine V_ixor X dL_isFilled_30 (V.topi (fun w24 ew24 => ?_))
        refine V_iandL X (by omega) dL_isFilled_31 (fun j25 hj25 ej25 => ?_)
        refine V_ifneN X (by omega) (tgt := 48) dL_isFilled_32 (by decide) (fun h26 => ?_) (fun h26 => ?_)
        · -- 32 true
          refine V_iinc X (nI (i20 + 1)) [(5, .int (nI (i20 + 1))), (4, .int (x20_4)), (3, .int (nI (c3))), (2, .int (nI (m))), (0, .ref (X0 + 0)), (1, .int (nI (p)))] dL_isFilled_48 0 rfl (zinc _) (by decide) rfl ?_
          refine V_goto (tgt := 20) X dL_isFilled_51 (by decide) ?_
          exact V.sub [0, 1, 2, 3, 4, 5] rfl (ih20 _ (by omega) (i20 + 1) x20_4 G20 rfl (by omega) hJ20 (pMx_skip hv20_0 (fun z => h26 ((zSb_iff ej25 ew24 (by omega)).mp z))))
        · -- 32 false
          have hs20 : zSb i20 m := (zSb_iff ej25 ew24 (by omega)).mpr h26
          refine V_iload X dL_isFilled_35 1 rfl ?_
          refine V_aload_n X dL_isFilled_37 4 rfl ?_
          refine V_iload X dL_isFilled_38 0 rfl ?_
          refine V_callS (rest := [.int (x20_4)]) X E.room ml_L_92 st_L_excess (by decide) (by decide) (k_L_excess hX (hI.mvM hJ20) hG (hV.mv hJ20) (i20) (by omega)) rfl rfl (Nat.le_of_ble_eq_true rfl) ⟨Nat.le_of_ble_eq_true rfl, Nat.le_of_ble_eq_true rfl⟩ dL_isFilled_40 (fun _ _ h => False.elim h) (fun v40 σ' hp40 => ?_)
          obtain ⟨r27, rfl, hrr27, F28, rfl, hJF28⟩ := hp40
          have hvr27 : zEk (mPm F nA) nP (i20) r27 := by have z := hrr27; rw [mPm_W (hJ20).1] at z; exact z
          have hKF28 : cM F F28 := hJ20.trans hJF28
          refine V.shrink B 0 0 (Nat.le_refl _) (Nat.le_refl _) ?_
          show V g κ 6 (0) (0) (t, cW g X0 F28 σ0) 43 [(5, .int (nI (i20))), (4, .int (x20_4)), (3, .int (nI (c3))), (2, .int (nI (m))), (0, .ref (X0 + 0)), (1, .int (nI (p)))] [.int (r27), .int (x20_4)]
          refine V_mmax X E.room (Nat.le_refl _) (Nat.le_refl _) (by decide) ml_L_42 st_J9_max_7cf53 rfl rfl (Nat.le_of_ble_eq_true rfl) dL_isFilled_43 (V.topi (fun w29 ew29 => ?_))
          refine V_istore X [(4, .int (w29)), (5, .int (nI (i20))), (3, .int (nI (c3))), (2, .int (nI (m))), (0, .ref (X0 + 0)), (1, .int (nI (p)))] dL_isFilled_46 (by decide) rfl ?_
          refine V_iinc X (nI (i20 + 1)) [(5, .int (nI (i20 + 1))), (4, .int (w29)), (3, .int (nI (c3))), (2, .int (nI (m))), (0, .ref (X0 + 0)), (1, .int (nI (p)))] dL_isFilled_48 1 rfl (zinc _) (by decide) rfl ?_
          refine V_goto (tgt := 20) X dL_isFilled_51 (by decide) ?_
          exact V.sub [0, 1, 2, 3, 4, 5] rfl (ih20 _ (by omega) (i20 + 1) w29 F28 rfl (by omega) hKF28 (pMx hv20_0 hvr27 hs20 ew29))
  exact L20 _ 0 (nI (0)) F4 rfl (by omega) hKF4 (pMx_0)
