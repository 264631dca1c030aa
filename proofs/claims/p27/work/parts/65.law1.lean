/-! ===== the law's own methods ===== -/
theorem pBelow (a : Int32) {n : Nat} (h0 : 0 < n) (hn : n < 2 ^ 31) : ∃ j, j < n ∧ (a &&& 2147483647) - (a &&& 2147483647) / nI n * nI n = nI j := by
  obtain ⟨k, hk, e⟩ := pk_andE a (m := 2147483647) 31 (by decide)
  rw [e, pk_rem hk h0 hn]
  exact ⟨_, Nat.mod_lt _ h0, rfl⟩
set_option maxRecDepth 100000 in
set_option maxHeartbeats 4000000 in
theorem k_L_below {g : zG} {σ : zS} (a1 : Int32) (n9 : Nat) (h0 : 0 < n9) (hn : n9 < 2 ^ 31) : Ct g 10 yL_below cL_below 2 (some .int) 0 0 [.int a1, .int (nI n9)] σ (qR (fun v => pN n9 v) σ) zNo := by
  refine Ct.of (lv := [(0, .int a1), (1, .int (nI n9))]) (by decide) (Nat.le_of_ble_eq_true rfl) rfl ?_
  intro κ X E B _
  have X : zX g κ RL cL_below 2 := X
  refine V_iload_n X dL_below_0 0 rfl ?_
  refine V_ldc X cn_L_7 dL_below_1 ?_
  refine V_iand X dL_below_3 ?_
  refine V_iload_n X dL_below_4 1 rfl ?_
  refine V_irem X (nI_ne0 h0 hn) dL_below_5 ?_
  obtain ⟨j, hj, e⟩ := pBelow a1 h0 hn
  exact V_iret X E (Nat.zero_le _) (Nat.zero_le _) ⟨⟨j, hj, congrArg (fun z => some (Value.int z)) e⟩, rfl⟩ dL_below_6
theorem zScr {g : zG} {κ : zC} {own : String} {cc : ByteArray} {nL : Nat} (X : zX g κ own cc nL) : g.2.2.2 8 < g.2.1.size ∧ g.2.2.2 9 ≤ 260 ∧ ∃ xs : Nat → Int32, va_X (g.2.2.2 8) (g.2.2.2 9) xs (zs κ) g.2.1 := X.2.2.2.2.2.2.2.2.2.2.2.2.2.2.2.1
set_option maxRecDepth 100000 in
set_option maxHeartbeats 4000000 in
theorem k_L_cell {g : zG} {σ : zS} (k9 : Nat) (hk : k9 < 2 ^ 30) : Ct g 10 yL_cell cL_cell 2 (some .int) 0 0 [.ref (g.2.2.2 8), .int (nI k9)] σ (qR pI σ) zNo := by
  refine Ct.of (lv := [(0, .ref (g.2.2.2 8)), (1, .int (nI k9))]) (by decide) (Nat.le_of_ble_eq_true rfl) rfl ?_
  intro κ X E B _
  have X : zX g κ RL cL_cell 2 := X
  obtain ⟨hb, hL, xs, hXs⟩ := zScr X
  have hL : @LE.le Nat instLENat (g.2.2.2 9) 260 := hL
  have go : ∀ x : Int32, V g κ 2 0 0 σ 18 [(0, .ref (g.2.2.2 8)), (1, .int (nI k9))] [.int x] := fun x => V_iret X E (Nat.zero_le _) (Nat.zero_le _) ⟨⟨_, rfl⟩, rfl⟩ dL_cell_18
  refine V_iload_n X dL_cell_0 1 rfl ?_
  refine V_aload_n X dL_cell_1 0 rfl ?_
  refine V_slen X hXs hb dL_cell_2 ?_
  refine V_icmpgeN X (by omega) (by omega) (tgt := 12) dL_cell_3 (by decide) (fun h => ?_) (fun h => ?_)
  · refine V_ldc X cn_L_8 dL_cell_12 ?_
    refine V_iload_n X dL_cell_14 1 rfl ?_
    refine V_iconst (v := nI 3) X dL_cell_15 (by decide) ?_
    refine V_iadd X dL_cell_16 ?_
    refine V_imul X dL_cell_17 ?_
    exact go _
  · refine V_aload_n X dL_cell_6 0 rfl ?_
    refine V_iload_n X dL_cell_7 1 rfl ?_
    refine V_sld X hXs hb (vp_in_nI (by omega) (by omega)) dL_cell_8 ?_
    refine V_goto (tgt := 18) X dL_cell_9 (by decide) ?_
    exact go _
set_option maxRecDepth 100000 in
set_option maxHeartbeats 4000000 in
theorem k_L_excess {g : zG} {t : Nat × Nat} {X0 : Nat} {σ0 : Nat → Option va_E} {F : Nat → Nat → Int32} (hX : g.2.1.size ≤ X0) {nP nS nA nC nT : Nat} (hI : cI nP nS nA nC nT F) (hG : g.1.stackTraces = false) {B9 : Nat} (hV : jV nP nS nA nC nT B9 F) (m : Nat) (hm : m < 2 ^ nP) : Ct g 30 yL_excess cL_excess 4 (some FieldType.int) 1 6 [.ref (X0 + 0), .int (nI (m))] (t, cW g X0 F σ0) (fun v σ' => ∃ x : Int32, v = some (.int x) ∧ zEk (mPm F nA) nP m x ∧ ∃ F' : Nat → Nat → Int32, σ' = (t, cW g X0 F' σ0) ∧ cM F F') zNo := by
  refine Ct.of (lv := [(0, .ref (X0 + 0)), (1, .int (nI (m)))]) (by decide) (Nat.le_of_ble_eq_true rfl) rfl ?_
  intro κ X E B _
  have X : zX g κ RL cL_excess 4 := X
  obtain ⟨b1, b2, b3, b4, b5⟩ := hI.bnd
  have hB := hV.bd
  have hD := hV.db
  have hC := hV.2.1
  have h128 : m < 128 := Nat.lt_of_lt_of_le hm (zp2 (n := 7) b1)
  refine V_iconst (v := nI 0) X dL_excess_0 (by decide) ?_
  refine V_istore_n X [(2, .int (nI (0))), (0, .ref (X0 + 0)), (1, .int (nI (m)))] dL_excess_1 (by decide) rfl ?_
  refine V_iload_n X dL_excess_2 2 rfl ?_
  refine V_istore_n X [(3, .int (nI (m))), (2, .int (nI (0))), (0, .ref (X0 + 0)), (1, .int (nI (m)))] dL_excess_3 (by decide) rfl ?_
  have L4 : ∀ (n4 : Nat) (l4 : Nat) (y4 : Int32) (G4 : Nat → Nat → Int32), n4 = l4 → cM F G4 → l4 < 128 → (∀ q, l4.testBit q = true → m.testBit q = true) → zMk y4 (fun i => ∃ p, p < nP ∧ (m.testBit p = true ∧ ¬ l4.testBit p = true) ∧ mPm F nA i p) → V g κ 4 (0) (0) (t, cW g X0 G4 σ0) 4 [(3, .int (nI (l4))), (2, .int (y4)), (0, .ref (X0 + 0)), (1, .int (nI (m)))] [] := by
    intro n4
    induction n4 using Nat.strongRecOn with
    | ind n4 ih4 =>
      intro l4 y4 G4 hn4 hJ4 hv4_0 hv4_1 hv4_2
      refine V_iload_n X dL_excess_4 0 rfl ?_
      refine V_ifeqN X (by omega) (tgt := 29) dL_excess_5 (by decide) (fun h1 => ?_) (fun h1 => ?_)
      · -- 5 true
        refine V_iload_n X dL_excess_29 3 rfl ?_
        refine V_callS (rest := []) X E.room ml_L_96 st_J6_bitCount_0f7a4 (by omega) (by decide) (k_J6_bitCount_0f7a4 (σ := (t, cW g X0 G4 σ0)) (nI (m))) rfl rfl (Nat.le_of_ble_eq_true rfl) ⟨Nat.le_of_ble_eq_true rfl, Nat.le_of_ble_eq_true rfl⟩ dL_excess_30 (fun _ _ h => False.elim h) (fun v30 σ' hp30 => ?_)
        obtain ⟨hp30, rfl⟩ := hp30
        cases (hp30 : _ = some (Value.int (zbc (nI (m)))))
        show V g κ 4 (0) (0) (t, cW g X0 G4 σ0) 33 [(3, .int (nI (l4))), (2, .int (y4)), (0, .ref (X0 + 0)), (1, .int (nI (m)))] [.int (zbc (nI (m)))]
        refine V_iload_n X dL_excess_33 1 rfl ?_
        refine V_callS (rest := [.int (zbc (nI (m)))]) X E.room ml_L_96 st_J6_bitCount_0f7a4 (by omega) (by decide) (k_J6_bitCount_0f7a4 (σ := (t, cW g X0 G4 σ0)) (y4)) rfl rfl (Nat.le_of_ble_eq_true rfl) ⟨Nat.le_of_ble_eq_true rfl, Nat.le_of_ble_eq_true rfl⟩ dL_excess_34 (fun _ _ h => False.elim h) (fun v34 σ' hp34 => ?_)
        obtain ⟨hp34, rfl⟩ := hp34
        cases (hp34 : _ = some (Value.int (zbc (y4))))
        show V g κ 4 (0) (0) (t, cW g X0 G4 σ0) 37 [(3, .int (nI (l4))), (2, .int (y4)), (0, .ref (X0 + 0)), (1, .int (nI (m)))] [.int (zbc (y4)), .int (zbc (nI (m)))]
        refine V_isub X dL_excess_37 (V.topi (fun w2 ew2 => ?_))
        exact V_iret X E (Nat.zero_le _) (Nat.zero_le _) ⟨_, rfl, pEx_end h1 hv4_2 ew2, _, rfl, hJ4⟩ dL_excess_38
      · -- 5 false
        obtain ⟨pl1, pl2, pl3, -⟩ := pl_low l4 hv4_0 h1
        have pl4 : zctz l4 < nP := pl_lt hm (hv4_1 _ pl3)
        refine V_iload_n X dL_excess_8 1 rfl ?_
        refine V_aload_n X dL_excess_9 2 rfl ?_
        refine V_iload_n X dL_excess_10 0 rfl ?_
        refine V_callS (rest := [.ref (X0 + 0), .int (y4)]) X E.room ml_L_101 st_J6_numberOfTrailingZeros_0f7a4 (by decide) (by decide) (k_J6_numberOfTrailingZeros_0f7a4 (σ := (t, cW g X0 G4 σ0)) (l4) (by omega) (by assumption)) rfl rfl (Nat.le_of_ble_eq_true rfl) ⟨Nat.le_of_ble_eq_true rfl, Nat.le_of_ble_eq_true rfl⟩ dL_excess_11 (fun _ _ h => False.elim h) (fun v11 σ' hp11 => ?_)
        obtain ⟨hp11, rfl⟩ := hp11
        cases (hp11 : _ = some (Value.int (nI (zctz (l4)))))
        show V g κ 4 (0) (0) (t, cW g X0 G4 σ0) 14 [(3, .int (nI (l4))), (2, .int (y4)), (0, .ref (X0 + 0)), (1, .int (nI (m)))] [.int (nI (zctz (l4))), .ref (X0 + 0), .int (y4)]
        refine V_iconst (v := nI 5) X dL_excess_14 (by decide) ?_
        refine V_callV (rest := [.int (y4)]) X E.room ml_L_104 in_X5_ofPart (ci := 7) rfl se_X5_ofPart (C_recv (q := 0) (by decide) rfl) (by decide) (by decide) (k_X5_ofPart hX (hI.mvM hJ4) hG (nI (zctz (l4))) (nI (5)) (hB.mvC hJ4) (hJ4.2 hC)) rfl rfl (Nat.le_of_ble_eq_true rfl) ⟨Nat.le_of_ble_eq_true rfl, Nat.le_of_ble_eq_true rfl⟩ dL_excess_15 (fun _ _ h => False.elim (h.1.elim (fun q => q.elim (fun q => q.1 (⟨_, rfl, by omega⟩)) (fun q => (fun q => q.elim (fun q => q.1 (⟨_, rfl, by omega, by omega⟩)) (fun q => (fun q => q) q.2)) q.2)) id)) (fun v15 σ' hp15 => ?_)
        obtain ⟨p9, w9, ep9, lp9, ew9, lw9, r3, rfl, hrr3, F4, rfl, hJF4⟩ := hp15
        have zp9 : zctz (l4) = p9 := (nI_eq (by omega) (by omega)).mp ep9
        subst zp9
        have zw9 : 5 = w9 := (nI_eq (by omega) (by omega)).mp ew9
        subst zw9
        have hvr3 : cPt nP nS nA F (zctz (l4)) (5) (r3) := by have z : cPt nP nS nA G4 (zctz (l4)) (5) (r3) := hrr3; rw [cPt_W (hJ4).1] at z; exact z
        have hKF4 : cM F F4 := hJ4.trans hJF4
        refine V.shrink B 0 0 (Nat.le_refl _) (Nat.le_refl _) ?_
        show V g κ 4 (0) (0) (t, cW g X0 F4 σ0) 18 [(3, .int (nI (l4))), (2, .int (y4)), (0, .ref (X0 + 0)), (1, .int (nI (m)))] [.int (r3), .int (y4)]
        refine V_ior X dL_excess_18 (V.topi (fun w5 ew5 => ?_))
        refine V_istore_n X [(2, .int (w5)), (3, .int (nI (l4))), (0, .ref (X0 + 0)), (1, .int (nI (m)))] dL_excess_19 (by decide) rfl ?_
        refine V_iload_n X dL_excess_20 1 rfl ?_
        refine V_iload_n X dL_excess_21 1 rfl ?_
        refine V_iconst (v := nI 1) X dL_excess_22 (by decide) ?_
        refine V_isubN X (by omega) dL_excess_23 ?_
        refine V_iand X dL_excess_24 ?_
        rw [pl_and l4 hv4_0 h1]
        show V g κ 4 (0) (0) (t, cW g X0 F4 σ0) 25 [(2, .int (w5)), (3, .int (nI (l4))), (0, .ref (X0 + 0)), (1, .int (nI (m)))] [.int (nI (l4 &&& (l4 - 1)))]
        refine V_istore_n X [(3, .int (nI (l4 &&& (l4 - 1)))), (2, .int (w5)), (0, .ref (X0 + 0)), (1, .int (nI (m)))] dL_excess_25 (by decide) rfl ?_
        refine V_goto (tgt := 4) X dL_excess_26 (by decide) ?_
        exact V.sub [0, 1, 2, 3] rfl (ih4 _ (by omega) (l4 &&& (l4 - 1)) (w5) F4 rfl hKF4 (Nat.lt_of_le_of_lt Nat.and_le_left hv4_0) (fun q h => hv4_1 q (by rw [Nat.testBit_and, Bool.and_eq_true] at h; exact h.1)) (pEx_step b1 hv4_0 h1 hv4_1 pl4 hv4_2 (cPt_5 hvr3) ew5))
  exact L4 _ (m) (nI 0) F rfl cM.rfl' (h128) (fun _ h => h) (pEx_0)
set_option maxRecDepth 100000 in
set_option maxHeartbeats 4000000 in
theorem k_L_isFilled {g : zG} {t : Nat × Nat} {X0 : Nat} {σ0 : Nat → Option va_E} {F : Nat → Nat → Int32} (hX : g.2.1.size ≤ X0) {nP nS nA nC nT : Nat} (hI : cI nP nS nA nC nT F) (hG : g.1.stackTraces = false) {B9 : Nat} (hV : jV nP nS nA nC nT B9 F) (p : Nat) (hp : p < nS) : Ct g 31 yL_isFilled cL_isFilled 6 (some FieldType.boolean) 1 6 [.ref (X0 + 0), .int (nI (p))] (t, cW g X0 F σ0) (fun v σ' => v = some (.int (nI 1)) ∧ ∃ F' : Nat → Nat → Int32, σ' = (t, cW g X0 F' σ0) ∧ cM F F') zNo := by
  refine Ct.of (lv := [(0, .ref (X0 + 0)), (1, .int (nI (p)))]) (by decide) (Nat.le_of_ble_eq_true rfl) rfl ?_
  intro κ X E B _
  have X : zX g κ RL cL_isFilled 6 := X
  obtain ⟨b1, b2, b3, b4, b5⟩ := hI.bnd
  have hB := hV.bd
  have hD := hV.db
  have hC := hV.2.1
  obtain ⟨m, hm, em⟩ := hB.2.2 p hp
  have h128 : m < 128 := Nat.lt_of_lt_of_le hm (zp2 (n := 7) b1)
  refine V_aload_n X dL_isFilled_0 0 rfl ?_
  refine V_iload_n X dL_isFilled_1 1 rfl ?_
  refine V_iconst (v := nI 0) X dL_isFilled_2 (by decide) ?_
  refine V_callV (rest := []) X E.room ml_L_89 in_X5_ofScene (ci := 7) rfl se_X5_ofScene (C_recv (q := 0) (by decide) rfl) (by decide) (by decide) (k_X5_ofScene hX hI hG (nI (p)) (nI (0)) hD hB hC) rfl rfl (Nat.le_of_ble_eq_true rfl) ⟨Nat.le_of_ble_eq_true rfl, Nat.le_of_ble_eq_true rfl⟩ dL_isFilled_3 (fun _ _ h => False.elim (h.1.elim (fun q => q.elim (fun q => q.1 (⟨_, rfl, by omega⟩)) (fun q => (fun q => q.elim (fun q => q.1 (⟨_, rfl, by omega, by omega⟩)) (fun q => (fun q => q) q.2)) q.2)) id)) (fun v3 σ' hp3 => ?_)
  obtain ⟨p9, w9, ep9, lp9, ew9, lw9, r1, rfl, hrr1, F2, rfl, hJF2⟩ := hp3
  have zp9 : p = p9 := (nI_eq (by omega) (by omega)).mp ep9
  subst zp9
  have zw9 : 0 = w9 := (nI_eq (by omega) (by omega)).mp ew9
  subst zw9
  have hvr1 : cSc nP nS nA nC F (p) (0) (r1) := hrr1
  have hKF2 : cM F F2 := hJF2
  refine V.shrink B 0 0 (Nat.le_refl _) (Nat.le_refl _) ?_
  show V g κ 6 (0) (0) (t, cW g X0 F2 σ0) 6 [(0, .ref (X0 + 0)), (1, .int (nI (p)))] [.int (r1)]
  obtain rfl : r1 = nI m := (cSc_0 hvr1).trans em
  show V g κ 6 (0) (0) (t, cW g X0 F2 σ0) 6 [(0, .ref (X0 + 0)), (1, .int (nI (p)))] [.int (nI (m))]
  refine V_istore_n X [(2, .int (nI (m))), (0, .ref (X0 + 0)), (1, .int (nI (p)))] dL_isFilled_6 (by decide) rfl ?_
  refine V_aload_n X dL_isFilled_7 1 rfl ?_
  refine V_iload_n X dL_isFilled_8 2 rfl ?_
  refine V_iconst (v := nI 3) X dL_isFilled_9 (by decide) ?_
  refine V_callV (rest := []) X E.room ml_L_89 in_X5_ofScene (ci := 7) rfl se_X5_ofScene (C_recv (q := 0) (by decide) rfl) (by decide) (by decide) (k_X5_ofScene hX (hI.mvM hKF2) hG (nI (p)) (nI (3)) (hD.mvC hKF2) (hB.mvC hKF2) (hKF2.2 hC)) rfl rfl (Nat.le_of_ble_eq_true rfl) ⟨Nat.le_of_ble_eq_true rfl, Nat.le_of_ble_eq_true rfl⟩ dL_isFilled_10 (fun _ _ h => False.elim (h.1.elim (fun q => q.elim (fun q => q.1 (⟨_, rfl, by omega⟩)) (fun q => (fun q => q.elim (fun q => q.1 (⟨_, rfl, by omega, by omega⟩)) (fun q => (fun q => q) q.2)) q.2)) id)) (fun v10 σ' hp10 => ?_)
  obtain ⟨p9, w9, ep9, lp9, ew9, lw9, r3, rfl, hrr3, F4, rfl, hJF4⟩ := hp10
  have zp9 : p = p9 := (nI_eq (by omega) (by omega)).mp ep9
  subst zp9
  have zw9 : 3 = w9 := (nI_eq (by omega) (by omega)).mp ew9
  subst zw9
  have hvr3 : cSc nP nS nA nC F (p) (3) (r3) := by have z : cSc nP nS nA nC F2 (p) (3) (r3) := hrr3; rw [cSc_W (hKF2).1] at z; exact z
  have hKF4 : cM F F4 := hKF2.trans hJF4
  refine V.shrink B 0 0 (Nat.le_refl _) (Nat.le_refl _) ?_
  show V g κ 6 (0) (0) (t, cW g X0 F4 σ0) 13 [(2, .int (nI (m))), (0, .ref (X0 + 0)), (1, .int (nI (p)))] [.int (r3)]
  obtain ⟨m3, c3, e3, hm3, em3, rfl, hl3⟩ := cSc_3 hvr3
  have z3 : m = m3 := (pm_m b1 hm em hm3 em3).symm
  subst z3
  have hc3 : c3 ≤ m := by have := hl3.2.1; omega
  show V g κ 6 (0) (0) (t, cW g X0 F4 σ0) 13 [(2, .int (nI (m))), (0, .ref (X0 + 0)), (1, .int (nI (p)))] [.int (nI (c3))]
  refine V_istore_n X [(3, .int (nI (c3))), (2, .int (nI (m))), (0, .ref (X0 + 0)), (1, .int (nI (p)))] dL_isFilled_13 (by decide) rfl ?_
  refine V_iconst (v := nI 0) X dL_isFilled_14 (by decide) ?_
  refine V_istore X [(4, .int (nI (0))), (3, .int (nI (c3))), (2, .int (nI (m))), (0, .ref (X0 + 0)), (1, .int (nI (p)))] dL_isFilled_15 (by decide) rfl ?_
  refine V_iconst (v := nI 0) X dL_isFilled_17 (by decide) ?_
  refine V_istore X [(5, .int (nI (0))), (4, .int (nI (0))), (3, .int (nI (c3))), (2, .int (nI (m))), (0, .ref (X0 + 0)), (1, .int (nI (p)))] dL_isFilled_18 (by decide) rfl ?_
  have L20 : ∀ (n20 : Nat) (i20 : Nat) (x20_4 : Int32) (G20 : Nat → Nat → Int32), n20 = (m + 1) - i20 → i20 ≤ (m + 1) → cM F G20 → (∃ c, zLk (zEk (mPm F nA) nP) m i20 c x20_4) → V g κ 6 (0) (0) (t, cW g X0 G20 σ0) 20 [(5, .int (nI (i20))), (4, .int (x20_4)), (3, .int (nI (c3))), (2, .int (nI (m))), (0, .ref (X0 + 0)), (1, .int (nI (p)))] [] := by
    intro n20
    induction n20 using Nat.strongRecOn with
    | ind n20 ih20 =>
      intro i20 x20_4 G20 hn20 hi20 hJ20 hv20_0
      refine V_iload X dL_isFilled_20 0 rfl ?_
      refine V_iload_n X dL_isFilled_22 3 rfl ?_
      refine V_icmpgtN X (by omega) (by omega) (tgt := 54) dL_isFilled_23 (by decide) (fun h5 => ?_) (fun h5 => ?_)
      · -- 23 true
        obtain ⟨c9, k9⟩ := hv20_0
        have k9 : zLk (zEk (mPm F nA) nP) m (m + 1) c9 x20_4 := by have z := k9; rw [show i20 = m + 1 by omega] at z; exact z
        obtain ⟨q1, q2⟩ := zLk_un hl3 k9
        subst q1
        have q2 := q2.symm
        subst q2
        refine V_iload_n X dL_isFilled_54 2 rfl ?_
        refine V_iload_n X dL_isFilled_55 3 rfl ?_
        refine V_iconst (v := (-1)) X dL_isFilled_56 (by decide) ?_
        refine V_ixor X dL_isFilled_57 (V.topi (fun w6 ew6 => ?_))
        refine V_iandL X (by omega) dL_isFilled_58 (fun j7 hj7 ej7 => ?_)
        refine V_ifneN X (by omega) (tgt := 117) dL_isFilled_59 (by decide) (fun h8 => absurd h8 (not_not_intro ((zSb_iff ej7 ew6 (by omega)).mp hl3.2.2.1))) (fun h8 => ?_)
        refine V_aload_n X dL_isFilled_62 4 rfl ?_
        refine V_iload_n X dL_isFilled_63 2 rfl ?_
        refine V_callS (rest := []) X E.room ml_L_92 st_L_excess (by decide) (by decide) (k_L_excess hX (hI.mvM hJ20) hG (hV.mv hJ20) (c3) (by omega)) rfl rfl (Nat.le_of_ble_eq_true rfl) ⟨Nat.le_of_ble_eq_true rfl, Nat.le_of_ble_eq_true rfl⟩ dL_isFilled_64 (fun _ _ h => False.elim h) (fun v64 σ' hp64 => ?_)
        obtain ⟨r9, rfl, hrr9, F10, rfl, hJF10⟩ := hp64
        have hvr9 : zEk (mPm F nA) nP (c3) r9 := by have z := hrr9; rw [mPm_W (hJ20).1] at z; exact z
        have hKF10 : cM F F10 := hJ20.trans hJF10
        refine V.shrink B 0 0 (Nat.le_refl _) (Nat.le_refl _) ?_
        show V g κ 6 (0) (0) (t, cW g X0 F10 σ0) 67 [(5, .int (nI (i20))), (4, .int (x20_4)), (3, .int (nI (c3))), (2, .int (nI (m))), (0, .ref (X0 + 0)), (1, .int (nI (p)))] [.int (r9)]
        refine V_iload X dL_isFilled_67 1 rfl ?_
        refine V_icmpne X (tgt := 117) dL_isFilled_69 (by decide) (fun h11 => absurd h11 (not_not_intro (zEk_un hvr9 hl3.1))) (fun h11 => ?_)
        refine V_aload_n X dL_isFilled_72 4 rfl ?_
        refine V_iload_n X dL_isFilled_73 5 rfl ?_
        refine V_iconst (v := nI 4) X dL_isFilled_74 (by decide) ?_
        refine V_callV (rest := []) X E.room ml_L_89 in_X5_ofScene (ci := 7) rfl se_X5_ofScene (C_recv (q := 0) (by decide) rfl) (by decide) (by decide) (k_X5_ofScene hX (hI.mvM hKF10) hG (nI (p)) (nI (4)) (hD.mvC hKF10) (hB.mvC hKF10) (hKF10.2 hC)) rfl rfl (Nat.le_of_ble_eq_true rfl) ⟨Nat.le_of_ble_eq_true rfl, Nat.le_of_ble_eq_true rfl⟩ dL_isFilled_75 (fun _ _ h => False.elim (h.1.elim (fun q => q.elim (fun q => q.1 (⟨_, rfl, by omega⟩)) (fun q => (fun q => q.elim (fun q => q.1 (⟨_, rfl, by omega, by omega⟩)) (fun q => (fun q => q) q.2)) q.2)) id)) (fun v75 σ' hp75 => ?_)
        obtain ⟨p9, w9, ep9, lp9, ew9, lw9, r12, rfl, hrr12, F13, rfl, hJF13⟩ := hp75
        have zp9 : p = p9 := (nI_eq (by omega) (by omega)).mp ep9
        subst zp9
        have zw9 : 4 = w9 := (nI_eq (by omega) (by omega)).mp ew9
        subst zw9
        have hvr12 : cSc nP nS nA nC F (p) (4) (r12) := by have z : cSc nP nS nA nC F10 (p) (4) (r12) := hrr12; rw [cSc_W (hKF10).1] at z; exact z
        have hKF13 : cM F F13 := hKF10.trans hJF13
        refine V.shrink B 0 0 (Nat.le_refl _) (Nat.le_refl _) ?_
        show V g κ 6 (0) (0) (t, cW g X0 F13 σ0) 78 [(5, .int (nI (i20))), (4, .int (x20_4)), (3, .int (nI (c3))), (2, .int (nI (m))), (0, .ref (X0 + 0)), (1, .int (nI (p)))] [.int (r12)]
        refine V_iload X dL_isFilled_78 1 rfl ?_
        refine V_icmpne X (tgt := 117) dL_isFilled_80 (by decide) (fun h14 => absurd h14 (not_not_intro (cSc_4e b1 hm em hl3 hvr12))) (fun h14 => ?_)
        refine V_aload_n X dL_isFilled_83 4 rfl ?_
        refine V_iload_n X dL_isFilled_84 5 rfl ?_
        refine V_iconst (v := nI 2) X dL_isFilled_85 (by decide) ?_
        refine V_callV (rest := []) X E.room ml_L_89 in_X5_ofScene (ci := 7) rfl se_X5_ofScene (C_recv (q := 0) (by decide) rfl) (by decide) (by decide) (k_X5_ofScene hX (hI.mvM hKF13) hG (nI (p)) (nI (2)) (hD.mvC hKF13) (hB.mvC hKF13) (hKF13.2 hC)) rfl rfl (Nat.le_of_ble_eq_true rfl) ⟨Nat.le_of_ble_eq_true rfl, Nat.le_of_ble_eq_true rfl⟩ dL_isFilled_86 (fun _ _ h => False.elim (h.1.elim (fun q => q.elim (fun q => q.1 (⟨_, rfl, by omega⟩)) (fun q => (fun q => q.elim (fun q => q.1 (⟨_, rfl, by omega, by omega⟩)) (fun q => (fun q => q) q.2)) q.2)) id)) (fun v86 σ' hp86 => ?_)
        obtain ⟨p9, w9, ep9, lp9, ew9, lw9, r15, rfl, hrr15, F16, rfl, hJF16⟩ := hp86
        have zp9 : p = p9 := (nI_eq (by omega) (by omega)).mp ep9
        subst zp9
        have zw9 : 2 = w9 := (nI_eq (by omega) (by omega)).mp ew9
        subst zw9
        have hvr15 : cSc nP nS nA nC F (p) (2) (r15) := by have z : cSc nP nS nA nC F13 (p) (2) (r15) := hrr15; rw [cSc_W (hKF13).1] at z; exact z
        have hKF16 : cM F F16 := hKF13.trans hJF16
        refine V.shrink B 0 0 (Nat.le_refl _) (Nat.le_refl _) ?_
        show V g κ 6 (0) (0) (t, cW g X0 F16 σ0) 89 [(5, .int (nI (i20))), (4, .int (x20_4)), (3, .int (nI (c3))), (2, .int (nI (m))), (0, .ref (X0 + 0)), (1, .int (nI (p)))] [.int (r15)]
        refine V_iload_n X dL_isFilled_89 3 rfl ?_
        refine V_callS (rest := [.int (r15)]) X E.room ml_L_96 st_J6_bitCount_0f7a4 (by omega) (by decide) (k_J6_bitCount_0f7a4 (σ := (t, cW g X0 F16 σ0)) (nI (m))) rfl rfl (Nat.le_of_ble_eq_true rfl) ⟨Nat.le_of_ble_eq_true rfl, Nat.le_of_ble_eq_true rfl⟩ dL_isFilled_90 (fun _ _ h => False.elim h) (fun v90 σ' hp90 => ?_)
        obtain ⟨hp90, rfl⟩ := hp90
        cases (hp90 : _ = some (Value.int (zbc (nI (m)))))
        show V g κ 6 (0) (0) (t, cW g X0 F16 σ0) 93 [(5, .int (nI (i20))), (4, .int (x20_4)), (3, .int (nI (c3))), (2, .int (nI (m))), (0, .ref (X0 + 0)), (1, .int (nI (p)))] [.int (zbc (nI (m))), .int (r15)]
        refine V_iload X dL_isFilled_93 1 rfl ?_
        refine V_isub X dL_isFilled_95 (V.topi (fun w17 ew17 => ?_))
        refine V_icmpne X (tgt := 117) dL_isFilled_96 (by decide) (fun h18 => absurd h18 (not_not_intro ((cSc_2e b1 b3 hm em hl3 hvr15).trans ew17.symm))) (fun h18 => ?_)
        refine V_aload_n X dL_isFilled_99 4 rfl ?_
        refine V_iload_n X dL_isFilled_100 5 rfl ?_
        refine V_iconst (v := nI 2) X dL_isFilled_101 (by decide) ?_
        refine V_callV (rest := []) X E.room ml_L_89 in_X5_ofScene (ci := 7) rfl se_X5_ofScene (C_recv (q := 0) (by decide) rfl) (by decide) (by decide) (k_X5_ofScene hX (hI.mvM hKF16) hG (nI (p)) (nI (2)) (hD.mvC hKF16) (hB.mvC hKF16) (hKF16.2 hC)) rfl rfl (Nat.le_of_ble_eq_true rfl) ⟨Nat.le_of_ble_eq_true rfl, Nat.le_of_ble_eq_true rfl⟩ dL_isFilled_102 (fun _ _ h => False.elim (h.1.elim (fun q => q.elim (fun q => q.1 (⟨_, rfl, by omega⟩)) (fun q => (fun q => q.elim (fun q => q.1 (⟨_, rfl, by omega, by omega⟩)) (fun q => (fun q => q) q.2)) q.2)) id)) (fun v102 σ' hp102 => ?_)
        obtain ⟨p9, w9, ep9, lp9, ew9, lw9, r19, rfl, hrr19, F20, rfl, hJF20⟩ := hp102
        have zp9 : p = p9 := (nI_eq (by omega) (by omega)).mp ep9
        subst zp9
        have zw9 : 2 = w9 := (nI_eq (by omega) (by omega)).mp ew9
        subst zw9
        have hvr19 : cSc nP nS nA nC F (p) (2) (r19) := by have z : cSc nP nS nA nC F16 (p) (2) (r19) := hrr19; rw [cSc_W (hKF16).1] at z; exact z
        have hKF20 : cM F F20 := hKF16.trans hJF20
        refine V.shrink B 0 0 (Nat.le_refl _) (Nat.le_refl _) ?_
        show V g κ 6 (0) (0) (t, cW g X0 F20 σ0) 105 [(5, .int (nI (i20))), (4, .int (x20_4)), (3, .int (nI (c3))), (2, .int (nI (m))), (0, .ref (X0 + 0)), (1, .int (nI (p)))] [.int (r19)]
        refine V_aload_n X dL_isFilled_105 4 rfl ?_
        refine V_iconst (v := nI 2) X dL_isFilled_106 (by decide) ?_
        refine V_callV (rest := [.int (r19)]) X E.room ml_L_38 in_X5_house (ci := 7) rfl se_X5_house (C_recv (q := 0) (by decide) rfl) (by decide) (by decide) (k_X5_house hX (hI.mvM hKF20) hG (nI (2)) (hB.mvC hKF20) (hKF20.2 hC)) rfl rfl (Nat.le_of_ble_eq_true rfl) ⟨Nat.le_of_ble_eq_true rfl, Nat.le_of_ble_eq_true rfl⟩ dL_isFilled_107 (fun _ _ h => False.elim (h.1.elim (fun q => q.elim (fun q => q.1 (⟨_, rfl, by omega, by omega⟩)) (fun q => (fun q => q) q.2)) id)) (fun v107 σ' hp107 => ?_)
        obtain ⟨w9, ew9, lw9, r21, rfl, hrr21, F22, rfl, hJF22⟩ := hp107
        have zw9 : 2 = w9 := (nI_eq (by omega) (by omega)).mp ew9
        subst zw9
        have hvr21 : cHo nP nS nA nC nT F (2) (r21) := by have z : cHo nP nS nA nC nT F20 (2) (r21) := hrr21; rw [cHo_W (hKF20).1] at z; exact z
        have hKF22 : cM F F22 := hKF20.trans hJF22
        refine V.shrink B 0 0 (Nat.le_refl _) (Nat.le_refl _) ?_
        show V g κ 6 (0) (0) (t, cW g X0 F22 σ0) 110 [(5, .int (nI (i20))), (4, .int (x20_4)), (3, .int (nI (c3))), (2, .int (nI (m))), (0, .ref (X0 + 0)), (1, .int (nI (p)))] [.int (r21), .int (r19)]
        refine V_icmpgt X (tgt := 117) dL_isFilled_110 (by decide) (fun h23 => absurd h23 (cSc_2le b1 b3 (hV.2.2.2.2.2.2.2.2.2.2.2.2.2.2.2.2.2.1) hvr19 hvr21)) (fun h23 => ?_)
        refine V_iconst (v := nI 1) X dL_isFilled_113 (by decide) ?_
        refine V_goto (tgt := 118) X dL_isFilled_114 (by decide) ?_
        exact V_zret X E (zbool z01_1) (Nat.zero_le _) (Nat.zero_le _) ⟨rfl, _, rfl, hKF22⟩ dL_isFilled_118
      · -- 23 false
        refine V_iload X dL_isFilled_26 0 rfl ?_
        refine V_iload_n X dL_isFilled_28 3 rfl ?_
        refine V_iconst (v := (-1)) X dL_isFilled_29 (by decide) ?_
        refine V_ixor X dL_isFilled_30 (V.topi (fun w24 ew24 => ?_))
        refine V_iandL X (by omega) dL_isFilled_31 (fun j25 hj25 ej25 => ?_)
        refine V_ifneN X (by omega) (tgt := 48) dL_isFilled_32 (by decide) (fun h26 => ?_) (fun h26 => ?_)
        · -- 32 true
          refine V_iinc X (nI (i20 + 1)) [(5, .int (nI (i20 + 1))), (4, .int (x20_4)), (3, .int (nI (c3))), (2, .int (nI (m))), (0, .ref (X0 + 0)), (1, .int (nI (p)))] dL_isFilled_48 0 rfl (zinc _) (by decide) rfl ?_
          refine V_goto (tgt := 20) X dL_isFilled_51 (by decide) ?_
          exact V.sub [0, 1, 2, 3, 4, 5] rfl (ih20 _ (by omega) (i20 + 1) x20_4 G20 rfl (by omega) hJ20 (pMx_skip hv20_0 (fun z => h26 ((zSb_iff ej25 ew24 (by omega)).mp z))))
        · -- 32 false
          have hs20 : zSb i20 m := (zSb_iff ej25 ew24 (by omega)).mpr h26
          refine V_iload X dL_isFilled_35 1 rfl ?_
          refine V_aload_n X dL_isFilled_37 4 rfl ?_
          refine V_iload X dL_isFilled_38 0 rfl ?_
          refine V_callS (rest := [.int (x20_4)]) X E.room ml_L_92 st_L_excess (by decide) (by decide) (k_L_excess hX (hI.mvM hJ20) hG (hV.mv hJ20) (i20) (by omega)) rfl rfl (Nat.le_of_ble_eq_true rfl) ⟨Nat.le_of_ble_eq_true rfl, Nat.le_of_ble_eq_true rfl⟩ dL_isFilled_40 (fun _ _ h => False.elim h) (fun v40 σ' hp40 => ?_)
          obtain ⟨r27, rfl, hrr27, F28, rfl, hJF28⟩ := hp40
          have hvr27 : zEk (mPm F nA) nP (i20) r27 := by have z := hrr27; rw [mPm_W (hJ20).1] at z; exact z
          have hKF28 : cM F F28 := hJ20.trans hJF28
          refine V.shrink B 0 0 (Nat.le_refl _) (Nat.le_refl _) ?_
          show V g κ 6 (0) (0) (t, cW g X0 F28 σ0) 43 [(5, .int (nI (i20))), (4, .int (x20_4)), (3, .int (nI (c3))), (2, .int (nI (m))), (0, .ref (X0 + 0)), (1, .int (nI (p)))] [.int (r27), .int (x20_4)]
          refine V_mmax X E.room (Nat.zero_le _) (Nat.zero_le _) (by decide) ml_L_42 st_J9_max_7cf53 rfl rfl (Nat.le_of_ble_eq_true rfl) dL_isFilled_43 ?_
          refine V.topi (fun w29 ew29 => ?_)
          refine V_istore X [(4, .int (w29)), (5, .int (nI (i20))), (3, .int (nI (c3))), (2, .int (nI (m))), (0, .ref (X0 + 0)), (1, .int (nI (p)))] dL_isFilled_46 (by decide) rfl ?_
          refine V_iinc X (nI (i20 + 1)) [(5, .int (nI (i20 + 1))), (4, .int (w29)), (3, .int (nI (c3))), (2, .int (nI (m))), (0, .ref (X0 + 0)), (1, .int (nI (p)))] dL_isFilled_48 1 rfl (zinc _) (by decide) rfl ?_
          refine V_goto (tgt := 20) X dL_isFilled_51 (by decide) ?_
          exact V.sub [0, 1, 2, 3, 4, 5] rfl (ih20 _ (by omega) (i20 + 1) w29 F28 rfl (by omega) hKF28 (pMx hv20_0 hvr27 hs20 ew29))
  exact L20 _ 0 (nI (0)) F4 rfl (by omega) hKF4 (pMx_0)
set_option maxRecDepth 100000 in
set_option maxHeartbeats 4000000 in
theorem k_L_company {g : zG} {X0 n0 : Nat} (hX : g.2.1.size ≤ X0) (hG : g.1.stackTraces = false) : Ct g 32 yL_company cL_company 8 (some (FieldType.object "Doublecoat")) 62 455 [.ref (g.2.2.2 8)] ((X0, n0), fun _ => none) (fun v σ' => v = some (.ref (X0 + 0)) ∧ ∃ (t' : Nat × Nat) (nP nS nA nC nT : Nat) (F' : Nat → Nat → Int32) (σ1 : Nat → Option va_E), σ' = (t', cW g X0 F' σ1) ∧ 2 ≤ nP ∧ jV nP nS nA nC nT 0 F') zNo := by
  refine Ct.of (lv := [(0, .ref (g.2.2.2 8))]) (by decide) (Nat.le_of_ble_eq_true rfl) rfl ?_
  intro κ X E B _
  have X : zX g κ RL cL_company 8 := X
  have key : ∀ (F : Nat → Nat → Int32) (σ1 : Nat → Option va_E), jV 0 0 0 0 0 0 F → V g κ 8 (61) (449) ((X0 + 61, n0 + 9 + 440), cW g X0 F σ1) 8 [(1, .ref (X0 + 0)), (0, .ref (g.2.2.2 8))] [] := by
    intro F σ1 hV
    refine V_iconst (v := nI 2) X dL_company_8 (by decide) ?_
    refine V_aload_n X dL_company_9 1 rfl ?_
    refine V_iconst (v := nI 0) X dL_company_10 (by decide) ?_
    refine V_callS (rest := [.int (nI (2))]) X E.room ml_L_12 st_L_cell (by decide) (by decide) (k_L_cell (σ := ((X0 + 61, n0 + 9 + 440), cW g X0 F σ1)) (0) (by omega)) rfl rfl (Nat.le_of_ble_eq_true rfl) ⟨by omega, by omega⟩ dL_company_11 (fun _ _ h => False.elim h) (fun v11 σ' hp11 => ?_)
    obtain ⟨hp11, rfl⟩ := hp11
    obtain ⟨r1, rfl⟩ := hp11
    show V g κ 8 (61) (449) ((X0 + 61, n0 + 9 + 440), cW g X0 F σ1) 14 [(1, .ref (X0 + 0)), (0, .ref (g.2.2.2 8))] [.int (r1), .int (nI (2))]
    refine V_bipush (v := nI 6) X dL_company_14 (by decide) ?_
    refine V_callS (rest := [.int (nI (2))]) X E.room ml_L_18 st_L_below (by decide) (by decide) (k_L_below (σ := ((X0 + 61, n0 + 9 + 440), cW g X0 F σ1)) (r1) (6) (by omega) (by omega)) rfl rfl (Nat.le_of_ble_eq_true rfl) ⟨by omega, by omega⟩ dL_company_16 (fun _ _ h => False.elim h) (fun v16 σ' hp16 => ?_)
    obtain ⟨hp16, rfl⟩ := hp16
    obtain ⟨r2, hr2, rfl⟩ := hp16
    show V g κ 8 (61) (449) ((X0 + 61, n0 + 9 + 440), cW g X0 F σ1) 19 [(1, .ref (X0 + 0)), (0, .ref (g.2.2.2 8))] [.int (nI (r2)), .int (nI (2))]
    refine V_iaddN X dL_company_19 ?_
    refine V_istore_n X [(2, .int (nI (2 + r2))), (1, .ref (X0 + 0)), (0, .ref (g.2.2.2 8))] dL_company_20 (by decide) rfl ?_
    refine V_iconst (v := nI 0) X dL_company_21 (by decide) ?_
    refine V_istore_n X [(3, .int (nI (0))), (2, .int (nI (2 + r2))), (1, .ref (X0 + 0)), (0, .ref (g.2.2.2 8))] dL_company_22 (by decide) rfl ?_
    have L23 : ∀ (n23 : Nat) (i23 : Nat) (G23 : Nat → Nat → Int32), n23 = 2 + r2 - i23 → i23 ≤ 2 + r2 → jV i23 0 0 0 0 0 G23 → V g κ 8 (61) (449) ((X0 + 61, n0 + 9 + 440), cW g X0 G23 σ1) 23 [(3, .int (nI (i23))), (2, .int (nI (2 + r2))), (1, .ref (X0 + 0)), (0, .ref (g.2.2.2 8))] [] := by
      intro n23
      induction n23 using Nat.strongRecOn with
      | ind n23 ih23 =>
        intro i23 G23 hn23 hv23_0 hv23_1
        have hV := hv23_1
        have hI := hV.1
        have hB := hV.bd
        have hC := hV.2.1
        have hT := hV.2.2.1
        refine V_iload_n X dL_company_23 0 rfl ?_
        refine V_iload_n X dL_company_24 1 rfl ?_
        refine V_icmpgeN X (by omega) (by omega) (tgt := 79) dL_company_25 (by decide) (fun h3 => ?_) (fun h3 => ?_)
        · -- 25 true
          have hV : jV (2 + r2) 0 0 0 0 0 G23 := by have z := hV; rw [show i23 = 2 + r2 by omega] at z; exact z
          refine V_iconst (v := nI 1) X dL_company_79 (by decide) ?_
          refine V_aload_n X dL_company_80 3 rfl ?_
          refine V_iconst (v := nI 4) X dL_company_81 (by decide) ?_
          refine V_callS (rest := [.int (nI (1))]) X E.room ml_L_12 st_L_cell (by decide) (by decide) (k_L_cell (σ := ((X0 + 61, n0 + 9 + 440), cW g X0 G23 σ1)) (4) (by omega)) rfl rfl (Nat.le_of_ble_eq_true rfl) ⟨by omega, by omega⟩ dL_company_82 (fun _ _ h => False.elim h) (fun v82 σ' hp82 => ?_)
          obtain ⟨hp82, rfl⟩ := hp82
          obtain ⟨r4, rfl⟩ := hp82
          show V g κ 8 (61) (449) ((X0 + 61, n0 + 9 + 440), cW g X0 G23 σ1) 85 [(3, .int (nI (i23))), (2, .int (nI (2 + r2))), (1, .ref (X0 + 0)), (0, .ref (g.2.2.2 8))] [.int (r4), .int (nI (1))]
          refine V_iconst (v := nI 5) X dL_company_85 (by decide) ?_
          refine V_callS (rest := [.int (nI (1))]) X E.room ml_L_18 st_L_below (by decide) (by decide) (k_L_below (σ := ((X0 + 61, n0 + 9 + 440), cW g X0 G23 σ1)) (r4) (5) (by omega) (by omega)) rfl rfl (Nat.le_of_ble_eq_true rfl) ⟨by omega, by omega⟩ dL_company_86 (fun _ _ h => False.elim h) (fun v86 σ' hp86 => ?_)
          obtain ⟨hp86, rfl⟩ := hp86
          obtain ⟨r5, hr5, rfl⟩ := hp86
          show V g κ 8 (61) (449) ((X0 + 61, n0 + 9 + 440), cW g X0 G23 σ1) 89 [(3, .int (nI (i23))), (2, .int (nI (2 + r2))), (1, .ref (X0 + 0)), (0, .ref (g.2.2.2 8))] [.int (nI (r5)), .int (nI (1))]
          refine V_iaddN X dL_company_89 ?_
          refine V_istore_n X [(3, .int (nI (1 + r5))), (2, .int (nI (2 + r2))), (1, .ref (X0 + 0)), (0, .ref (g.2.2.2 8))] dL_company_90 (by decide) rfl ?_
          refine V_iconst (v := nI 0) X dL_company_91 (by decide) ?_
          refine V_istore X [(4, .int (nI (0))), (3, .int (nI (1 + r5))), (2, .int (nI (2 + r2))), (1, .ref (X0 + 0)), (0, .ref (g.2.2.2 8))] dL_company_92 (by decide) rfl ?_
          have L94 : ∀ (n94 : Nat) (i94 : Nat) (G94 : Nat → Nat → Int32), n94 = 1 + r5 - i94 → i94 ≤ 1 + r5 → jV (2 + r2) 0 i94 0 0 0 G94 → V g κ 8 (61) (449) ((X0 + 61, n0 + 9 + 440), cW g X0 G94 σ1) 94 [(4, .int (nI (i94))), (3, .int (nI (1 + r5))), (2, .int (nI (2 + r2))), (1, .ref (X0 + 0)), (0, .ref (g.2.2.2 8))] [] := by
            intro n94
            induction n94 using Nat.strongRecOn with
            | ind n94 ih94 =>
              intro i94 G94 hn94 hv94_0 hv94_1
              have hV := hv94_1
              have hI := hV.1
              have hB := hV.bd
              have hC := hV.2.1
              have hT := hV.2.2.1
              refine V_iload X dL_company_94 0 rfl ?_
              refine V_iload_n X dL_company_96 1 rfl ?_
              refine V_icmpgeN X (by omega) (by omega) (tgt := 183) dL_company_97 (by decide) (fun h6 => ?_) (fun h6 => ?_)
              · -- 97 true
                have hV : jV (2 + r2) 0 (1 + r5) 0 0 0 G94 := by have z := hV; rw [show i94 = 1 + r5 by omega] at z; exact z
                refine V_aload_n X dL_company_183 4 rfl ?_
                refine V_bipush (v := nI 8) X dL_company_184 (by decide) ?_
                refine V_callS (rest := []) X E.room ml_L_12 st_L_cell (by decide) (by decide) (k_L_cell (σ := ((X0 + 61, n0 + 9 + 440), cW g X0 G94 σ1)) (8) (by omega)) rfl rfl (Nat.le_of_ble_eq_true rfl) ⟨by omega, by omega⟩ dL_company_186 (fun _ _ h => False.elim h) (fun v186 σ' hp186 => ?_)
                obtain ⟨hp186, rfl⟩ := hp186
                obtain ⟨r7, rfl⟩ := hp186
                show V g κ 8 (61) (449) ((X0 + 61, n0 + 9 + 440), cW g X0 G94 σ1) 189 [(4, .int (nI (i94))), (3, .int (nI (1 + r5))), (2, .int (nI (2 + r2))), (1, .ref (X0 + 0)), (0, .ref (g.2.2.2 8))] [.int (r7)]
                refine V_bipush (v := nI 6) X dL_company_189 (by decide) ?_
                refine V_callS (rest := []) X E.room ml_L_18 st_L_below (by decide) (by decide) (k_L_below (σ := ((X0 + 61, n0 + 9 + 440), cW g X0 G94 σ1)) (r7) (6) (by omega) (by omega)) rfl rfl (Nat.le_of_ble_eq_true rfl) ⟨by omega, by omega⟩ dL_company_191 (fun _ _ h => False.elim h) (fun v191 σ' hp191 => ?_)
                obtain ⟨hp191, rfl⟩ := hp191
                obtain ⟨r8, hr8, rfl⟩ := hp191
                show V g κ 8 (61) (449) ((X0 + 61, n0 + 9 + 440), cW g X0 G94 σ1) 194 [(4, .int (nI (i94))), (3, .int (nI (1 + r5))), (2, .int (nI (2 + r2))), (1, .ref (X0 + 0)), (0, .ref (g.2.2.2 8))] [.int (nI (r8))]
                refine V_istore X [(4, .int (nI (r8))), (3, .int (nI (1 + r5))), (2, .int (nI (2 + r2))), (1, .ref (X0 + 0)), (0, .ref (g.2.2.2 8))] dL_company_194 (by decide) rfl ?_
                refine V_iconst (v := nI 0) X dL_company_196 (by decide) ?_
                refine V_istore X [(5, .int (nI (0))), (4, .int (nI (r8))), (3, .int (nI (1 + r5))), (2, .int (nI (2 + r2))), (1, .ref (X0 + 0)), (0, .ref (g.2.2.2 8))] dL_company_197 (by decide) rfl ?_
                have L199 : ∀ (n199 : Nat) (i199 : Nat) (G199 : Nat → Nat → Int32), n199 = r8 - i199 → i199 ≤ r8 → jV (2 + r2) i199 (1 + r5) 0 0 0 G199 → V g κ 8 (61) (449) ((X0 + 61, n0 + 9 + 440), cW g X0 G199 σ1) 199 [(5, .int (nI (i199))), (4, .int (nI (r8))), (3, .int (nI (1 + r5))), (2, .int (nI (2 + r2))), (1, .ref (X0 + 0)), (0, .ref (g.2.2.2 8))] [] := by
                  intro n199
                  induction n199 using Nat.strongRecOn with
                  | ind n199 ih199 =>
                    intro i199 G199 hn199 hv199_0 hv199_1
                    have hV := hv199_1
                    have hI := hV.1
                    have hB := hV.bd
                    have hC := hV.2.1
                    have hT := hV.2.2.1
                    refine V_iload X dL_company_199 0 rfl ?_
                    refine V_iload X dL_company_201 1 rfl ?_
                    refine V_icmpgeN X (by omega) (by omega) (tgt := 254) dL_company_203 (by decide) (fun h9 => ?_) (fun h9 => ?_)
                    · -- 203 true
                      have hV : jV (2 + r2) r8 (1 + r5) 0 0 0 G199 := by have z := hV; rw [show i199 = r8 by omega] at z; exact z
                      refine V_aload_n X dL_company_254 5 rfl ?_
                      refine V_bipush (v := nI 11) X dL_company_255 (by decide) ?_
                      refine V_callS (rest := []) X E.room ml_L_12 st_L_cell (by decide) (by decide) (k_L_cell (σ := ((X0 + 61, n0 + 9 + 440), cW g X0 G199 σ1)) (11) (by omega)) rfl rfl (Nat.le_of_ble_eq_true rfl) ⟨by omega, by omega⟩ dL_company_257 (fun _ _ h => False.elim h) (fun v257 σ' hp257 => ?_)
                      obtain ⟨hp257, rfl⟩ := hp257
                      obtain ⟨r10, rfl⟩ := hp257
                      show V g κ 8 (61) (449) ((X0 + 61, n0 + 9 + 440), cW g X0 G199 σ1) 260 [(5, .int (nI (i199))), (4, .int (nI (r8))), (3, .int (nI (1 + r5))), (2, .int (nI (2 + r2))), (1, .ref (X0 + 0)), (0, .ref (g.2.2.2 8))] [.int (r10)]
                      refine V_bipush (v := nI 7) X dL_company_260 (by decide) ?_
                      refine V_callS (rest := []) X E.room ml_L_18 st_L_below (by decide) (by decide) (k_L_below (σ := ((X0 + 61, n0 + 9 + 440), cW g X0 G199 σ1)) (r10) (7) (by omega) (by omega)) rfl rfl (Nat.le_of_ble_eq_true rfl) ⟨by omega, by omega⟩ dL_company_262 (fun _ _ h => False.elim h) (fun v262 σ' hp262 => ?_)
                      obtain ⟨hp262, rfl⟩ := hp262
                      obtain ⟨r11, hr11, rfl⟩ := hp262
                      show V g κ 8 (61) (449) ((X0 + 61, n0 + 9 + 440), cW g X0 G199 σ1) 265 [(5, .int (nI (i199))), (4, .int (nI (r8))), (3, .int (nI (1 + r5))), (2, .int (nI (2 + r2))), (1, .ref (X0 + 0)), (0, .ref (g.2.2.2 8))] [.int (nI (r11))]
                      refine V_istore X [(5, .int (nI (r11))), (4, .int (nI (r8))), (3, .int (nI (1 + r5))), (2, .int (nI (2 + r2))), (1, .ref (X0 + 0)), (0, .ref (g.2.2.2 8))] dL_company_265 (by decide) rfl ?_
                      refine V_iconst (v := nI 0) X dL_company_267 (by decide) ?_
                      refine V_istore X [(6, .int (nI (0))), (5, .int (nI (r11))), (4, .int (nI (r8))), (3, .int (nI (1 + r5))), (2, .int (nI (2 + r2))), (1, .ref (X0 + 0)), (0, .ref (g.2.2.2 8))] dL_company_268 (by decide) rfl ?_
                      have L270 : ∀ (n270 : Nat) (i270 : Nat) (G270 : Nat → Nat → Int32), n270 = r11 - i270 → i270 ≤ r11 → jV (2 + r2) r8 (1 + r5) i270 0 0 G270 → V g κ 8 (61) (449) ((X0 + 61, n0 + 9 + 440), cW g X0 G270 σ1) 270 [(6, .int (nI (i270))), (5, .int (nI (r11))), (4, .int (nI (r8))), (3, .int (nI (1 + r5))), (2, .int (nI (2 + r2))), (1, .ref (X0 + 0)), (0, .ref (g.2.2.2 8))] [] := by
                        intro n270
                        induction n270 using Nat.strongRecOn with
                        | ind n270 ih270 =>
                          intro i270 G270 hn270 hv270_0 hv270_1
                          have hV := hv270_1
                          have hI := hV.1
                          have hB := hV.bd
                          have hC := hV.2.1
                          have hT := hV.2.2.1
                          refine V_iload X dL_company_270 0 rfl ?_
                          refine V_iload X dL_company_272 1 rfl ?_
                          refine V_icmpgeN X (by omega) (by omega) (tgt := 339) dL_company_274 (by decide) (fun h12 => ?_) (fun h12 => ?_)
                          · -- 274 true
                            have hV : jV (2 + r2) r8 (1 + r5) r11 0 0 G270 := by have z := hV; rw [show i270 = r11 by omega] at z; exact z
                            refine V_aload_n X dL_company_339 6 rfl ?_
                            refine V_bipush (v := nI 13) X dL_company_340 (by decide) ?_
                            refine V_callS (rest := []) X E.room ml_L_12 st_L_cell (by decide) (by decide) (k_L_cell (σ := ((X0 + 61, n0 + 9 + 440), cW g X0 G270 σ1)) (13) (by omega)) rfl rfl (Nat.le_of_ble_eq_true rfl) ⟨by omega, by omega⟩ dL_company_342 (fun _ _ h => False.elim h) (fun v342 σ' hp342 => ?_)
                            obtain ⟨hp342, rfl⟩ := hp342
                            obtain ⟨r13, rfl⟩ := hp342
                            show V g κ 8 (61) (449) ((X0 + 61, n0 + 9 + 440), cW g X0 G270 σ1) 345 [(6, .int (nI (i270))), (5, .int (nI (r11))), (4, .int (nI (r8))), (3, .int (nI (1 + r5))), (2, .int (nI (2 + r2))), (1, .ref (X0 + 0)), (0, .ref (g.2.2.2 8))] [.int (r13)]
                            refine V_bipush (v := nI 6) X dL_company_345 (by decide) ?_
                            refine V_callS (rest := []) X E.room ml_L_18 st_L_below (by decide) (by decide) (k_L_below (σ := ((X0 + 61, n0 + 9 + 440), cW g X0 G270 σ1)) (r13) (6) (by omega) (by omega)) rfl rfl (Nat.le_of_ble_eq_true rfl) ⟨by omega, by omega⟩ dL_company_347 (fun _ _ h => False.elim h) (fun v347 σ' hp347 => ?_)
                            obtain ⟨hp347, rfl⟩ := hp347
                            obtain ⟨r14, hr14, rfl⟩ := hp347
                            show V g κ 8 (61) (449) ((X0 + 61, n0 + 9 + 440), cW g X0 G270 σ1) 350 [(6, .int (nI (i270))), (5, .int (nI (r11))), (4, .int (nI (r8))), (3, .int (nI (1 + r5))), (2, .int (nI (2 + r2))), (1, .ref (X0 + 0)), (0, .ref (g.2.2.2 8))] [.int (nI (r14))]
                            refine V_istore X [(6, .int (nI (r14))), (5, .int (nI (r11))), (4, .int (nI (r8))), (3, .int (nI (1 + r5))), (2, .int (nI (2 + r2))), (1, .ref (X0 + 0)), (0, .ref (g.2.2.2 8))] dL_company_350 (by decide) rfl ?_
                            refine V_iconst (v := nI 0) X dL_company_352 (by decide) ?_
                            refine V_istore X [(7, .int (nI (0))), (6, .int (nI (r14))), (5, .int (nI (r11))), (4, .int (nI (r8))), (3, .int (nI (1 + r5))), (2, .int (nI (2 + r2))), (1, .ref (X0 + 0)), (0, .ref (g.2.2.2 8))] dL_company_353 (by decide) rfl ?_
                            have L355 : ∀ (n355 : Nat) (i355 : Nat) (G355 : Nat → Nat → Int32), n355 = r14 - i355 → i355 ≤ r14 → jV (2 + r2) r8 (1 + r5) r11 i355 0 G355 → V g κ 8 (61) (449) ((X0 + 61, n0 + 9 + 440), cW g X0 G355 σ1) 355 [(7, .int (nI (i355))), (6, .int (nI (r14))), (5, .int (nI (r11))), (4, .int (nI (r8))), (3, .int (nI (1 + r5))), (2, .int (nI (2 + r2))), (1, .ref (X0 + 0)), (0, .ref (g.2.2.2 8))] [] := by
                              intro n355
                              induction n355 using Nat.strongRecOn with
                              | ind n355 ih355 =>
                                intro i355 G355 hn355 hv355_0 hv355_1
                                have hV := hv355_1
                                have hI := hV.1
                                have hB := hV.bd
                                have hC := hV.2.1
                                have hT := hV.2.2.1
                                refine V_iload X dL_company_355 0 rfl ?_
                                refine V_iload X dL_company_357 1 rfl ?_
                                refine V_icmpgeN X (by omega) (by omega) (tgt := 422) dL_company_359 (by decide) (fun h15 => ?_) (fun h15 => ?_)
                                · -- 359 true
                                  have hV : jV (2 + r2) r8 (1 + r5) r11 r14 0 G355 := by have z := hV; rw [show i355 = r14 by omega] at z; exact z
                                  refine V_aload_n X dL_company_422 6 rfl ?_
                                  exact V_aret X E (Or.inl ⟨_, rfl⟩) (Or.inr ⟨_, rfl⟩) (by omega) (by omega) ⟨rfl, _, _, _, _, _, _, _, _, rfl, by omega, hV⟩ dL_company_423
                                · -- 359 false
                                  refine V_aload_n X dL_company_362 6 rfl ?_
                                  refine V_aload_n X dL_company_363 7 rfl ?_
                                  refine V_bipush (v := nI 13) X dL_company_364 (by decide) ?_
                                  refine V_callS (rest := [.ref (X0 + 0)]) X E.room ml_L_12 st_L_cell (by decide) (by decide) (k_L_cell (σ := ((X0 + 61, n0 + 9 + 440), cW g X0 G355 σ1)) (13) (by omega)) rfl rfl (Nat.le_of_ble_eq_true rfl) ⟨by omega, by omega⟩ dL_company_366 (fun _ _ h => False.elim h) (fun v366 σ' hp366 => ?_)
                                  obtain ⟨hp366, rfl⟩ := hp366
                                  obtain ⟨r16, rfl⟩ := hp366
                                  show V g κ 8 (61) (449) ((X0 + 61, n0 + 9 + 440), cW g X0 G355 σ1) 369 [(7, .int (nI (i355))), (6, .int (nI (r14))), (5, .int (nI (r11))), (4, .int (nI (r8))), (3, .int (nI (1 + r5))), (2, .int (nI (2 + r2))), (1, .ref (X0 + 0)), (0, .ref (g.2.2.2 8))] [.int (r16), .ref (X0 + 0)]
                                  refine V_iconst (v := nI 4) X dL_company_369 (by decide) ?_
                                  refine V_iload X dL_company_370 0 rfl ?_
                                  refine V_imul X dL_company_372 (V.topi (fun w17 ew17 => ?_))
                                  refine V_ishr X dL_company_373 (V.topi (fun w18 ew18 => ?_))
                                  refine V_bipush (v := nI 60) X dL_company_374 (by decide) ?_
                                  refine V_callS (rest := [.ref (X0 + 0)]) X E.room ml_L_18 st_L_below (by decide) (by decide) (k_L_below (σ := ((X0 + 61, n0 + 9 + 440), cW g X0 G355 σ1)) (w18) (60) (by omega) (by omega)) rfl rfl (Nat.le_of_ble_eq_true rfl) ⟨by omega, by omega⟩ dL_company_376 (fun _ _ h => False.elim h) (fun v376 σ' hp376 => ?_)
                                  obtain ⟨hp376, rfl⟩ := hp376
                                  obtain ⟨r19, hr19, rfl⟩ := hp376
                                  show V g κ 8 (61) (449) ((X0 + 61, n0 + 9 + 440), cW g X0 G355 σ1) 379 [(7, .int (nI (i355))), (6, .int (nI (r14))), (5, .int (nI (r11))), (4, .int (nI (r8))), (3, .int (nI (1 + r5))), (2, .int (nI (2 + r2))), (1, .ref (X0 + 0)), (0, .ref (g.2.2.2 8))] [.int (nI (r19)), .ref (X0 + 0)]
                                  refine V_aload_n X dL_company_379 7 rfl ?_
                                  refine V_bipush (v := nI 14) X dL_company_380 (by decide) ?_
                                  refine V_callS (rest := [.int (nI (r19)), .ref (X0 + 0)]) X E.room ml_L_12 st_L_cell (by decide) (by decide) (k_L_cell (σ := ((X0 + 61, n0 + 9 + 440), cW g X0 G355 σ1)) (14) (by omega)) rfl rfl (Nat.le_of_ble_eq_true rfl) ⟨by omega, by omega⟩ dL_company_382 (fun _ _ h => False.elim h) (fun v382 σ' hp382 => ?_)
                                  obtain ⟨hp382, rfl⟩ := hp382
                                  obtain ⟨r20, rfl⟩ := hp382
                                  show V g κ 8 (61) (449) ((X0 + 61, n0 + 9 + 440), cW g X0 G355 σ1) 385 [(7, .int (nI (i355))), (6, .int (nI (r14))), (5, .int (nI (r11))), (4, .int (nI (r8))), (3, .int (nI (1 + r5))), (2, .int (nI (2 + r2))), (1, .ref (X0 + 0)), (0, .ref (g.2.2.2 8))] [.int (r20), .int (nI (r19)), .ref (X0 + 0)]
                                  refine V_iconst (v := nI 4) X dL_company_385 (by decide) ?_
                                  refine V_iload X dL_company_386 0 rfl ?_
                                  refine V_imul X dL_company_388 (V.topi (fun w21 ew21 => ?_))
                                  refine V_ishr X dL_company_389 (V.topi (fun w22 ew22 => ?_))
                                  refine V_bipush (v := nI 60) X dL_company_390 (by decide) ?_
                                  refine V_callS (rest := [.int (nI (r19)), .ref (X0 + 0)]) X E.room ml_L_18 st_L_below (by decide) (by decide) (k_L_below (σ := ((X0 + 61, n0 + 9 + 440), cW g X0 G355 σ1)) (w22) (60) (by omega) (by omega)) rfl rfl (Nat.le_of_ble_eq_true rfl) ⟨by omega, by omega⟩ dL_company_392 (fun _ _ h => False.elim h) (fun v392 σ' hp392 => ?_)
                                  obtain ⟨hp392, rfl⟩ := hp392
                                  obtain ⟨r23, hr23, rfl⟩ := hp392
                                  show V g κ 8 (61) (449) ((X0 + 61, n0 + 9 + 440), cW g X0 G355 σ1) 395 [(7, .int (nI (i355))), (6, .int (nI (r14))), (5, .int (nI (r11))), (4, .int (nI (r8))), (3, .int (nI (1 + r5))), (2, .int (nI (2 + r2))), (1, .ref (X0 + 0)), (0, .ref (g.2.2.2 8))] [.int (nI (r23)), .int (nI (r19)), .ref (X0 + 0)]
                                  refine V_aload_n X dL_company_395 7 rfl ?_
                                  refine V_bipush (v := nI 14) X dL_company_396 (by decide) ?_
                                  refine V_callS (rest := [.int (nI (r23)), .int (nI (r19)), .ref (X0 + 0)]) X E.room ml_L_12 st_L_cell (by decide) (by decide) (k_L_cell (σ := ((X0 + 61, n0 + 9 + 440), cW g X0 G355 σ1)) (14) (by omega)) rfl rfl (Nat.le_of_ble_eq_true rfl) ⟨by omega, by omega⟩ dL_company_398 (fun _ _ h => False.elim h) (fun v398 σ' hp398 => ?_)
                                  obtain ⟨hp398, rfl⟩ := hp398
                                  obtain ⟨r24, rfl⟩ := hp398
                                  show V g κ 8 (61) (449) ((X0 + 61, n0 + 9 + 440), cW g X0 G355 σ1) 401 [(7, .int (nI (i355))), (6, .int (nI (r14))), (5, .int (nI (r11))), (4, .int (nI (r8))), (3, .int (nI (1 + r5))), (2, .int (nI (2 + r2))), (1, .ref (X0 + 0)), (0, .ref (g.2.2.2 8))] [.int (r24), .int (nI (r23)), .int (nI (r19)), .ref (X0 + 0)]
                                  refine V_iconst (v := nI 3) X dL_company_401 (by decide) ?_
                                  refine V_iload X dL_company_402 0 rfl ?_
                                  refine V_imul X dL_company_404 (V.topi (fun w25 ew25 => ?_))
                                  refine V_ishr X dL_company_405 (V.topi (fun w26 ew26 => ?_))
                                  refine V_sipush (v := nI 1000) X dL_company_406 (by decide) ?_
                                  refine V_callS (rest := [.int (nI (r23)), .int (nI (r19)), .ref (X0 + 0)]) X E.room ml_L_18 st_L_below (by decide) (by decide) (k_L_below (σ := ((X0 + 61, n0 + 9 + 440), cW g X0 G355 σ1)) (w26) (1000) (by omega) (by omega)) rfl rfl (Nat.le_of_ble_eq_true rfl) ⟨by omega, by omega⟩ dL_company_409 (fun _ _ h => False.elim h) (fun v409 σ' hp409 => ?_)
                                  obtain ⟨hp409, rfl⟩ := hp409
                                  obtain ⟨r27, hr27, rfl⟩ := hp409
                                  show V g κ 8 (61) (449) ((X0 + 61, n0 + 9 + 440), cW g X0 G355 σ1) 412 [(7, .int (nI (i355))), (6, .int (nI (r14))), (5, .int (nI (r11))), (4, .int (nI (r8))), (3, .int (nI (1 + r5))), (2, .int (nI (2 + r2))), (1, .ref (X0 + 0)), (0, .ref (g.2.2.2 8))] [.int (nI (r27)), .int (nI (r23)), .int (nI (r19)), .ref (X0 + 0)]
                                  refine V_callV (rest := []) X E.room ml_L_35 in_X5_town (ci := 7) rfl se_X5_town (C_recv (q := 0) (by decide) rfl) (by decide) (by decide) (k_X5_town hX hI hG (nI (r19)) (nI (r23)) (nI (r27)) hT hB hC) rfl rfl (Nat.le_of_ble_eq_true rfl) ⟨by omega, by omega⟩ dL_company_412 (fun _ _ h => False.elim (h.1.elim (fun q => q.elim (fun q => q.1 (⟨_, rfl, by omega, by omega⟩)) (fun q => (fun q => q.elim (fun q => q.1 (⟨_, rfl, by omega, by omega⟩)) (fun q => (fun q => q.elim (fun q => q.1 (⟨_, rfl, by omega, by omega⟩)) (fun q => (fun q => q.elim (fun q => q.1 (by omega)) (fun q => (fun q => q) q.2)) q.2)) q.2)) q.2)) id)) (fun v9 σ' hp9 => ?_)
                                  obtain ⟨rfl, hg1, hg2, F28, rfl, hI2, hz, hT2⟩ := hp9
                                  have hVF28 := jV_town hV hg1 hI2 hz hT2
                                  refine V.shrink B 61 449 (Nat.le_refl _) (by show n0 + 9 + 440 ≤ n0 + 449; omega) ?_
                                  show V g κ 8 (61) (449) ((X0 + 61, n0 + 9 + 440), cW g X0 F28 σ1) 415 [(7, .int (nI (i355))), (6, .int (nI (r14))), (5, .int (nI (r11))), (4, .int (nI (r8))), (3, .int (nI (1 + r5))), (2, .int (nI (2 + r2))), (1, .ref (X0 + 0)), (0, .ref (g.2.2.2 8))] [.int (nI (i355))]
                                  refine V_pop X dL_company_415 rfl ?_
                                  refine V_iinc X (nI (i355 + 1)) [(7, .int (nI (i355 + 1))), (6, .int (nI (r14))), (5, .int (nI (r11))), (4, .int (nI (r8))), (3, .int (nI (1 + r5))), (2, .int (nI (2 + r2))), (1, .ref (X0 + 0)), (0, .ref (g.2.2.2 8))] dL_company_416 0 rfl (zinc _) (by decide) rfl ?_
                                  refine V_goto (tgt := 355) X dL_company_419 (by decide) ?_
                                  exact V.sub [0, 1, 2, 3, 4, 5, 6, 7] rfl (ih355 _ (by omega) (i355 + 1) F28 rfl  (by omega) (hVF28))
                            exact L355 _ (0) G270 rfl  (by omega) (hV)
                          · -- 274 false
                            refine V_aload_n X dL_company_277 5 rfl ?_
                            refine V_aload_n X dL_company_278 6 rfl ?_
                            refine V_bipush (v := nI 12) X dL_company_279 (by decide) ?_
                            refine V_callS (rest := [.ref (X0 + 0)]) X E.room ml_L_12 st_L_cell (by decide) (by decide) (k_L_cell (σ := ((X0 + 61, n0 + 9 + 440), cW g X0 G270 σ1)) (12) (by omega)) rfl rfl (Nat.le_of_ble_eq_true rfl) ⟨by omega, by omega⟩ dL_company_281 (fun _ _ h => False.elim h) (fun v281 σ' hp281 => ?_)
                            obtain ⟨hp281, rfl⟩ := hp281
                            obtain ⟨r29, rfl⟩ := hp281
                            show V g κ 8 (61) (449) ((X0 + 61, n0 + 9 + 440), cW g X0 G270 σ1) 284 [(6, .int (nI (i270))), (5, .int (nI (r11))), (4, .int (nI (r8))), (3, .int (nI (1 + r5))), (2, .int (nI (2 + r2))), (1, .ref (X0 + 0)), (0, .ref (g.2.2.2 8))] [.int (r29), .ref (X0 + 0)]
                            refine V_iconst (v := nI 2) X dL_company_284 (by decide) ?_
                            refine V_iload X dL_company_285 0 rfl ?_
                            refine V_imul X dL_company_287 (V.topi (fun w30 ew30 => ?_))
                            refine V_ishr X dL_company_288 (V.topi (fun w31 ew31 => ?_))
                            refine V_iconst (v := nI 4) X dL_company_289 (by decide) ?_
                            refine V_callS (rest := [.ref (X0 + 0)]) X E.room ml_L_18 st_L_below (by decide) (by decide) (k_L_below (σ := ((X0 + 61, n0 + 9 + 440), cW g X0 G270 σ1)) (w31) (4) (by omega) (by omega)) rfl rfl (Nat.le_of_ble_eq_true rfl) ⟨by omega, by omega⟩ dL_company_290 (fun _ _ h => False.elim h) (fun v290 σ' hp290 => ?_)
                            obtain ⟨hp290, rfl⟩ := hp290
                            obtain ⟨r32, hr32, rfl⟩ := hp290
                            show V g κ 8 (61) (449) ((X0 + 61, n0 + 9 + 440), cW g X0 G270 σ1) 293 [(6, .int (nI (i270))), (5, .int (nI (r11))), (4, .int (nI (r8))), (3, .int (nI (1 + r5))), (2, .int (nI (2 + r2))), (1, .ref (X0 + 0)), (0, .ref (g.2.2.2 8))] [.int (nI (r32)), .ref (X0 + 0)]
                            refine V_iconst (v := nI 1) X dL_company_293 (by decide) ?_
                            refine V_aload_n X dL_company_294 6 rfl ?_
                            refine V_bipush (v := nI 12) X dL_company_295 (by decide) ?_
                            refine V_callS (rest := [.int (nI (1)), .int (nI (r32)), .ref (X0 + 0)]) X E.room ml_L_12 st_L_cell (by decide) (by decide) (k_L_cell (σ := ((X0 + 61, n0 + 9 + 440), cW g X0 G270 σ1)) (12) (by omega)) rfl rfl (Nat.le_of_ble_eq_true rfl) ⟨by omega, by omega⟩ dL_company_297 (fun _ _ h => False.elim h) (fun v297 σ' hp297 => ?_)
                            obtain ⟨hp297, rfl⟩ := hp297
                            obtain ⟨r33, rfl⟩ := hp297
                            show V g κ 8 (61) (449) ((X0 + 61, n0 + 9 + 440), cW g X0 G270 σ1) 300 [(6, .int (nI (i270))), (5, .int (nI (r11))), (4, .int (nI (r8))), (3, .int (nI (1 + r5))), (2, .int (nI (2 + r2))), (1, .ref (X0 + 0)), (0, .ref (g.2.2.2 8))] [.int (r33), .int (nI (1)), .int (nI (r32)), .ref (X0 + 0)]
                            refine V_iconst (v := nI 3) X dL_company_300 (by decide) ?_
                            refine V_iload X dL_company_301 0 rfl ?_
                            refine V_imul X dL_company_303 (V.topi (fun w34 ew34 => ?_))
                            refine V_ishr X dL_company_304 (V.topi (fun w35 ew35 => ?_))
                            refine V_bipush (v := nI 9) X dL_company_305 (by decide) ?_
                            refine V_callS (rest := [.int (nI (1)), .int (nI (r32)), .ref (X0 + 0)]) X E.room ml_L_18 st_L_below (by decide) (by decide) (k_L_below (σ := ((X0 + 61, n0 + 9 + 440), cW g X0 G270 σ1)) (w35) (9) (by omega) (by omega)) rfl rfl (Nat.le_of_ble_eq_true rfl) ⟨by omega, by omega⟩ dL_company_307 (fun _ _ h => False.elim h) (fun v307 σ' hp307 => ?_)
                            obtain ⟨hp307, rfl⟩ := hp307
                            obtain ⟨r36, hr36, rfl⟩ := hp307
                            show V g κ 8 (61) (449) ((X0 + 61, n0 + 9 + 440), cW g X0 G270 σ1) 310 [(6, .int (nI (i270))), (5, .int (nI (r11))), (4, .int (nI (r8))), (3, .int (nI (1 + r5))), (2, .int (nI (2 + r2))), (1, .ref (X0 + 0)), (0, .ref (g.2.2.2 8))] [.int (nI (r36)), .int (nI (1)), .int (nI (r32)), .ref (X0 + 0)]
                            refine V_iaddN X dL_company_310 ?_
                            refine V_iconst (v := nI 1) X dL_company_311 (by decide) ?_
                            refine V_aload_n X dL_company_312 6 rfl ?_
                            refine V_bipush (v := nI 11) X dL_company_313 (by decide) ?_
                            refine V_callS (rest := [.int (nI (1)), .int (nI (1 + r36)), .int (nI (r32)), .ref (X0 + 0)]) X E.room ml_L_12 st_L_cell (by decide) (by decide) (k_L_cell (σ := ((X0 + 61, n0 + 9 + 440), cW g X0 G270 σ1)) (11) (by omega)) rfl rfl (Nat.le_of_ble_eq_true rfl) ⟨by omega, by omega⟩ dL_company_315 (fun _ _ h => False.elim h) (fun v315 σ' hp315 => ?_)
                            obtain ⟨hp315, rfl⟩ := hp315
                            obtain ⟨r37, rfl⟩ := hp315
                            show V g κ 8 (61) (449) ((X0 + 61, n0 + 9 + 440), cW g X0 G270 σ1) 318 [(6, .int (nI (i270))), (5, .int (nI (r11))), (4, .int (nI (r8))), (3, .int (nI (1 + r5))), (2, .int (nI (2 + r2))), (1, .ref (X0 + 0)), (0, .ref (g.2.2.2 8))] [.int (r37), .int (nI (1)), .int (nI (1 + r36)), .int (nI (r32)), .ref (X0 + 0)]
                            refine V_iconst (v := nI 3) X dL_company_318 (by decide) ?_
                            refine V_iload X dL_company_319 0 rfl ?_
                            refine V_imul X dL_company_321 (V.topi (fun w38 ew38 => ?_))
                            refine V_ishr X dL_company_322 (V.topi (fun w39 ew39 => ?_))
                            refine V_bipush (v := nI 99) X dL_company_323 (by decide) ?_
                            refine V_callS (rest := [.int (nI (1)), .int (nI (1 + r36)), .int (nI (r32)), .ref (X0 + 0)]) X E.room ml_L_18 st_L_below (by decide) (by decide) (k_L_below (σ := ((X0 + 61, n0 + 9 + 440), cW g X0 G270 σ1)) (w39) (99) (by omega) (by omega)) rfl rfl (Nat.le_of_ble_eq_true rfl) ⟨by omega, by omega⟩ dL_company_325 (fun _ _ h => False.elim h) (fun v325 σ' hp325 => ?_)
                            obtain ⟨hp325, rfl⟩ := hp325
                            obtain ⟨r40, hr40, rfl⟩ := hp325
                            show V g κ 8 (61) (449) ((X0 + 61, n0 + 9 + 440), cW g X0 G270 σ1) 328 [(6, .int (nI (i270))), (5, .int (nI (r11))), (4, .int (nI (r8))), (3, .int (nI (1 + r5))), (2, .int (nI (2 + r2))), (1, .ref (X0 + 0)), (0, .ref (g.2.2.2 8))] [.int (nI (r40)), .int (nI (1)), .int (nI (1 + r36)), .int (nI (r32)), .ref (X0 + 0)]
                            refine V_iaddN X dL_company_328 ?_
                            refine V_callV (rest := []) X E.room ml_L_32 in_X5_coat (ci := 7) rfl se_X5_coat (C_recv (q := 0) (by decide) rfl) (by decide) (by decide) (k_X5_coat hX hI hG (nI (r32)) (nI (1 + r36)) (nI (1 + r40)) hB hC) rfl rfl (Nat.le_of_ble_eq_true rfl) ⟨by omega, by omega⟩ dL_company_329 (fun _ _ h => False.elim (h.1.elim (fun q => q.elim (fun q => q.1 (⟨_, rfl, by omega, by omega⟩)) (fun q => (fun q => q.elim (fun q => q.1 (⟨_, rfl, by omega, by omega⟩)) (fun q => (fun q => q.elim (fun q => q.1 (⟨_, rfl, by omega, by omega⟩)) (fun q => (fun q => q.elim (fun q => q.1 (by omega)) (fun q => (fun q => q) q.2)) q.2)) q.2)) q.2)) id)) (fun v9 σ' hp9 => ?_)
                            obtain ⟨rfl, hg1, hg2, F41, rfl, hI2, hz⟩ := hp9
                            have hVF41 := jV_coat hV hg1 hI2 hz
                            refine V.shrink B 61 449 (Nat.le_refl _) (by show n0 + 9 + 440 ≤ n0 + 449; omega) ?_
                            show V g κ 8 (61) (449) ((X0 + 61, n0 + 9 + 440), cW g X0 F41 σ1) 332 [(6, .int (nI (i270))), (5, .int (nI (r11))), (4, .int (nI (r8))), (3, .int (nI (1 + r5))), (2, .int (nI (2 + r2))), (1, .ref (X0 + 0)), (0, .ref (g.2.2.2 8))] [.int (nI (i270))]
                            refine V_pop X dL_company_332 rfl ?_
                            refine V_iinc X (nI (i270 + 1)) [(6, .int (nI (i270 + 1))), (5, .int (nI (r11))), (4, .int (nI (r8))), (3, .int (nI (1 + r5))), (2, .int (nI (2 + r2))), (1, .ref (X0 + 0)), (0, .ref (g.2.2.2 8))] dL_company_333 0 rfl (zinc _) (by decide) rfl ?_
                            refine V_goto (tgt := 270) X dL_company_336 (by decide) ?_
                            exact V.sub [0, 1, 2, 3, 4, 5, 6] rfl (ih270 _ (by omega) (i270 + 1) F41 rfl  (by omega) (hVF41))
                      exact L270 _ (0) G199 rfl  (by omega) (hV)
                    · -- 203 false
                      refine V_aload_n X dL_company_206 4 rfl ?_
                      refine V_iconst (v := nI 1) X dL_company_207 (by decide) ?_
                      refine V_aload_n X dL_company_208 5 rfl ?_
                      refine V_bipush (v := nI 9) X dL_company_209 (by decide) ?_
                      refine V_callS (rest := [.int (nI (1)), .ref (X0 + 0)]) X E.room ml_L_12 st_L_cell (by decide) (by decide) (k_L_cell (σ := ((X0 + 61, n0 + 9 + 440), cW g X0 G199 σ1)) (9) (by omega)) rfl rfl (Nat.le_of_ble_eq_true rfl) ⟨by omega, by omega⟩ dL_company_211 (fun _ _ h => False.elim h) (fun v211 σ' hp211 => ?_)
                      obtain ⟨hp211, rfl⟩ := hp211
                      obtain ⟨r42, rfl⟩ := hp211
                      show V g κ 8 (61) (449) ((X0 + 61, n0 + 9 + 440), cW g X0 G199 σ1) 214 [(5, .int (nI (i199))), (4, .int (nI (r8))), (3, .int (nI (1 + r5))), (2, .int (nI (2 + r2))), (1, .ref (X0 + 0)), (0, .ref (g.2.2.2 8))] [.int (r42), .int (nI (1)), .ref (X0 + 0)]
                      refine V_iconst (v := nI 5) X dL_company_214 (by decide) ?_
                      refine V_iload X dL_company_215 0 rfl ?_
                      refine V_imul X dL_company_217 (V.topi (fun w43 ew43 => ?_))
                      refine V_ishr X dL_company_218 (V.topi (fun w44 ew44 => ?_))
                      refine V_iconst (v := nI 1) X dL_company_219 (by decide) ?_
                      refine V_iload_n X dL_company_220 3 rfl ?_
                      have hq1 : 2 ^ 2 ≤ 2 ^ (2 + r2) := Nat.pow_le_pow_right (by decide) (by omega)
                      have hq2 : 2 ^ (2 + r2) ≤ 128 := zp2 (n := 7) (by omega)
                      refine V_ishl1 X (by omega) dL_company_221 ?_
                      refine V_iconst (v := nI 1) X dL_company_222 (by decide) ?_
                      refine V_isubN X (by omega) dL_company_223 ?_
                      refine V_callS (rest := [.int (nI (1)), .ref (X0 + 0)]) X E.room ml_L_18 st_L_below (by decide) (by decide) (k_L_below (σ := ((X0 + 61, n0 + 9 + 440), cW g X0 G199 σ1)) (w44) (2 ^ (2 + r2) - 1) (by omega) (by omega)) rfl rfl (Nat.le_of_ble_eq_true rfl) ⟨by omega, by omega⟩ dL_company_224 (fun _ _ h => False.elim h) (fun v224 σ' hp224 => ?_)
                      obtain ⟨hp224, rfl⟩ := hp224
                      obtain ⟨r45, hr45, rfl⟩ := hp224
                      show V g κ 8 (61) (449) ((X0 + 61, n0 + 9 + 440), cW g X0 G199 σ1) 227 [(5, .int (nI (i199))), (4, .int (nI (r8))), (3, .int (nI (1 + r5))), (2, .int (nI (2 + r2))), (1, .ref (X0 + 0)), (0, .ref (g.2.2.2 8))] [.int (nI (r45)), .int (nI (1)), .ref (X0 + 0)]
                      refine V_iaddN X dL_company_227 ?_
                      refine V_aload_n X dL_company_228 5 rfl ?_
                      refine V_bipush (v := nI 10) X dL_company_229 (by decide) ?_
                      refine V_callS (rest := [.int (nI (1 + r45)), .ref (X0 + 0)]) X E.room ml_L_12 st_L_cell (by decide) (by decide) (k_L_cell (σ := ((X0 + 61, n0 + 9 + 440), cW g X0 G199 σ1)) (10) (by omega)) rfl rfl (Nat.le_of_ble_eq_true rfl) ⟨by omega, by omega⟩ dL_company_231 (fun _ _ h => False.elim h) (fun v231 σ' hp231 => ?_)
                      obtain ⟨hp231, rfl⟩ := hp231
                      obtain ⟨r46, rfl⟩ := hp231
                      show V g κ 8 (61) (449) ((X0 + 61, n0 + 9 + 440), cW g X0 G199 σ1) 234 [(5, .int (nI (i199))), (4, .int (nI (r8))), (3, .int (nI (1 + r5))), (2, .int (nI (2 + r2))), (1, .ref (X0 + 0)), (0, .ref (g.2.2.2 8))] [.int (r46), .int (nI (1 + r45)), .ref (X0 + 0)]
                      refine V_iconst (v := nI 3) X dL_company_234 (by decide) ?_
                      refine V_iload X dL_company_235 0 rfl ?_
                      refine V_imul X dL_company_237 (V.topi (fun w47 ew47 => ?_))
                      refine V_ishr X dL_company_238 (V.topi (fun w48 ew48 => ?_))
                      refine V_bipush (v := nI 10) X dL_company_239 (by decide) ?_
                      refine V_callS (rest := [.int (nI (1 + r45)), .ref (X0 + 0)]) X E.room ml_L_18 st_L_below (by decide) (by decide) (k_L_below (σ := ((X0 + 61, n0 + 9 + 440), cW g X0 G199 σ1)) (w48) (10) (by omega) (by omega)) rfl rfl (Nat.le_of_ble_eq_true rfl) ⟨by omega, by omega⟩ dL_company_241 (fun _ _ h => False.elim h) (fun v241 σ' hp241 => ?_)
                      obtain ⟨hp241, rfl⟩ := hp241
                      obtain ⟨r49, hr49, rfl⟩ := hp241
                      show V g κ 8 (61) (449) ((X0 + 61, n0 + 9 + 440), cW g X0 G199 σ1) 244 [(5, .int (nI (i199))), (4, .int (nI (r8))), (3, .int (nI (1 + r5))), (2, .int (nI (2 + r2))), (1, .ref (X0 + 0)), (0, .ref (g.2.2.2 8))] [.int (nI (r49)), .int (nI (1 + r45)), .ref (X0 + 0)]
                      refine V_callV (rest := []) X E.room ml_L_29 in_X5_scene (ci := 7) rfl se_X5_scene (C_recv (q := 0) (by decide) rfl) (by decide) (by decide) (k_X5_scene hX hI hG (nI (1 + r45)) (nI (r49)) hB hC) rfl rfl (Nat.le_of_ble_eq_true rfl) ⟨by omega, by omega⟩ dL_company_244 (fun _ _ h => False.elim (h.1.elim (fun q => q.elim (fun q => q.1 (⟨_, rfl, by omega⟩)) (fun q => (fun q => q.elim (fun q => q.1 (⟨_, rfl, by omega, by omega⟩)) (fun q => (fun q => q.elim (fun q => q.1 (⟨_, rfl, by omega, by omega⟩)) (fun q => (fun q => q.elim (fun q => q.1 (by omega)) (fun q => (fun q => q) q.2)) q.2)) q.2)) q.2)) id)) (fun v9 σ' hp9 => ?_)
                      obtain ⟨rfl, hg1, hg2, F50, rfl, hI2, hz⟩ := hp9
                      have hVF50 := jV_scene hV hg1 hI2 hz
                      refine V.shrink B 61 449 (Nat.le_refl _) (by show n0 + 9 + 440 ≤ n0 + 449; omega) ?_
                      show V g κ 8 (61) (449) ((X0 + 61, n0 + 9 + 440), cW g X0 F50 σ1) 247 [(5, .int (nI (i199))), (4, .int (nI (r8))), (3, .int (nI (1 + r5))), (2, .int (nI (2 + r2))), (1, .ref (X0 + 0)), (0, .ref (g.2.2.2 8))] [.int (nI (i199))]
                      refine V_pop X dL_company_247 rfl ?_
                      refine V_iinc X (nI (i199 + 1)) [(5, .int (nI (i199 + 1))), (4, .int (nI (r8))), (3, .int (nI (1 + r5))), (2, .int (nI (2 + r2))), (1, .ref (X0 + 0)), (0, .ref (g.2.2.2 8))] dL_company_248 0 rfl (zinc _) (by decide) rfl ?_
                      refine V_goto (tgt := 199) X dL_company_251 (by decide) ?_
                      exact V.sub [0, 1, 2, 3, 4, 5] rfl (ih199 _ (by omega) (i199 + 1) F50 rfl  (by omega) (hVF50))
                exact L199 _ (0) G94 rfl  (by omega) (hV)
              · -- 97 false
                refine V_aload_n X dL_company_100 3 rfl ?_
                refine V_aload_n X dL_company_101 4 rfl ?_
                refine V_iconst (v := nI 5) X dL_company_102 (by decide) ?_
                refine V_callS (rest := [.ref (X0 + 0)]) X E.room ml_L_12 st_L_cell (by decide) (by decide) (k_L_cell (σ := ((X0 + 61, n0 + 9 + 440), cW g X0 G94 σ1)) (5) (by omega)) rfl rfl (Nat.le_of_ble_eq_true rfl) ⟨by omega, by omega⟩ dL_company_103 (fun _ _ h => False.elim h) (fun v103 σ' hp103 => ?_)
                obtain ⟨hp103, rfl⟩ := hp103
                obtain ⟨r51, rfl⟩ := hp103
                show V g κ 8 (61) (449) ((X0 + 61, n0 + 9 + 440), cW g X0 G94 σ1) 106 [(4, .int (nI (i94))), (3, .int (nI (1 + r5))), (2, .int (nI (2 + r2))), (1, .ref (X0 + 0)), (0, .ref (g.2.2.2 8))] [.int (r51), .ref (X0 + 0)]
                refine V_iconst (v := nI 3) X dL_company_106 (by decide) ?_
                refine V_iload X dL_company_107 0 rfl ?_
                refine V_imul X dL_company_109 (V.topi (fun w52 ew52 => ?_))
                refine V_ishr X dL_company_110 (V.topi (fun w53 ew53 => ?_))
                refine V_iconst (v := nI 5) X dL_company_111 (by decide) ?_
                refine V_callS (rest := [.ref (X0 + 0)]) X E.room ml_L_18 st_L_below (by decide) (by decide) (k_L_below (σ := ((X0 + 61, n0 + 9 + 440), cW g X0 G94 σ1)) (w53) (5) (by omega) (by omega)) rfl rfl (Nat.le_of_ble_eq_true rfl) ⟨by omega, by omega⟩ dL_company_112 (fun _ _ h => False.elim h) (fun v112 σ' hp112 => ?_)
                obtain ⟨hp112, rfl⟩ := hp112
                obtain ⟨r54, hr54, rfl⟩ := hp112
                show V g κ 8 (61) (449) ((X0 + 61, n0 + 9 + 440), cW g X0 G94 σ1) 115 [(4, .int (nI (i94))), (3, .int (nI (1 + r5))), (2, .int (nI (2 + r2))), (1, .ref (X0 + 0)), (0, .ref (g.2.2.2 8))] [.int (nI (r54)), .ref (X0 + 0)]
                refine V_ifneN X (by omega) (tgt := 136) dL_company_115 (by decide) (fun h55 => ?_) (fun h55 => ?_)
                · -- 115 true
                  refine V_bipush (v := nI 7) X dL_company_136 (by decide) ?_
                  refine V_iconst (v := nI 1) X dL_company_138 (by decide) ?_
                  refine V_aload_n X dL_company_139 4 rfl ?_
                  refine V_bipush (v := nI 6) X dL_company_140 (by decide) ?_
                  refine V_callS (rest := [.int (nI (1)), .int (nI (7)), .ref (X0 + 0)]) X E.room ml_L_12 st_L_cell (by decide) (by decide) (k_L_cell (σ := ((X0 + 61, n0 + 9 + 440), cW g X0 G94 σ1)) (6) (by omega)) rfl rfl (Nat.le_of_ble_eq_true rfl) ⟨by omega, by omega⟩ dL_company_142 (fun _ _ h => False.elim h) (fun v142 σ' hp142 => ?_)
                  obtain ⟨hp142, rfl⟩ := hp142
                  obtain ⟨r56, rfl⟩ := hp142
                  show V g κ 8 (61) (449) ((X0 + 61, n0 + 9 + 440), cW g X0 G94 σ1) 145 [(4, .int (nI (i94))), (3, .int (nI (1 + r5))), (2, .int (nI (2 + r2))), (1, .ref (X0 + 0)), (0, .ref (g.2.2.2 8))] [.int (r56), .int (nI (1)), .int (nI (7)), .ref (X0 + 0)]
                  refine V_iconst (v := nI 4) X dL_company_145 (by decide) ?_
                  refine V_iload X dL_company_146 0 rfl ?_
                  refine V_imul X dL_company_148 (V.topi (fun w57 ew57 => ?_))
                  refine V_ishr X dL_company_149 (V.topi (fun w58 ew58 => ?_))
                  refine V_bipush (v := nI 9) X dL_company_150 (by decide) ?_
                  refine V_callS (rest := [.int (nI (1)), .int (nI (7)), .ref (X0 + 0)]) X E.room ml_L_18 st_L_below (by decide) (by decide) (k_L_below (σ := ((X0 + 61, n0 + 9 + 440), cW g X0 G94 σ1)) (w58) (9) (by omega) (by omega)) rfl rfl (Nat.le_of_ble_eq_true rfl) ⟨by omega, by omega⟩ dL_company_152 (fun _ _ h => False.elim h) (fun v152 σ' hp152 => ?_)
                  obtain ⟨hp152, rfl⟩ := hp152
                  obtain ⟨r59, hr59, rfl⟩ := hp152
                  show V g κ 8 (61) (449) ((X0 + 61, n0 + 9 + 440), cW g X0 G94 σ1) 155 [(4, .int (nI (i94))), (3, .int (nI (1 + r5))), (2, .int (nI (2 + r2))), (1, .ref (X0 + 0)), (0, .ref (g.2.2.2 8))] [.int (nI (r59)), .int (nI (1)), .int (nI (7)), .ref (X0 + 0)]
                  refine V_iaddN X dL_company_155 ?_
                  refine V_iconst (v := nI 1) X dL_company_156 (by decide) ?_
                  refine V_aload_n X dL_company_157 4 rfl ?_
                  refine V_bipush (v := nI 7) X dL_company_158 (by decide) ?_
                  refine V_callS (rest := [.int (nI (1)), .int (nI (1 + r59)), .int (nI (7)), .ref (X0 + 0)]) X E.room ml_L_12 st_L_cell (by decide) (by decide) (k_L_cell (σ := ((X0 + 61, n0 + 9 + 440), cW g X0 G94 σ1)) (7) (by omega)) rfl rfl (Nat.le_of_ble_eq_true rfl) ⟨by omega, by omega⟩ dL_company_160 (fun _ _ h => False.elim h) (fun v160 σ' hp160 => ?_)
                  obtain ⟨hp160, rfl⟩ := hp160
                  obtain ⟨r60, rfl⟩ := hp160
                  show V g κ 8 (61) (449) ((X0 + 61, n0 + 9 + 440), cW g X0 G94 σ1) 163 [(4, .int (nI (i94))), (3, .int (nI (1 + r5))), (2, .int (nI (2 + r2))), (1, .ref (X0 + 0)), (0, .ref (g.2.2.2 8))] [.int (r60), .int (nI (1)), .int (nI (1 + r59)), .int (nI (7)), .ref (X0 + 0)]
                  refine V_iconst (v := nI 3) X dL_company_163 (by decide) ?_
                  refine V_iload X dL_company_164 0 rfl ?_
                  refine V_imul X dL_company_166 (V.topi (fun w61 ew61 => ?_))
                  refine V_ishr X dL_company_167 (V.topi (fun w62 ew62 => ?_))
                  refine V_iconst (v := nI 5) X dL_company_168 (by decide) ?_
                  refine V_callS (rest := [.int (nI (1)), .int (nI (1 + r59)), .int (nI (7)), .ref (X0 + 0)]) X E.room ml_L_18 st_L_below (by decide) (by decide) (k_L_below (σ := ((X0 + 61, n0 + 9 + 440), cW g X0 G94 σ1)) (w62) (5) (by omega) (by omega)) rfl rfl (Nat.le_of_ble_eq_true rfl) ⟨by omega, by omega⟩ dL_company_169 (fun _ _ h => False.elim h) (fun v169 σ' hp169 => ?_)
                  obtain ⟨hp169, rfl⟩ := hp169
                  obtain ⟨r63, hr63, rfl⟩ := hp169
                  show V g κ 8 (61) (449) ((X0 + 61, n0 + 9 + 440), cW g X0 G94 σ1) 172 [(4, .int (nI (i94))), (3, .int (nI (1 + r5))), (2, .int (nI (2 + r2))), (1, .ref (X0 + 0)), (0, .ref (g.2.2.2 8))] [.int (nI (r63)), .int (nI (1)), .int (nI (1 + r59)), .int (nI (7)), .ref (X0 + 0)]
                  refine V_iaddN X dL_company_172 ?_
                  refine V_callV (rest := []) X E.room ml_L_26 in_X5_player (ci := 7) rfl se_X5_player (C_recv (q := 0) (by decide) rfl) (by decide) (by decide) (k_X5_player hX hI hG (nI (7)) (nI (1 + r59)) (nI (1 + r63)) hB hC) rfl rfl (Nat.le_of_ble_eq_true rfl) ⟨by omega, by omega⟩ dL_company_173 (fun _ _ h => False.elim (h.1.elim (fun q => q.elim (fun q => q.1 (⟨_, rfl, by omega⟩)) (fun q => (fun q => q.elim (fun q => q.1 (⟨_, rfl, by omega, by omega⟩)) (fun q => (fun q => q.elim (fun q => q.1 (⟨_, rfl, by omega, by omega⟩)) (fun q => (fun q => q.elim (fun q => q.1 (by omega)) (fun q => (fun q => q) q.2)) q.2)) q.2)) q.2)) id)) (fun v9 σ' hp9 => ?_)
                  obtain ⟨rfl, hg1, hg2, F64, rfl, hI2, hz⟩ := hp9
                  have hVF64 := jV_player hV hg1 hI2 hz
                  refine V.shrink B 61 449 (Nat.le_refl _) (by show n0 + 9 + 440 ≤ n0 + 449; omega) ?_
                  show V g κ 8 (61) (449) ((X0 + 61, n0 + 9 + 440), cW g X0 F64 σ1) 176 [(4, .int (nI (i94))), (3, .int (nI (1 + r5))), (2, .int (nI (2 + r2))), (1, .ref (X0 + 0)), (0, .ref (g.2.2.2 8))] [.int (nI (i94))]
                  refine V_pop X dL_company_176 rfl ?_
                  refine V_iinc X (nI (i94 + 1)) [(4, .int (nI (i94 + 1))), (3, .int (nI (1 + r5))), (2, .int (nI (2 + r2))), (1, .ref (X0 + 0)), (0, .ref (g.2.2.2 8))] dL_company_177 0 rfl (zinc _) (by decide) rfl ?_
                  refine V_goto (tgt := 94) X dL_company_180 (by decide) ?_
                  exact V.sub [0, 1, 2, 3, 4] rfl (ih94 _ (by omega) (i94 + 1) F64 rfl  (by omega) (hVF64))
                · -- 115 false
                  refine V_aload_n X dL_company_118 4 rfl ?_
                  refine V_iconst (v := nI 5) X dL_company_119 (by decide) ?_
                  refine V_callS (rest := [.ref (X0 + 0)]) X E.room ml_L_12 st_L_cell (by decide) (by decide) (k_L_cell (σ := ((X0 + 61, n0 + 9 + 440), cW g X0 G94 σ1)) (5) (by omega)) rfl rfl (Nat.le_of_ble_eq_true rfl) ⟨by omega, by omega⟩ dL_company_120 (fun _ _ h => False.elim h) (fun v120 σ' hp120 => ?_)
                  obtain ⟨hp120, rfl⟩ := hp120
                  obtain ⟨r65, rfl⟩ := hp120
                  show V g κ 8 (61) (449) ((X0 + 61, n0 + 9 + 440), cW g X0 G94 σ1) 123 [(4, .int (nI (i94))), (3, .int (nI (1 + r5))), (2, .int (nI (2 + r2))), (1, .ref (X0 + 0)), (0, .ref (g.2.2.2 8))] [.int (r65), .ref (X0 + 0)]
                  refine V_iconst (v := nI 2) X dL_company_123 (by decide) ?_
                  refine V_iload X dL_company_124 0 rfl ?_
                  refine V_imul X dL_company_126 (V.topi (fun w66 ew66 => ?_))
                  refine V_ishr X dL_company_127 (V.topi (fun w67 ew67 => ?_))
                  refine V_bipush (v := nI 16) X dL_company_128 (by decide) ?_
                  refine V_callS (rest := [.ref (X0 + 0)]) X E.room ml_L_18 st_L_below (by decide) (by decide) (k_L_below (σ := ((X0 + 61, n0 + 9 + 440), cW g X0 G94 σ1)) (w67) (16) (by omega) (by omega)) rfl rfl (Nat.le_of_ble_eq_true rfl) ⟨by omega, by omega⟩ dL_company_130 (fun _ _ h => False.elim h) (fun v130 σ' hp130 => ?_)
                  obtain ⟨hp130, rfl⟩ := hp130
                  obtain ⟨r68, hr68, rfl⟩ := hp130
                  show V g κ 8 (61) (449) ((X0 + 61, n0 + 9 + 440), cW g X0 G94 σ1) 133 [(4, .int (nI (i94))), (3, .int (nI (1 + r5))), (2, .int (nI (2 + r2))), (1, .ref (X0 + 0)), (0, .ref (g.2.2.2 8))] [.int (nI (r68)), .ref (X0 + 0)]
                  refine V_goto (tgt := 138) X dL_company_133 (by decide) ?_
                  refine V_iconst (v := nI 1) X dL_company_138 (by decide) ?_
                  refine V_aload_n X dL_company_139 4 rfl ?_
                  refine V_bipush (v := nI 6) X dL_company_140 (by decide) ?_
                  refine V_callS (rest := [.int (nI (1)), .int (nI (r68)), .ref (X0 + 0)]) X E.room ml_L_12 st_L_cell (by decide) (by decide) (k_L_cell (σ := ((X0 + 61, n0 + 9 + 440), cW g X0 G94 σ1)) (6) (by omega)) rfl rfl (Nat.le_of_ble_eq_true rfl) ⟨by omega, by omega⟩ dL_company_142 (fun _ _ h => False.elim h) (fun v142 σ' hp142 => ?_)
                  obtain ⟨hp142, rfl⟩ := hp142
                  obtain ⟨r69, rfl⟩ := hp142
                  show V g κ 8 (61) (449) ((X0 + 61, n0 + 9 + 440), cW g X0 G94 σ1) 145 [(4, .int (nI (i94))), (3, .int (nI (1 + r5))), (2, .int (nI (2 + r2))), (1, .ref (X0 + 0)), (0, .ref (g.2.2.2 8))] [.int (r69), .int (nI (1)), .int (nI (r68)), .ref (X0 + 0)]
                  refine V_iconst (v := nI 4) X dL_company_145 (by decide) ?_
                  refine V_iload X dL_company_146 0 rfl ?_
                  refine V_imul X dL_company_148 (V.topi (fun w70 ew70 => ?_))
                  refine V_ishr X dL_company_149 (V.topi (fun w71 ew71 => ?_))
                  refine V_bipush (v := nI 9) X dL_company_150 (by decide) ?_
                  refine V_callS (rest := [.int (nI (1)), .int (nI (r68)), .ref (X0 + 0)]) X E.room ml_L_18 st_L_below (by decide) (by decide) (k_L_below (σ := ((X0 + 61, n0 + 9 + 440), cW g X0 G94 σ1)) (w71) (9) (by omega) (by omega)) rfl rfl (Nat.le_of_ble_eq_true rfl) ⟨by omega, by omega⟩ dL_company_152 (fun _ _ h => False.elim h) (fun v152 σ' hp152 => ?_)
                  obtain ⟨hp152, rfl⟩ := hp152
                  obtain ⟨r72, hr72, rfl⟩ := hp152
                  show V g κ 8 (61) (449) ((X0 + 61, n0 + 9 + 440), cW g X0 G94 σ1) 155 [(4, .int (nI (i94))), (3, .int (nI (1 + r5))), (2, .int (nI (2 + r2))), (1, .ref (X0 + 0)), (0, .ref (g.2.2.2 8))] [.int (nI (r72)), .int (nI (1)), .int (nI (r68)), .ref (X0 + 0)]
                  refine V_iaddN X dL_company_155 ?_
                  refine V_iconst (v := nI 1) X dL_company_156 (by decide) ?_
                  refine V_aload_n X dL_company_157 4 rfl ?_
                  refine V_bipush (v := nI 7) X dL_company_158 (by decide) ?_
                  refine V_callS (rest := [.int (nI (1)), .int (nI (1 + r72)), .int (nI (r68)), .ref (X0 + 0)]) X E.room ml_L_12 st_L_cell (by decide) (by decide) (k_L_cell (σ := ((X0 + 61, n0 + 9 + 440), cW g X0 G94 σ1)) (7) (by omega)) rfl rfl (Nat.le_of_ble_eq_true rfl) ⟨by omega, by omega⟩ dL_company_160 (fun _ _ h => False.elim h) (fun v160 σ' hp160 => ?_)
                  obtain ⟨hp160, rfl⟩ := hp160
                  obtain ⟨r73, rfl⟩ := hp160
                  show V g κ 8 (61) (449) ((X0 + 61, n0 + 9 + 440), cW g X0 G94 σ1) 163 [(4, .int (nI (i94))), (3, .int (nI (1 + r5))), (2, .int (nI (2 + r2))), (1, .ref (X0 + 0)), (0, .ref (g.2.2.2 8))] [.int (r73), .int (nI (1)), .int (nI (1 + r72)), .int (nI (r68)), .ref (X0 + 0)]
                  refine V_iconst (v := nI 3) X dL_company_163 (by decide) ?_
                  refine V_iload X dL_company_164 0 rfl ?_
                  refine V_imul X dL_company_166 (V.topi (fun w74 ew74 => ?_))
                  refine V_ishr X dL_company_167 (V.topi (fun w75 ew75 => ?_))
                  refine V_iconst (v := nI 5) X dL_company_168 (by decide) ?_
                  refine V_callS (rest := [.int (nI (1)), .int (nI (1 + r72)), .int (nI (r68)), .ref (X0 + 0)]) X E.room ml_L_18 st_L_below (by decide) (by decide) (k_L_below (σ := ((X0 + 61, n0 + 9 + 440), cW g X0 G94 σ1)) (w75) (5) (by omega) (by omega)) rfl rfl (Nat.le_of_ble_eq_true rfl) ⟨by omega, by omega⟩ dL_company_169 (fun _ _ h => False.elim h) (fun v169 σ' hp169 => ?_)
                  obtain ⟨hp169, rfl⟩ := hp169
                  obtain ⟨r76, hr76, rfl⟩ := hp169
                  show V g κ 8 (61) (449) ((X0 + 61, n0 + 9 + 440), cW g X0 G94 σ1) 172 [(4, .int (nI (i94))), (3, .int (nI (1 + r5))), (2, .int (nI (2 + r2))), (1, .ref (X0 + 0)), (0, .ref (g.2.2.2 8))] [.int (nI (r76)), .int (nI (1)), .int (nI (1 + r72)), .int (nI (r68)), .ref (X0 + 0)]
                  refine V_iaddN X dL_company_172 ?_
                  refine V_callV (rest := []) X E.room ml_L_26 in_X5_player (ci := 7) rfl se_X5_player (C_recv (q := 0) (by decide) rfl) (by decide) (by decide) (k_X5_player hX hI hG (nI (r68)) (nI (1 + r72)) (nI (1 + r76)) hB hC) rfl rfl (Nat.le_of_ble_eq_true rfl) ⟨by omega, by omega⟩ dL_company_173 (fun _ _ h => False.elim (h.1.elim (fun q => q.elim (fun q => q.1 (⟨_, rfl, by omega⟩)) (fun q => (fun q => q.elim (fun q => q.1 (⟨_, rfl, by omega, by omega⟩)) (fun q => (fun q => q.elim (fun q => q.1 (⟨_, rfl, by omega, by omega⟩)) (fun q => (fun q => q.elim (fun q => q.1 (by omega)) (fun q => (fun q => q) q.2)) q.2)) q.2)) q.2)) id)) (fun v9 σ' hp9 => ?_)
                  obtain ⟨rfl, hg1, hg2, F77, rfl, hI2, hz⟩ := hp9
                  have hVF77 := jV_player hV hg1 hI2 hz
                  refine V.shrink B 61 449 (Nat.le_refl _) (by show n0 + 9 + 440 ≤ n0 + 449; omega) ?_
                  show V g κ 8 (61) (449) ((X0 + 61, n0 + 9 + 440), cW g X0 F77 σ1) 176 [(4, .int (nI (i94))), (3, .int (nI (1 + r5))), (2, .int (nI (2 + r2))), (1, .ref (X0 + 0)), (0, .ref (g.2.2.2 8))] [.int (nI (i94))]
                  refine V_pop X dL_company_176 rfl ?_
                  refine V_iinc X (nI (i94 + 1)) [(4, .int (nI (i94 + 1))), (3, .int (nI (1 + r5))), (2, .int (nI (2 + r2))), (1, .ref (X0 + 0)), (0, .ref (g.2.2.2 8))] dL_company_177 0 rfl (zinc _) (by decide) rfl ?_
                  refine V_goto (tgt := 94) X dL_company_180 (by decide) ?_
                  exact V.sub [0, 1, 2, 3, 4] rfl (ih94 _ (by omega) (i94 + 1) F77 rfl  (by omega) (hVF77))
          exact L94 _ (0) G23 rfl  (by omega) (hV)
        · -- 25 false
          refine V_aload_n X dL_company_28 2 rfl ?_
          refine V_aload_n X dL_company_29 3 rfl ?_
          refine V_iconst (v := nI 1) X dL_company_30 (by decide) ?_
          refine V_callS (rest := [.ref (X0 + 0)]) X E.room ml_L_12 st_L_cell (by decide) (by decide) (k_L_cell (σ := ((X0 + 61, n0 + 9 + 440), cW g X0 G23 σ1)) (1) (by omega)) rfl rfl (Nat.le_of_ble_eq_true rfl) ⟨by omega, by omega⟩ dL_company_31 (fun _ _ h => False.elim h) (fun v31 σ' hp31 => ?_)
          obtain ⟨hp31, rfl⟩ := hp31
          obtain ⟨r78, rfl⟩ := hp31
          show V g κ 8 (61) (449) ((X0 + 61, n0 + 9 + 440), cW g X0 G23 σ1) 34 [(3, .int (nI (i23))), (2, .int (nI (2 + r2))), (1, .ref (X0 + 0)), (0, .ref (g.2.2.2 8))] [.int (r78), .ref (X0 + 0)]
          refine V_iconst (v := nI 3) X dL_company_34 (by decide) ?_
          refine V_iload_n X dL_company_35 0 rfl ?_
          refine V_imul X dL_company_36 (V.topi (fun w79 ew79 => ?_))
          refine V_ishr X dL_company_37 (V.topi (fun w80 ew80 => ?_))
          refine V_iconst (v := nI 3) X dL_company_38 (by decide) ?_
          refine V_callS (rest := [.ref (X0 + 0)]) X E.room ml_L_18 st_L_below (by decide) (by decide) (k_L_below (σ := ((X0 + 61, n0 + 9 + 440), cW g X0 G23 σ1)) (w80) (3) (by omega) (by omega)) rfl rfl (Nat.le_of_ble_eq_true rfl) ⟨by omega, by omega⟩ dL_company_39 (fun _ _ h => False.elim h) (fun v39 σ' hp39 => ?_)
          obtain ⟨hp39, rfl⟩ := hp39
          obtain ⟨r81, hr81, rfl⟩ := hp39
          show V g κ 8 (61) (449) ((X0 + 61, n0 + 9 + 440), cW g X0 G23 σ1) 42 [(3, .int (nI (i23))), (2, .int (nI (2 + r2))), (1, .ref (X0 + 0)), (0, .ref (g.2.2.2 8))] [.int (nI (r81)), .ref (X0 + 0)]
          refine V_aload_n X dL_company_42 3 rfl ?_
          refine V_iconst (v := nI 2) X dL_company_43 (by decide) ?_
          refine V_callS (rest := [.int (nI (r81)), .ref (X0 + 0)]) X E.room ml_L_12 st_L_cell (by decide) (by decide) (k_L_cell (σ := ((X0 + 61, n0 + 9 + 440), cW g X0 G23 σ1)) (2) (by omega)) rfl rfl (Nat.le_of_ble_eq_true rfl) ⟨by omega, by omega⟩ dL_company_44 (fun _ _ h => False.elim h) (fun v44 σ' hp44 => ?_)
          obtain ⟨hp44, rfl⟩ := hp44
          obtain ⟨r82, rfl⟩ := hp44
          show V g κ 8 (61) (449) ((X0 + 61, n0 + 9 + 440), cW g X0 G23 σ1) 47 [(3, .int (nI (i23))), (2, .int (nI (2 + r2))), (1, .ref (X0 + 0)), (0, .ref (g.2.2.2 8))] [.int (r82), .int (nI (r81)), .ref (X0 + 0)]
          refine V_iconst (v := nI 2) X dL_company_47 (by decide) ?_
          refine V_iload_n X dL_company_48 0 rfl ?_
          refine V_imul X dL_company_49 (V.topi (fun w83 ew83 => ?_))
          refine V_ishr X dL_company_50 (V.topi (fun w84 ew84 => ?_))
          refine V_iconst (v := nI 4) X dL_company_51 (by decide) ?_
          refine V_callS (rest := [.int (nI (r81)), .ref (X0 + 0)]) X E.room ml_L_18 st_L_below (by decide) (by decide) (k_L_below (σ := ((X0 + 61, n0 + 9 + 440), cW g X0 G23 σ1)) (w84) (4) (by omega) (by omega)) rfl rfl (Nat.le_of_ble_eq_true rfl) ⟨by omega, by omega⟩ dL_company_52 (fun _ _ h => False.elim h) (fun v52 σ' hp52 => ?_)
          obtain ⟨hp52, rfl⟩ := hp52
          obtain ⟨r85, hr85, rfl⟩ := hp52
          show V g κ 8 (61) (449) ((X0 + 61, n0 + 9 + 440), cW g X0 G23 σ1) 55 [(3, .int (nI (i23))), (2, .int (nI (2 + r2))), (1, .ref (X0 + 0)), (0, .ref (g.2.2.2 8))] [.int (nI (r85)), .int (nI (r81)), .ref (X0 + 0)]
          refine V_aload_n X dL_company_55 3 rfl ?_
          refine V_iconst (v := nI 3) X dL_company_56 (by decide) ?_
          refine V_callS (rest := [.int (nI (r85)), .int (nI (r81)), .ref (X0 + 0)]) X E.room ml_L_12 st_L_cell (by decide) (by decide) (k_L_cell (σ := ((X0 + 61, n0 + 9 + 440), cW g X0 G23 σ1)) (3) (by omega)) rfl rfl (Nat.le_of_ble_eq_true rfl) ⟨by omega, by omega⟩ dL_company_57 (fun _ _ h => False.elim h) (fun v57 σ' hp57 => ?_)
          obtain ⟨hp57, rfl⟩ := hp57
          obtain ⟨r86, rfl⟩ := hp57
          show V g κ 8 (61) (449) ((X0 + 61, n0 + 9 + 440), cW g X0 G23 σ1) 60 [(3, .int (nI (i23))), (2, .int (nI (2 + r2))), (1, .ref (X0 + 0)), (0, .ref (g.2.2.2 8))] [.int (r86), .int (nI (r85)), .int (nI (r81)), .ref (X0 + 0)]
          refine V_iconst (v := nI 3) X dL_company_60 (by decide) ?_
          refine V_iload_n X dL_company_61 0 rfl ?_
          refine V_imul X dL_company_62 (V.topi (fun w87 ew87 => ?_))
          refine V_ishr X dL_company_63 (V.topi (fun w88 ew88 => ?_))
          refine V_bipush (v := nI 10) X dL_company_64 (by decide) ?_
          refine V_callS (rest := [.int (nI (r85)), .int (nI (r81)), .ref (X0 + 0)]) X E.room ml_L_18 st_L_below (by decide) (by decide) (k_L_below (σ := ((X0 + 61, n0 + 9 + 440), cW g X0 G23 σ1)) (w88) (10) (by omega) (by omega)) rfl rfl (Nat.le_of_ble_eq_true rfl) ⟨by omega, by omega⟩ dL_company_66 (fun _ _ h => False.elim h) (fun v66 σ' hp66 => ?_)
          obtain ⟨hp66, rfl⟩ := hp66
          obtain ⟨r89, hr89, rfl⟩ := hp66
          show V g κ 8 (61) (449) ((X0 + 61, n0 + 9 + 440), cW g X0 G23 σ1) 69 [(3, .int (nI (i23))), (2, .int (nI (2 + r2))), (1, .ref (X0 + 0)), (0, .ref (g.2.2.2 8))] [.int (nI (r89)), .int (nI (r85)), .int (nI (r81)), .ref (X0 + 0)]
          refine V_callV (rest := []) X E.room ml_L_22 in_X5_part (ci := 7) rfl se_X5_part (C_recv (q := 0) (by decide) rfl) (by decide) (by decide) (k_X5_part hX hI hG (nI (r81)) (nI (r85)) (nI (r89)) hB hC) rfl rfl (Nat.le_of_ble_eq_true rfl) ⟨by omega, by omega⟩ dL_company_69 (fun _ _ h => False.elim (h.1.elim (fun q => q.elim (fun q => q.1 (⟨_, rfl, by omega, by omega⟩)) (fun q => (fun q => q.elim (fun q => q.1 (⟨_, rfl, by omega, by omega⟩)) (fun q => (fun q => q.elim (fun q => q.1 (⟨_, rfl, by omega, by omega⟩)) (fun q => (fun q => q.elim (fun q => q.1 (by omega)) (fun q => (fun q => q) q.2)) q.2)) q.2)) q.2)) id)) (fun v9 σ' hp9 => ?_)
          obtain ⟨rfl, hg1, hg2, F90, rfl, hI2, hz⟩ := hp9
          have hVF90 := jV_part hV hg1 hI2 hz
          refine V.shrink B 61 449 (Nat.le_refl _) (by show n0 + 9 + 440 ≤ n0 + 449; omega) ?_
          show V g κ 8 (61) (449) ((X0 + 61, n0 + 9 + 440), cW g X0 F90 σ1) 72 [(3, .int (nI (i23))), (2, .int (nI (2 + r2))), (1, .ref (X0 + 0)), (0, .ref (g.2.2.2 8))] [.int (nI (i23))]
          refine V_pop X dL_company_72 rfl ?_
          refine V_iinc X (nI (i23 + 1)) [(3, .int (nI (i23 + 1))), (2, .int (nI (2 + r2))), (1, .ref (X0 + 0)), (0, .ref (g.2.2.2 8))] dL_company_73 0 rfl (zinc _) (by decide) rfl ?_
          refine V_goto (tgt := 23) X dL_company_76 (by decide) ?_
          exact V.sub [0, 1, 2, 3] rfl (ih23 _ (by omega) (i23 + 1) F90 rfl  (by omega) (hVF90))
    exact L23 _ (0) F rfl  (by omega) (hV)
  refine V_new X E.room (ci := 7) (fs := [.null, .null, .null, .null, .null, .int (nI 0), .int (nI 0), .int (nI 0), .int (nI 0)]) rfl zi_X5 tyX5 tyX5_ok cl_L_9 mk_X5 nz_X5 (by intro j hj; match j, hj with | 0, _ => rfl | 1, _ => rfl | 2, _ => rfl | 3, _ => rfl | 4, _ => rfl | 5, _ => rfl | 6, _ => rfl | 7, _ => rfl | 8, _ => rfl | i + 9, hj => exact absurd hj (by omega)) (by omega) (by omega) dL_company_0 ?_
  show V g κ 8 1 9 ((X0 + 1, n0 + 9), zup (fun _ => none) X0 (.inr (7, [.null, .null, .null, .null, .null, .int (nI 0), .int (nI 0), .int (nI 0), .int (nI 0)]))) 3 [(0, .ref (g.2.2.2 8))] [.ref X0]
  refine V_dup X dL_company_3 rfl ?_
  refine V_callI (rest := [.ref X0]) X E.room ml_L_11 in_X5_init rfl (by omega) (by decide) (k_X5_init (n0 := n0 + 9) zup_eq hX) rfl rfl (Nat.le_of_ble_eq_true rfl) ⟨by omega, by omega⟩ dL_company_4 (fun _ _ h => False.elim h) (fun v9 σ' hp9 => ?_)
  obtain ⟨hv9, rfl⟩ := hp9
  cases (hv9 : _ = none)
  show V g κ 8 61 449 ((X0 + 61, n0 + 9 + 440), cW g X0 (fun _ _ => nI 0) (zup (fun _ => none) X0 (.inr (7, [.null, .null, .null, .null, .null, .int (nI 0), .int (nI 0), .int (nI 0), .int (nI 0)])))) 7 [(0, .ref (g.2.2.2 8))] [.ref X0]
  refine V_astore_n X [(1, .ref (X0 + 0)), (0, .ref (g.2.2.2 8))] dL_company_7 (by decide) rfl ?_
  exact key _ _ jV_0
theorem cl_L_63 : Cond.classLink RL 63 RISE ∈ zTBL := tb4 (j := 118) (by decide +kernel) rfl
theorem cs_RISE : Cond.castable RISE RISE ∈ zNL := nb4 (j := 47) (by decide +kernel) rfl
theorem cl_L_65 : Cond.classLink RL 65 RIOB ∈ zTBL := tb4 (j := 119) (by decide +kernel) rfl
theorem cs_RIOB : Cond.castable RIOB RIOB ∈ zNL := nb1 (j := 33) (by decide +kernel) rfl
theorem mw_L_isDone : zMW RL 82 yL_isDone cL_isDone 5 (some .boolean) [(32, 245, 246, 63), (32, 245, 250, 65)] 2 := ⟨tb4 (j := 117) (by decide +kernel) rfl, nz_L, by decide +kernel, tb4 (j := 115) (by decide +kernel) rfl⟩
theorem st_L_isDone : Cond.static yL_isDone ∈ zTBL := tb4 (j := 116) (by decide +kernel) rfl
theorem V_zretW {g : zG} {κ : zC} {own : String} {cc : ByteArray} {nL k n : Nat} {σ : zS} {pc : Nat} {lv : List (Nat × Value)} (X : zX g κ own cc nL) {dd mc ms : Nat} {hh : List (Nat × Nat × Nat × Nat)} {ty : FieldType} {Post : Option Value → zS → Prop} (E : zEW g κ dd (some ty) hh mc ms Post) {v : Int32} (hnar : narrow ty (.int v) = .int v) (hk : k ≤ mc) (hn : n ≤ ms) (hp : Post (some (.int v)) σ) (d : decode cc pc = .ok (.ireturn, 1)) : V g κ nL k n σ pc lv [.int v] := by
  intro H locs ls hR hL hl
  rw [E.2.1]
  refine W.widen hk hn (vx_ret ?_)
  exact W.zret X.1 X.2.1 E.1 hnar (fun t ht _ => ⟨_, σ, rfl, hp, by rw [ht]; exact hR⟩) hL d (hlocks := X.2.2.2.2.2.1)
theorem pMax1 {n : Nat} (h : n < 2 ^ 30) : (if nI 1 < nI n then nI n else nI 1) = nI (max 1 n) := by
  by_cases q : 1 < n
  · rw [if_pos ((nI_ltI (by omega) (by omega)).mpr q), show max 1 n = n by omega]
  · rw [if_neg (fun z => q ((nI_ltI (by omega) (by omega)).mp z)), show max 1 n = 1 by omega]
theorem zRd_le {F : Nat → Nat → Int32} {nC nA c p : Nat} {a1 a2 : Int32} (h6 : nC ≤ 6) (h5 : nA ≤ 5) (e1 : a1 = nI c) (l1 : c < nC) (e2 : a2 = nI p) (l2 : p < nA) (h : zRd F a1 a2) : zCo F c ≤ F 11 p := by
  obtain ⟨c', p', k1, k2, k3, k4, -, k5⟩ := h
  have q1 : c' = c := (nI_eq (by omega) (by omega)).mp (k3.symm.trans e1)
  have q2 : p' = p := (nI_eq (by omega) (by omega)).mp (k4.symm.trans e2)
  subst q1
  subst q2
  exact k5
theorem cHo_0 {nP nS nA nC nT : Nat} {F : Nat → Nat → Int32} {x : Int32} (h : cHo nP nS nA nC nT F 0 x) : x = nI nP := by
  rcases h with ⟨_, q⟩ | ⟨w, _⟩ | ⟨w, _⟩ | ⟨w, _⟩ | ⟨w, _⟩ | ⟨w, _⟩ | ⟨w, _⟩ | ⟨w, _⟩ | ⟨w, _⟩ | ⟨w, _⟩ | ⟨w, _⟩ | ⟨w, _⟩ | ⟨w, _⟩ | ⟨w, _⟩
  · exact q
  · exact absurd w (by decide)
  · exact absurd w (by decide)
  · exact absurd w (by decide)
  · exact absurd w (by decide)
  · exact absurd w (by decide)
  · exact absurd w (by decide)
  · exact absurd w (by decide)
  · exact absurd w (by decide)
  · exact absurd w (by decide)
  · exact absurd w (by decide)
  · exact absurd w (by decide)
  · exact absurd w (by decide)
  · exact absurd w (by decide)
theorem cHo_1 {nP nS nA nC nT : Nat} {F : Nat → Nat → Int32} {x : Int32} (h : cHo nP nS nA nC nT F 1 x) : x = nI nA := by
  rcases h with ⟨w, _⟩ | ⟨_, q⟩ | ⟨w, _⟩ | ⟨w, _⟩ | ⟨w, _⟩ | ⟨w, _⟩ | ⟨w, _⟩ | ⟨w, _⟩ | ⟨w, _⟩ | ⟨w, _⟩ | ⟨w, _⟩ | ⟨w, _⟩ | ⟨w, _⟩ | ⟨w, _⟩
  · exact absurd w (by decide)
  · exact q
  · exact absurd w (by decide)
  · exact absurd w (by decide)
  · exact absurd w (by decide)
  · exact absurd w (by decide)
  · exact absurd w (by decide)
  · exact absurd w (by decide)
  · exact absurd w (by decide)
  · exact absurd w (by decide)
  · exact absurd w (by decide)
  · exact absurd w (by decide)
  · exact absurd w (by decide)
  · exact absurd w (by decide)
theorem cHo_3 {nP nS nA nC nT : Nat} {F : Nat → Nat → Int32} {x : Int32} (h : cHo nP nS nA nC nT F 3 x) : x = nI nS := by
  rcases h with ⟨w, _⟩ | ⟨w, _⟩ | ⟨w, _⟩ | ⟨_, q⟩ | ⟨w, _⟩ | ⟨w, _⟩ | ⟨w, _⟩ | ⟨w, _⟩ | ⟨w, _⟩ | ⟨w, _⟩ | ⟨w, _⟩ | ⟨w, _⟩ | ⟨w, _⟩ | ⟨w, _⟩
  · exact absurd w (by decide)
  · exact absurd w (by decide)
  · exact absurd w (by decide)
  · exact q
  · exact absurd w (by decide)
  · exact absurd w (by decide)
  · exact absurd w (by decide)
  · exact absurd w (by decide)
  · exact absurd w (by decide)
  · exact absurd w (by decide)
  · exact absurd w (by decide)
  · exact absurd w (by decide)
  · exact absurd w (by decide)
  · exact absurd w (by decide)
theorem cHo_4 {nP nS nA nC nT : Nat} {F : Nat → Nat → Int32} {x : Int32} (h : cHo nP nS nA nC nT F 4 x) : x = nI nC := by
  rcases h with ⟨w, _⟩ | ⟨w, _⟩ | ⟨w, _⟩ | ⟨w, _⟩ | ⟨_, q⟩ | ⟨w, _⟩ | ⟨w, _⟩ | ⟨w, _⟩ | ⟨w, _⟩ | ⟨w, _⟩ | ⟨w, _⟩ | ⟨w, _⟩ | ⟨w, _⟩ | ⟨w, _⟩
  · exact absurd w (by decide)
  · exact absurd w (by decide)
  · exact absurd w (by decide)
  · exact absurd w (by decide)
  · exact q
  · exact absurd w (by decide)
  · exact absurd w (by decide)
  · exact absurd w (by decide)
  · exact absurd w (by decide)
  · exact absurd w (by decide)
  · exact absurd w (by decide)
  · exact absurd w (by decide)
  · exact absurd w (by decide)
  · exact absurd w (by decide)
theorem cHo_6 {nP nS nA nC nT : Nat} {F : Nat → Nat → Int32} {x : Int32} (h : cHo nP nS nA nC nT F 6 x) : x = nI nT := by
  rcases h with ⟨w, _⟩ | ⟨w, _⟩ | ⟨w, _⟩ | ⟨w, _⟩ | ⟨w, _⟩ | ⟨w, _⟩ | ⟨_, q⟩ | ⟨w, _⟩ | ⟨w, _⟩ | ⟨w, _⟩ | ⟨w, _⟩ | ⟨w, _⟩ | ⟨w, _⟩ | ⟨w, _⟩
  · exact absurd w (by decide)
  · exact absurd w (by decide)
  · exact absurd w (by decide)
  · exact absurd w (by decide)
  · exact absurd w (by decide)
  · exact absurd w (by decide)
  · exact q
  · exact absurd w (by decide)
  · exact absurd w (by decide)
  · exact absurd w (by decide)
  · exact absurd w (by decide)
  · exact absurd w (by decide)
  · exact absurd w (by decide)
  · exact absurd w (by decide)
theorem cHo_9 {nP nS nA nC nT : Nat} {F : Nat → Nat → Int32} {x : Int32} (h : cHo nP nS nA nC nT F 9 x) : x = F 0 5 := by
  rcases h with ⟨w, _⟩ | ⟨w, _⟩ | ⟨w, _⟩ | ⟨w, _⟩ | ⟨w, _⟩ | ⟨w, _⟩ | ⟨w, _⟩ | ⟨w, _⟩ | ⟨w, _⟩ | ⟨_, q⟩ | ⟨w, _⟩ | ⟨w, _⟩ | ⟨w, _⟩ | ⟨w, _⟩
  · exact absurd w (by decide)
  · exact absurd w (by decide)
  · exact absurd w (by decide)
  · exact absurd w (by decide)
  · exact absurd w (by decide)
  · exact absurd w (by decide)
  · exact absurd w (by decide)
  · exact absurd w (by decide)
  · exact absurd w (by decide)
  · exact q
  · exact absurd w (by decide)
  · exact absurd w (by decide)
  · exact absurd w (by decide)
  · exact absurd w (by decide)
theorem cHo_10 {nP nS nA nC nT : Nat} {F : Nat → Nat → Int32} {x : Int32} (h : cHo nP nS nA nC nT F 10 x) : x = F 0 6 := by
  rcases h with ⟨w, _⟩ | ⟨w, _⟩ | ⟨w, _⟩ | ⟨w, _⟩ | ⟨w, _⟩ | ⟨w, _⟩ | ⟨w, _⟩ | ⟨w, _⟩ | ⟨w, _⟩ | ⟨w, _⟩ | ⟨_, q⟩ | ⟨w, _⟩ | ⟨w, _⟩ | ⟨w, _⟩
  · exact absurd w (by decide)
  · exact absurd w (by decide)
  · exact absurd w (by decide)
  · exact absurd w (by decide)
  · exact absurd w (by decide)
  · exact absurd w (by decide)
  · exact absurd w (by decide)
  · exact absurd w (by decide)
  · exact absurd w (by decide)
  · exact absurd w (by decide)
  · exact q
  · exact absurd w (by decide)
  · exact absurd w (by decide)
  · exact absurd w (by decide)
theorem cHo_11 {nP nS nA nC nT : Nat} {F : Nat → Nat → Int32} {x : Int32} (h : cHo nP nS nA nC nT F 11 x) : x = zsm (F 11) nA := by
  rcases h with ⟨w, _⟩ | ⟨w, _⟩ | ⟨w, _⟩ | ⟨w, _⟩ | ⟨w, _⟩ | ⟨w, _⟩ | ⟨w, _⟩ | ⟨w, _⟩ | ⟨w, _⟩ | ⟨w, _⟩ | ⟨w, _⟩ | ⟨_, q⟩ | ⟨w, _⟩ | ⟨w, _⟩
  · exact absurd w (by decide)
  · exact absurd w (by decide)
  · exact absurd w (by decide)
  · exact absurd w (by decide)
  · exact absurd w (by decide)
  · exact absurd w (by decide)
  · exact absurd w (by decide)
  · exact absurd w (by decide)
  · exact absurd w (by decide)
  · exact absurd w (by decide)
  · exact absurd w (by decide)
  · exact q
  · exact absurd w (by decide)
  · exact absurd w (by decide)
set_option maxRecDepth 100000 in
set_option maxHeartbeats 4000000 in
theorem k_L_isDone {g : zG} {t : Nat × Nat} {X0 : Nat} {σ0 : Nat → Option va_E} {F : Nat → Nat → Int32} (hX : g.2.1.size ≤ X0) (hG : g.1.stackTraces = false) {nP nS nA nC nT B9 : Nat} (hV : jV nP nS nA nC nT B9 F) (h2 : 2 ≤ nP) (h9 : B9 ≤ 100000) (a1 : Int32) : CtW g 45 yL_isDone cL_isDone 5 (some .boolean) [(32, 245, 246, 63), (32, 245, 250, 65)] 4 24 [.ref (X0 + 0), .int a1] (t, cW g X0 F σ0) (fun v σ' => ∃ b : Int32, v = some (.int b) ∧ ∃ (t' : Nat × Nat) (F' : Nat → Nat → Int32), σ' = (t', cW g X0 F' σ0) ∧ ((b = nI 1 ∧ ∃ nS' nA' : Nat, jV nP nS' nA' nC nT (B9 + 1000) F') ∨ (b = nI 0 ∧ cM F F'))) := by
  refine CtW.of (lv := [(0, .ref (X0 + 0)), (1, .int a1)]) (by decide) (Nat.le_of_ble_eq_true rfl) rfl ?_
  intro κ X E
  have X : zX g κ RL cL_isDone 5 := X
  have hI := hV.1
  have hB := hV.bd
  have hC := hV.2.1
  obtain ⟨b1, b2, b3, b4, b5⟩ := hI.bnd
  refine V_iload_n X dL_isDone_0 1 rfl ?_
  refine V_iconst (v := nI 3) X dL_isDone_1 (by decide) ?_
  refine V_ishr X dL_isDone_2 (V.topi (fun w1 ew1 => ?_))
  refine V_iconst (v := nI 1) X dL_isDone_3 (by decide) ?_
  refine V_aload_n X dL_isDone_4 0 rfl ?_
  refine V_iconst (v := nI 1) X dL_isDone_5 (by decide) ?_
  refine V_callV (rest := [.int (nI (1)), .int (w1)]) X E.room ml_L_38 in_X5_house (ci := 7) rfl se_X5_house (C_recv (q := 0) (by decide) rfl) (by decide) (by decide) (k_X5_house hX hI hG (nI (1)) hB hC) rfl rfl (Nat.le_of_ble_eq_true rfl) ⟨by omega, by omega⟩ dL_isDone_6 (fun _ _ h => False.elim (h.1.elim (fun q => q.elim (fun q => q.1 (⟨_, rfl, by omega, by omega⟩)) (fun q => (fun q => q) q.2)) id)) (fun v6 σ' hp6 => ?_)
  obtain ⟨w9, ew9, lw9, r2, rfl, hrr2, F3, rfl, hJF3⟩ := hp6
  have zw9 : 1 = w9 := (nI_eq (by omega) (by omega)).mp ew9
  subst zw9
  have hvr2 : cHo nP nS nA nC nT F (1) (r2) := hrr2
  have hKF3 : cM F F3 := hJF3
  show V g κ 5 (0 + 1) (0 + 6) (t, cW g X0 F3 σ0) 9 [(0, .ref (X0 + 0)), (1, .int (a1))] [.int (r2), .int (nI (1)), .int (w1)]
  obtain rfl : r2 = nI nA := cHo_1 hvr2
  show V g κ 5 (0 + 1) (0 + 6) (t, cW g X0 F3 σ0) 9 [(0, .ref (X0 + 0)), (1, .int (a1))] [.int (nI (nA)), .int (nI (1)), .int (w1)]
  refine V_mmax X E.room (by omega) (by omega) (by decide) ml_L_42 st_J9_max_7cf53 rfl rfl (Nat.le_of_ble_eq_true rfl) dL_isDone_9 ?_
  rw [pMax1 (n := nA) (by omega)]
  show V g κ 5 (0 + 1) (0 + 6) (t, cW g X0 F3 σ0) 12 [(0, .ref (X0 + 0)), (1, .int (a1))] [.int (nI (max 1 nA)), .int (w1)]
  refine V_callS (rest := []) X E.room ml_L_18 st_L_below (by decide) (by decide) (k_L_below (σ := (t, cW g X0 F3 σ0)) (w1) (max 1 nA) (by omega) (by omega)) rfl rfl (Nat.le_of_ble_eq_true rfl) ⟨by omega, by omega⟩ dL_isDone_12 (fun _ _ h => False.elim h) (fun v12 σ' hp12 => ?_)
  obtain ⟨hp12, rfl⟩ := hp12
  obtain ⟨r4, hr4, rfl⟩ := hp12
  show V g κ 5 (0 + 1) (0 + 6) (t, cW g X0 F3 σ0) 15 [(0, .ref (X0 + 0)), (1, .int (a1))] [.int (nI (r4))]
  refine V_istore_n X [(2, .int (nI (r4))), (0, .ref (X0 + 0)), (1, .int (a1))] dL_isDone_15 (by decide) rfl ?_
  refine V_iload_n X dL_isDone_16 2 rfl ?_
  refine V_iconst (v := nI 5) X dL_isDone_17 (by decide) ?_
  refine V_ishr X dL_isDone_18 (V.topi (fun w5 ew5 => ?_))
  refine V_iconst (v := nI 1) X dL_isDone_19 (by decide) ?_
  refine V_aload_n X dL_isDone_20 1 rfl ?_
  refine V_iconst (v := nI 4) X dL_isDone_21 (by decide) ?_
  refine V_callV (rest := [.int (nI (1)), .int (w5)]) X E.room ml_L_38 in_X5_house (ci := 7) rfl se_X5_house (C_recv (q := 0) (by decide) rfl) (by decide) (by decide) (k_X5_house hX (hI.mvM hKF3) hG (nI (4)) (hB.mvC hKF3) (hKF3.2 hC)) rfl rfl (Nat.le_of_ble_eq_true rfl) ⟨by omega, by omega⟩ dL_isDone_22 (fun _ _ h => False.elim (h.1.elim (fun q => q.elim (fun q => q.1 (⟨_, rfl, by omega, by omega⟩)) (fun q => (fun q => q) q.2)) id)) (fun v22 σ' hp22 => ?_)
  obtain ⟨w9, ew9, lw9, r6, rfl, hrr6, F7, rfl, hJF7⟩ := hp22
  have zw9 : 4 = w9 := (nI_eq (by omega) (by omega)).mp ew9
  subst zw9
  have hvr6 : cHo nP nS nA nC nT F (4) (r6) := by have z : cHo nP nS nA nC nT F3 (4) (r6) := hrr6; rw [cHo_W (hKF3).1] at z; exact z
  have hKF7 : cM F F7 := hKF3.trans hJF7
  show V g κ 5 (0 + 1 + 1) (0 + 6 + 6) (t, cW g X0 F7 σ0) 25 [(2, .int (nI (r4))), (0, .ref (X0 + 0)), (1, .int (a1))] [.int (r6), .int (nI (1)), .int (w5)]
  obtain rfl : r6 = nI nC := cHo_4 hvr6
  show V g κ 5 (0 + 1 + 1) (0 + 6 + 6) (t, cW g X0 F7 σ0) 25 [(2, .int (nI (r4))), (0, .ref (X0 + 0)), (1, .int (a1))] [.int (nI (nC)), .int (nI (1)), .int (w5)]
  refine V_mmax X E.room (by omega) (by omega) (by decide) ml_L_42 st_J9_max_7cf53 rfl rfl (Nat.le_of_ble_eq_true rfl) dL_isDone_25 ?_
  rw [pMax1 (n := nC) (by omega)]
  show V g κ 5 (0 + 1 + 1) (0 + 6 + 6) (t, cW g X0 F7 σ0) 28 [(2, .int (nI (r4))), (0, .ref (X0 + 0)), (1, .int (a1))] [.int (nI (max 1 nC)), .int (w5)]
  refine V_callS (rest := []) X E.room ml_L_18 st_L_below (by decide) (by decide) (k_L_below (σ := (t, cW g X0 F7 σ0)) (w5) (max 1 nC) (by omega) (by omega)) rfl rfl (Nat.le_of_ble_eq_true rfl) ⟨by omega, by omega⟩ dL_isDone_28 (fun _ _ h => False.elim h) (fun v28 σ' hp28 => ?_)
  obtain ⟨hp28, rfl⟩ := hp28
  obtain ⟨r8, hr8, rfl⟩ := hp28
  show V g κ 5 (0 + 1 + 1) (0 + 6 + 6) (t, cW g X0 F7 σ0) 31 [(2, .int (nI (r4))), (0, .ref (X0 + 0)), (1, .int (a1))] [.int (nI (r8))]
  refine V_istore_n X [(3, .int (nI (r8))), (2, .int (nI (r4))), (0, .ref (X0 + 0)), (1, .int (a1))] dL_isDone_31 (by decide) rfl ?_
  have H1 : ∀ (k n : Nat) (t' : Nat × Nat) (F' : Nat → Nat → Int32) (q : Nat), k ≤ 4 → n ≤ 24 → cM F F' → V g κ 5 k n (t', cW g X0 F' σ0) 246 [(3, .int (nI (r8))), (2, .int (nI (r4))), (0, .ref (X0 + 0)), (1, .int (a1))] [.ref q] := by
    intro k n t' F' q hk hn hm
    refine V_astore X [(4, .ref q), (3, .int (nI (r8))), (2, .int (nI (r4))), (0, .ref (X0 + 0)), (1, .int (a1))] dL_isDone_246 (by decide) rfl ?_
    refine V_iconst (v := nI 0) X dL_isDone_248 (by decide) ?_
    exact V_zretW X E (zbool z01_0) hk hn ⟨_, rfl, _, _, rfl, Or.inr ⟨rfl, hm⟩⟩ dL_isDone_249
  have H2 : ∀ (k n : Nat) (t' : Nat × Nat) (F' : Nat → Nat → Int32) (q : Nat), k ≤ 4 → n ≤ 24 → cM F F' → V g κ 5 k n (t', cW g X0 F' σ0) 250 [(3, .int (nI (r8))), (2, .int (nI (r4))), (0, .ref (X0 + 0)), (1, .int (a1))] [.ref q] := by
    intro k n t' F' q hk hn hm
    refine V_astore X [(4, .ref q), (3, .int (nI (r8))), (2, .int (nI (r4))), (0, .ref (X0 + 0)), (1, .int (a1))] dL_isDone_250 (by decide) rfl ?_
    refine V_iconst (v := nI 0) X dL_isDone_252 (by decide) ?_
    exact V_zretW X E (zbool z01_0) hk hn ⟨_, rfl, _, _, rfl, Or.inr ⟨rfl, hm⟩⟩ dL_isDone_253
  refine V_iload_n X dL_isDone_32 3 rfl ?_
  refine V_bipush (v := nI 9) X dL_isDone_33 (by decide) ?_
  refine V_callS (rest := []) X E.room ml_L_18 st_L_below (by decide) (by decide) (k_L_below (σ := (t, cW g X0 F7 σ0)) (a1) (9) (by omega) (by omega)) rfl rfl (Nat.le_of_ble_eq_true rfl) ⟨by omega, by omega⟩ dL_isDone_35 (fun _ _ h => False.elim h) (fun v35 σ' hp35 => ?_)
  obtain ⟨hp35, rfl⟩ := hp35
  obtain ⟨r9, hr9, rfl⟩ := hp35
  show V g κ 5 (0 + 1 + 1) (0 + 6 + 6) (t, cW g X0 F7 σ0) 38 [(3, .int (nI (r8))), (2, .int (nI (r4))), (0, .ref (X0 + 0)), (1, .int (a1))] [.int (nI (r9))]
  rcases (show r9 = 0 ∨ r9 = 1 ∨ r9 = 2 ∨ r9 = 3 ∨ r9 = 4 ∨ r9 = 5 ∨ r9 = 6 ∨ r9 = 7 ∨ r9 = 8 by omega) with rfl | rfl | rfl | rfl | rfl | rfl | rfl | rfl | rfl
  · -- case 0
    refine V_tableIn (tgt := 80) X dL_isDone_38 (by decide) (by decide) rfl (by decide) ?_
    refine V_aload_n X dL_isDone_80 2 rfl ?_
    refine V_iload_n X dL_isDone_81 1 rfl ?_
    refine V_iconst (v := nI 1) X dL_isDone_82 (by decide) ?_
    refine V_callV (rest := []) X E.room ml_L_47 in_X5_sick (ci := 7) rfl se_X5_sick (C_recv (q := 0) (by decide) rfl) (by decide) (by decide) (k_X5_sick hX (hI.mvM hKF7) hG (nI (r4)) (nI (1)) (hB.mvC hKF7) (hKF7.2 hC)) rfl rfl (Nat.le_of_ble_eq_true rfl) ⟨by omega, by omega⟩ dL_isDone_83 (fun Ex σ' h => ?_) (fun v9 σ' hp9 => ?_)
    · obtain ⟨hE, t', F', rfl, hm⟩ := h
      rcases hE with hE | hE
      · rcases hE with ⟨n, rfl⟩ | ⟨p0, hE⟩
        · exact VX_c3 X ⟨32, 245, 246, 63⟩ ⟨32, 245, 250, 65⟩ [] E.2.2.1 (by decide) (by decide) (by decide) cl_L_63 cl_L_65 (zNcE X).1 cs_RIOB (fun q => H2 _ _ t' F' q (by omega) (by omega) (hKF7.trans hm))
        · exact False.elim hE
      · exact False.elim hE
    · obtain ⟨p9, e9, l9, F2, rfl, rfl, hz⟩ := hp9
      refine V_pop X dL_isDone_86 rfl ?_
      refine V_goto (tgt := 244) X dL_isDone_87 (by decide) ?_
      refine V_iconst (v := nI 1) X dL_isDone_244 (by decide) ?_
      exact V_zretW X E (zbool z01_1) (by omega) (by omega) ⟨_, rfl, _, _, rfl, Or.inl ⟨rfl, _, _, (jV_sick (hV.mv hKF7) ⟨b3, l9, by first | exact z01_1 | exact z01_0⟩ hz).up (by omega)⟩⟩ dL_isDone_245
  · -- case 1
    refine V_tableIn (tgt := 90) X dL_isDone_38 (by decide) (by decide) rfl (by decide) ?_
    refine V_aload_n X dL_isDone_90 2 rfl ?_
    refine V_iload_n X dL_isDone_91 1 rfl ?_
    refine V_iconst (v := nI 0) X dL_isDone_92 (by decide) ?_
    refine V_callV (rest := []) X E.room ml_L_47 in_X5_sick (ci := 7) rfl se_X5_sick (C_recv (q := 0) (by decide) rfl) (by decide) (by decide) (k_X5_sick hX (hI.mvM hKF7) hG (nI (r4)) (nI (0)) (hB.mvC hKF7) (hKF7.2 hC)) rfl rfl (Nat.le_of_ble_eq_true rfl) ⟨by omega, by omega⟩ dL_isDone_93 (fun Ex σ' h => ?_) (fun v9 σ' hp9 => ?_)
    · obtain ⟨hE, t', F', rfl, hm⟩ := h
      rcases hE with hE | hE
      · rcases hE with ⟨n, rfl⟩ | ⟨p0, hE⟩
        · exact VX_c3 X ⟨32, 245, 246, 63⟩ ⟨32, 245, 250, 65⟩ [] E.2.2.1 (by decide) (by decide) (by decide) cl_L_63 cl_L_65 (zNcE X).1 cs_RIOB (fun q => H2 _ _ t' F' q (by omega) (by omega) (hKF7.trans hm))
        · exact False.elim hE
      · exact False.elim hE
    · obtain ⟨p9, e9, l9, F2, rfl, rfl, hz⟩ := hp9
      refine V_pop X dL_isDone_96 rfl ?_
      refine V_goto (tgt := 244) X dL_isDone_97 (by decide) ?_
      refine V_iconst (v := nI 1) X dL_isDone_244 (by decide) ?_
      exact V_zretW X E (zbool z01_1) (by omega) (by omega) ⟨_, rfl, _, _, rfl, Or.inl ⟨rfl, _, _, (jV_sick (hV.mv hKF7) ⟨b3, l9, by first | exact z01_1 | exact z01_0⟩ hz).up (by omega)⟩⟩ dL_isDone_245
  · -- case 2
    refine V_tableIn (tgt := 100) X dL_isDone_38 (by decide) (by decide) rfl (by decide) ?_
    refine V_aload_n X dL_isDone_100 2 rfl ?_
    refine V_iload_n X dL_isDone_101 3 rfl ?_
    refine V_iconst (v := nI 4) X dL_isDone_102 (by decide) ?_
    refine V_ishr X dL_isDone_103 (V.topi (fun w10 ew10 => ?_))
    refine V_iconst (v := nI 1) X dL_isDone_104 (by decide) ?_
    refine V_aload_n X dL_isDone_105 2 rfl ?_
    refine V_iconst (v := nI 3) X dL_isDone_106 (by decide) ?_
    refine V_callV (rest := [.int (nI (1)), .int (w10), .ref (X0 + 0)]) X E.room ml_L_38 in_X5_house (ci := 7) rfl se_X5_house (C_recv (q := 0) (by decide) rfl) (by decide) (by decide) (k_X5_house hX (hI.mvM hKF7) hG (nI (3)) (hB.mvC hKF7) (hKF7.2 hC)) rfl rfl (Nat.le_of_ble_eq_true rfl) ⟨by omega, by omega⟩ dL_isDone_107 (fun _ _ h => False.elim (h.1.elim (fun q => q.elim (fun q => q.1 (⟨_, rfl, by omega, by omega⟩)) (fun q => (fun q => q) q.2)) id)) (fun v107 σ' hp107 => ?_)
    obtain ⟨w9, ew9, lw9, r11, rfl, hrr11, F12, rfl, hJF12⟩ := hp107
    have zw9 : 3 = w9 := (nI_eq (by omega) (by omega)).mp ew9
    subst zw9
    have hvr11 : cHo nP nS nA nC nT F (3) (r11) := by have z : cHo nP nS nA nC nT F7 (3) (r11) := hrr11; rw [cHo_W (hKF7).1] at z; exact z
    have hKF12 : cM F F12 := hKF7.trans hJF12
    show V g κ 5 (0 + 1 + 1 + 1) (0 + 6 + 6 + 6) (t, cW g X0 F12 σ0) 110 [(3, .int (nI (r8))), (2, .int (nI (r4))), (0, .ref (X0 + 0)), (1, .int (a1))] [.int (r11), .int (nI (1)), .int (w10), .ref (X0 + 0)]
    obtain rfl : r11 = nI nS := cHo_3 hvr11
    show V g κ 5 (0 + 1 + 1 + 1) (0 + 6 + 6 + 6) (t, cW g X0 F12 σ0) 110 [(3, .int (nI (r8))), (2, .int (nI (r4))), (0, .ref (X0 + 0)), (1, .int (a1))] [.int (nI (nS)), .int (nI (1)), .int (w10), .ref (X0 + 0)]
    refine V_mmax X E.room (by omega) (by omega) (by decide) ml_L_42 st_J9_max_7cf53 rfl rfl (Nat.le_of_ble_eq_true rfl) dL_isDone_110 ?_
    rw [pMax1 (n := nS) (by omega)]
    show V g κ 5 (0 + 1 + 1 + 1) (0 + 6 + 6 + 6) (t, cW g X0 F12 σ0) 113 [(3, .int (nI (r8))), (2, .int (nI (r4))), (0, .ref (X0 + 0)), (1, .int (a1))] [.int (nI (max 1 nS)), .int (w10), .ref (X0 + 0)]
    refine V_callS (rest := [.ref (X0 + 0)]) X E.room ml_L_18 st_L_below (by decide) (by decide) (k_L_below (σ := (t, cW g X0 F12 σ0)) (w10) (max 1 nS) (by omega) (by omega)) rfl rfl (Nat.le_of_ble_eq_true rfl) ⟨by omega, by omega⟩ dL_isDone_113 (fun _ _ h => False.elim h) (fun v113 σ' hp113 => ?_)
    obtain ⟨hp113, rfl⟩ := hp113
    obtain ⟨r13, hr13, rfl⟩ := hp113
    show V g κ 5 (0 + 1 + 1 + 1) (0 + 6 + 6 + 6) (t, cW g X0 F12 σ0) 116 [(3, .int (nI (r8))), (2, .int (nI (r4))), (0, .ref (X0 + 0)), (1, .int (a1))] [.int (nI (r13)), .ref (X0 + 0)]
    refine V_iload_n X dL_isDone_116 3 rfl ?_
    refine V_bipush (v := nI 7) X dL_isDone_117 (by decide) ?_
    refine V_ishr X dL_isDone_119 (V.topi (fun w14 ew14 => ?_))
    refine V_bipush (v := nI 10) X dL_isDone_120 (by decide) ?_
    refine V_callS (rest := [.int (nI (r13)), .ref (X0 + 0)]) X E.room ml_L_18 st_L_below (by decide) (by decide) (k_L_below (σ := (t, cW g X0 F12 σ0)) (w14) (10) (by omega) (by omega)) rfl rfl (Nat.le_of_ble_eq_true rfl) ⟨by omega, by omega⟩ dL_isDone_122 (fun _ _ h => False.elim h) (fun v122 σ' hp122 => ?_)
    obtain ⟨hp122, rfl⟩ := hp122
    obtain ⟨r15, hr15, rfl⟩ := hp122
    show V g κ 5 (0 + 1 + 1 + 1) (0 + 6 + 6 + 6) (t, cW g X0 F12 σ0) 125 [(3, .int (nI (r8))), (2, .int (nI (r4))), (0, .ref (X0 + 0)), (1, .int (a1))] [.int (nI (r15)), .int (nI (r13)), .ref (X0 + 0)]
    refine V_callV (rest := []) X E.room ml_L_51 in_X5_pause (ci := 7) rfl se_X5_pause (C_recv (q := 0) (by decide) rfl) (by decide) (by decide) (k_X5_pause hX (hI.mvM hKF12) hG (nI (r13)) (nI (r15)) (hB.mvC hKF12) (hKF12.2 hC)) rfl rfl (Nat.le_of_ble_eq_true rfl) ⟨by omega, by omega⟩ dL_isDone_125 (fun Ex σ' h => ?_) (fun v9 σ' hp9 => ?_)
    · obtain ⟨hE, t', F', rfl, hm⟩ := h
      rcases hE with hE | hE
      · rcases hE with ⟨n, rfl⟩ | ⟨p0, ⟨n, rfl⟩ | ⟨p1, hE⟩⟩
        · exact VX_c3 X ⟨32, 245, 246, 63⟩ ⟨32, 245, 250, 65⟩ [] E.2.2.1 (by decide) (by decide) (by decide) cl_L_63 cl_L_65 (zNcE X).1 cs_RIOB (fun q => H2 _ _ t' F' q (by omega) (by omega) (hKF12.trans hm))
        · exact absurd (⟨_, rfl, by omega, by omega⟩) n
        · exact False.elim hE
      · exact False.elim hE
    · obtain ⟨p9, e9, l9, z9, rfl, F2, rfl, hz⟩ := hp9
      refine V_pop X dL_isDone_128 rfl ?_
      refine V_goto (tgt := 244) X dL_isDone_129 (by decide) ?_
      refine V_iconst (v := nI 1) X dL_isDone_244 (by decide) ?_
      exact V_zretW X E (zbool z01_1) (by omega) (by omega) ⟨_, rfl, _, _, rfl, Or.inl ⟨rfl, _, _, (jV_pause (hV.mv hKF12) trivial hz).up (by omega)⟩⟩ dL_isDone_245
  · -- case 3
    refine V_tableIn (tgt := 132) X dL_isDone_38 (by decide) (by decide) rfl (by decide) ?_
    refine V_aload_n X dL_isDone_132 2 rfl ?_
    refine V_iload_n X dL_isDone_133 0 rfl ?_
    refine V_iload_n X dL_isDone_134 1 rfl ?_
    refine V_callV (rest := []) X E.room ml_L_54 in_X5_pawn (ci := 7) rfl se_X5_pawn (C_recv (q := 0) (by decide) rfl) (by decide) (by decide) (k_X5_pawn hX (hI.mvM hKF7) hG (nI (r8)) (nI (r4)) (hB.mvC hKF7) (hKF7.2 hC)) rfl rfl (Nat.le_of_ble_eq_true rfl) ⟨by omega, by omega⟩ dL_isDone_135 (fun Ex σ' h => ?_) (fun v9 σ' hp9 => ?_)
    · obtain ⟨hE, t', F', rfl, hm⟩ := h
      rcases hE with hE | hE
      · rcases hE with ⟨n, rfl⟩ | ⟨p0, ⟨n, rfl⟩ | ⟨p1, ⟨n, rfl⟩ | ⟨p2, hE⟩⟩⟩
        · exact VX_c3 X ⟨32, 245, 246, 63⟩ ⟨32, 245, 250, 65⟩ [] E.2.2.1 (by decide) (by decide) (by decide) cl_L_63 cl_L_65 (zNcE X).1 cs_RIOB (fun q => H2 _ _ t' F' q (by omega) (by omega) (hKF7.trans hm))
        · exact VX_c3 X ⟨32, 245, 246, 63⟩ ⟨32, 245, 250, 65⟩ [] E.2.2.1 (by decide) (by decide) (by decide) cl_L_63 cl_L_65 (zNcE X).1 cs_RIOB (fun q => H2 _ _ t' F' q (by omega) (by omega) (hKF7.trans hm))
        · exact VX_c1 X ⟨32, 245, 246, 63⟩ [⟨32, 245, 250, 65⟩] E.2.2.1 (by decide) (by decide) cl_L_63 cs_RISE (fun q => H1 _ _ t' F' q (by omega) (by omega) (hKF7.trans hm))
        · exact False.elim hE
      · exact False.elim hE
    · obtain ⟨c9, p9, e9, l9, e8, l8, z9, rfl, rfl⟩ := hp9
      refine V_pop X dL_isDone_138 rfl ?_
      refine V_goto (tgt := 244) X dL_isDone_139 (by decide) ?_
      refine V_iconst (v := nI 1) X dL_isDone_244 (by decide) ?_
      exact V_zretW X E (zbool z01_1) (by omega) (by omega) ⟨_, rfl, _, _, rfl, Or.inl ⟨rfl, _, _, jV_pawn (hV.mv hKF7) l9 l8 h9⟩⟩ dL_isDone_245
  · -- case 4
    refine V_tableIn (tgt := 142) X dL_isDone_38 (by decide) (by decide) rfl (by decide) ?_
    refine V_aload_n X dL_isDone_142 2 rfl ?_
    refine V_iload_n X dL_isDone_143 0 rfl ?_
    refine V_iload_n X dL_isDone_144 1 rfl ?_
    refine V_callV (rest := []) X E.room ml_L_57 in_X5_redeem (ci := 7) rfl se_X5_redeem (C_recv (q := 0) (by decide) rfl) (by decide) (by decide) (k_X5_redeem hX (hI.mvM hKF7) hG (nI (r8)) (nI (r4)) (hB.mvC hKF7) (hKF7.2 hC)) rfl rfl (Nat.le_of_ble_eq_true rfl) ⟨by omega, by omega⟩ dL_isDone_145 (fun Ex σ' h => ?_) (fun v9 σ' hp9 => ?_)
    · obtain ⟨hE, t', F', rfl, hm⟩ := h
      rcases hE with hE | hE
      · rcases hE with ⟨n, rfl⟩ | ⟨p0, ⟨n, rfl⟩ | ⟨p1, ⟨n, rfl⟩ | ⟨p2, hE⟩⟩⟩
        · exact VX_c3 X ⟨32, 245, 246, 63⟩ ⟨32, 245, 250, 65⟩ [] E.2.2.1 (by decide) (by decide) (by decide) cl_L_63 cl_L_65 (zNcE X).1 cs_RIOB (fun q => H2 _ _ t' F' q (by omega) (by omega) (hKF7.trans hm))
        · exact VX_c3 X ⟨32, 245, 246, 63⟩ ⟨32, 245, 250, 65⟩ [] E.2.2.1 (by decide) (by decide) (by decide) cl_L_63 cl_L_65 (zNcE X).1 cs_RIOB (fun q => H2 _ _ t' F' q (by omega) (by omega) (hKF7.trans hm))
        · exact VX_c1 X ⟨32, 245, 246, 63⟩ [⟨32, 245, 250, 65⟩] E.2.2.1 (by decide) (by decide) cl_L_63 cs_RISE (fun q => H1 _ _ t' F' q (by omega) (by omega) (hKF7.trans hm))
        · exact False.elim hE
      · exact False.elim hE
    · obtain ⟨c9, p9, e9, l9, e8, l8, z9, rfl, rfl⟩ := hp9
      refine V_pop X dL_isDone_148 rfl ?_
      refine V_goto (tgt := 244) X dL_isDone_149 (by decide) ?_
      refine V_iconst (v := nI 1) X dL_isDone_244 (by decide) ?_
      exact V_zretW X E (zbool z01_1) (by omega) (by omega) ⟨_, rfl, _, _, rfl, Or.inl ⟨rfl, _, _, jV_redeem (hV.mv hKF7) l9 l8 (zRd_le b4 b3 e9 l9 e8 l8 z9) h9⟩⟩ dL_isDone_245
  · -- case 5
    refine V_tableIn (tgt := 152) X dL_isDone_38 (by decide) (by decide) rfl (by decide) ?_
    refine V_aload_n X dL_isDone_152 2 rfl ?_
    refine V_iconst (v := nI 1) X dL_isDone_153 (by decide) ?_
    refine V_iload_n X dL_isDone_154 3 rfl ?_
    refine V_iconst (v := nI 4) X dL_isDone_155 (by decide) ?_
    refine V_ishr X dL_isDone_156 (V.topi (fun w16 ew16 => ?_))
    refine V_iconst (v := nI 1) X dL_isDone_157 (by decide) ?_
    refine V_aload_n X dL_isDone_158 2 rfl ?_
    refine V_iconst (v := nI 0) X dL_isDone_159 (by decide) ?_
    refine V_callV (rest := [.int (nI (1)), .int (w16), .int (nI (1)), .ref (X0 + 0)]) X E.room ml_L_38 in_X5_house (ci := 7) rfl se_X5_house (C_recv (q := 0) (by decide) rfl) (by decide) (by decide) (k_X5_house hX (hI.mvM hKF7) hG (nI (0)) (hB.mvC hKF7) (hKF7.2 hC)) rfl rfl (Nat.le_of_ble_eq_true rfl) ⟨by omega, by omega⟩ dL_isDone_160 (fun _ _ h => False.elim (h.1.elim (fun q => q.elim (fun q => q.1 (⟨_, rfl, by omega, by omega⟩)) (fun q => (fun q => q) q.2)) id)) (fun v160 σ' hp160 => ?_)
    obtain ⟨w9, ew9, lw9, r17, rfl, hrr17, F18, rfl, hJF18⟩ := hp160
    have zw9 : 0 = w9 := (nI_eq (by omega) (by omega)).mp ew9
    subst zw9
    have hvr17 : cHo nP nS nA nC nT F (0) (r17) := by have z : cHo nP nS nA nC nT F7 (0) (r17) := hrr17; rw [cHo_W (hKF7).1] at z; exact z
    have hKF18 : cM F F18 := hKF7.trans hJF18
    show V g κ 5 (0 + 1 + 1 + 1) (0 + 6 + 6 + 6) (t, cW g X0 F18 σ0) 163 [(3, .int (nI (r8))), (2, .int (nI (r4))), (0, .ref (X0 + 0)), (1, .int (a1))] [.int (r17), .int (nI (1)), .int (w16), .int (nI (1)), .ref (X0 + 0)]
    obtain rfl : r17 = nI nP := cHo_0 hvr17
    show V g κ 5 (0 + 1 + 1 + 1) (0 + 6 + 6 + 6) (t, cW g X0 F18 σ0) 163 [(3, .int (nI (r8))), (2, .int (nI (r4))), (0, .ref (X0 + 0)), (1, .int (a1))] [.int (nI (nP)), .int (nI (1)), .int (w16), .int (nI (1)), .ref (X0 + 0)]
    have hq1 : 2 ^ 2 ≤ 2 ^ nP := Nat.pow_le_pow_right (by decide) h2
    have hq2 : 2 ^ nP ≤ 128 := zp2 (n := 7) b1
    refine V_ishl1 X (by omega) dL_isDone_163 ?_
    refine V_iconst (v := nI 1) X dL_isDone_164 (by decide) ?_
    refine V_isubN X (by omega) dL_isDone_165 ?_
    refine V_callS (rest := [.int (nI (1)), .ref (X0 + 0)]) X E.room ml_L_18 st_L_below (by decide) (by decide) (k_L_below (σ := (t, cW g X0 F18 σ0)) (w16) (2 ^ nP - 1) (by omega) (by omega)) rfl rfl (Nat.le_of_ble_eq_true rfl) ⟨by omega, by omega⟩ dL_isDone_166 (fun _ _ h => False.elim h) (fun v166 σ' hp166 => ?_)
    obtain ⟨hp166, rfl⟩ := hp166
    obtain ⟨r19, hr19, rfl⟩ := hp166
    show V g κ 5 (0 + 1 + 1 + 1) (0 + 6 + 6 + 6) (t, cW g X0 F18 σ0) 169 [(3, .int (nI (r8))), (2, .int (nI (r4))), (0, .ref (X0 + 0)), (1, .int (a1))] [.int (nI (r19)), .int (nI (1)), .ref (X0 + 0)]
    refine V_iaddN X dL_isDone_169 ?_
    refine V_iload_n X dL_isDone_170 3 rfl ?_
    refine V_bipush (v := nI 8) X dL_isDone_171 (by decide) ?_
    refine V_ishr X dL_isDone_173 (V.topi (fun w20 ew20 => ?_))
    refine V_bipush (v := nI 10) X dL_isDone_174 (by decide) ?_
    refine V_callS (rest := [.int (nI (1 + r19)), .ref (X0 + 0)]) X E.room ml_L_18 st_L_below (by decide) (by decide) (k_L_below (σ := (t, cW g X0 F18 σ0)) (w20) (10) (by omega) (by omega)) rfl rfl (Nat.le_of_ble_eq_true rfl) ⟨by omega, by omega⟩ dL_isDone_176 (fun _ _ h => False.elim h) (fun v176 σ' hp176 => ?_)
    obtain ⟨hp176, rfl⟩ := hp176
    obtain ⟨r21, hr21, rfl⟩ := hp176
    show V g κ 5 (0 + 1 + 1 + 1) (0 + 6 + 6 + 6) (t, cW g X0 F18 σ0) 179 [(3, .int (nI (r8))), (2, .int (nI (r4))), (0, .ref (X0 + 0)), (1, .int (a1))] [.int (nI (r21)), .int (nI (1 + r19)), .ref (X0 + 0)]
    refine V_callV (rest := []) X E.room ml_L_29 in_X5_scene (ci := 7) rfl se_X5_scene (C_recv (q := 0) (by decide) rfl) (by decide) (by decide) (k_X5_scene hX (hI.mvM hKF18) hG (nI (1 + r19)) (nI (r21)) (hB.mvC hKF18) (hKF18.2 hC)) rfl rfl (Nat.le_of_ble_eq_true rfl) ⟨by omega, by omega⟩ dL_isDone_179 (fun Ex σ' h => ?_) (fun v9 σ' hp9 => ?_)
    · obtain ⟨hE, t', F', rfl, hm⟩ := h
      rcases hE with hE | hE
      · rcases hE with ⟨n, rfl⟩ | ⟨p0, ⟨n, rfl⟩ | ⟨p1, ⟨n, rfl⟩ | ⟨p2, ⟨n, rfl⟩ | ⟨p3, hE⟩⟩⟩⟩
        · exact absurd (⟨_, rfl, by omega⟩) n
        · exact absurd (⟨_, rfl, by omega, by omega⟩) n
        · exact absurd (⟨_, rfl, by omega, by omega⟩) n
        · exact VX_c1 X ⟨32, 245, 246, 63⟩ [⟨32, 245, 250, 65⟩] E.2.2.1 (by decide) (by decide) cl_L_63 cs_RISE (fun q => H1 _ _ t' F' q (by omega) (by omega) (hKF18.trans hm))
        · exact False.elim hE
      · exact False.elim hE
    · obtain ⟨rfl, hg1, hg2, F2, rfl, hI2, hz⟩ := hp9
      refine V_pop X dL_isDone_182 rfl ?_
      refine V_goto (tgt := 244) X dL_isDone_183 (by decide) ?_
      refine V_iconst (v := nI 1) X dL_isDone_244 (by decide) ?_
      exact V_zretW X E (zbool z01_1) (by omega) (by omega) ⟨_, rfl, _, _, rfl, Or.inl ⟨rfl, _, _, (jV_scene (hV.mv hKF18) hg1 hI2 hz).up (by omega)⟩⟩ dL_isDone_245
  · -- case 6
    refine V_tableIn (tgt := 186) X dL_isDone_38 (by decide) (by decide) rfl (by decide) ?_
    refine V_aload_n X dL_isDone_186 2 rfl ?_
    refine V_iload_n X dL_isDone_187 3 rfl ?_
    refine V_iconst (v := nI 4) X dL_isDone_188 (by decide) ?_
    refine V_ishr X dL_isDone_189 (V.topi (fun w22 ew22 => ?_))
    refine V_bipush (v := nI 16) X dL_isDone_190 (by decide) ?_
    refine V_callS (rest := [.ref (X0 + 0)]) X E.room ml_L_18 st_L_below (by decide) (by decide) (k_L_below (σ := (t, cW g X0 F7 σ0)) (w22) (16) (by omega) (by omega)) rfl rfl (Nat.le_of_ble_eq_true rfl) ⟨by omega, by omega⟩ dL_isDone_192 (fun _ _ h => False.elim h) (fun v192 σ' hp192 => ?_)
    obtain ⟨hp192, rfl⟩ := hp192
    obtain ⟨r23, hr23, rfl⟩ := hp192
    show V g κ 5 (0 + 1 + 1) (0 + 6 + 6) (t, cW g X0 F7 σ0) 195 [(3, .int (nI (r8))), (2, .int (nI (r4))), (0, .ref (X0 + 0)), (1, .int (a1))] [.int (nI (r23)), .ref (X0 + 0)]
    refine V_iconst (v := nI 1) X dL_isDone_195 (by decide) ?_
    refine V_iload_n X dL_isDone_196 3 rfl ?_
    refine V_bipush (v := nI 6) X dL_isDone_197 (by decide) ?_
    refine V_ishr X dL_isDone_199 (V.topi (fun w24 ew24 => ?_))
    refine V_bipush (v := nI 9) X dL_isDone_200 (by decide) ?_
    refine V_callS (rest := [.int (nI (1)), .int (nI (r23)), .ref (X0 + 0)]) X E.room ml_L_18 st_L_below (by decide) (by decide) (k_L_below (σ := (t, cW g X0 F7 σ0)) (w24) (9) (by omega) (by omega)) rfl rfl (Nat.le_of_ble_eq_true rfl) ⟨by omega, by omega⟩ dL_isDone_202 (fun _ _ h => False.elim h) (fun v202 σ' hp202 => ?_)
    obtain ⟨hp202, rfl⟩ := hp202
    obtain ⟨r25, hr25, rfl⟩ := hp202
    show V g κ 5 (0 + 1 + 1) (0 + 6 + 6) (t, cW g X0 F7 σ0) 205 [(3, .int (nI (r8))), (2, .int (nI (r4))), (0, .ref (X0 + 0)), (1, .int (a1))] [.int (nI (r25)), .int (nI (1)), .int (nI (r23)), .ref (X0 + 0)]
    refine V_iaddN X dL_isDone_205 ?_
    refine V_iconst (v := nI 1) X dL_isDone_206 (by decide) ?_
    refine V_iload_n X dL_isDone_207 3 rfl ?_
    refine V_bipush (v := nI 8) X dL_isDone_208 (by decide) ?_
    refine V_ishr X dL_isDone_210 (V.topi (fun w26 ew26 => ?_))
    refine V_iconst (v := nI 5) X dL_isDone_211 (by decide) ?_
    refine V_callS (rest := [.int (nI (1)), .int (nI (1 + r25)), .int (nI (r23)), .ref (X0 + 0)]) X E.room ml_L_18 st_L_below (by decide) (by decide) (k_L_below (σ := (t, cW g X0 F7 σ0)) (w26) (5) (by omega) (by omega)) rfl rfl (Nat.le_of_ble_eq_true rfl) ⟨by omega, by omega⟩ dL_isDone_212 (fun _ _ h => False.elim h) (fun v212 σ' hp212 => ?_)
    obtain ⟨hp212, rfl⟩ := hp212
    obtain ⟨r27, hr27, rfl⟩ := hp212
    show V g κ 5 (0 + 1 + 1) (0 + 6 + 6) (t, cW g X0 F7 σ0) 215 [(3, .int (nI (r8))), (2, .int (nI (r4))), (0, .ref (X0 + 0)), (1, .int (a1))] [.int (nI (r27)), .int (nI (1)), .int (nI (1 + r25)), .int (nI (r23)), .ref (X0 + 0)]
    refine V_iaddN X dL_isDone_215 ?_
    refine V_callV (rest := []) X E.room ml_L_26 in_X5_player (ci := 7) rfl se_X5_player (C_recv (q := 0) (by decide) rfl) (by decide) (by decide) (k_X5_player hX (hI.mvM hKF7) hG (nI (r23)) (nI (1 + r25)) (nI (1 + r27)) (hB.mvC hKF7) (hKF7.2 hC)) rfl rfl (Nat.le_of_ble_eq_true rfl) ⟨by omega, by omega⟩ dL_isDone_216 (fun Ex σ' h => ?_) (fun v9 σ' hp9 => ?_)
    · obtain ⟨hE, t', F', rfl, hm⟩ := h
      rcases hE with hE | hE
      · rcases hE with ⟨n, rfl⟩ | ⟨p0, ⟨n, rfl⟩ | ⟨p1, ⟨n, rfl⟩ | ⟨p2, ⟨n, rfl⟩ | ⟨p3, hE⟩⟩⟩⟩
        · exact absurd (⟨_, rfl, by omega⟩) n
        · exact absurd (⟨_, rfl, by omega, by omega⟩) n
        · exact absurd (⟨_, rfl, by omega, by omega⟩) n
        · exact VX_c1 X ⟨32, 245, 246, 63⟩ [⟨32, 245, 250, 65⟩] E.2.2.1 (by decide) (by decide) cl_L_63 cs_RISE (fun q => H1 _ _ t' F' q (by omega) (by omega) (hKF7.trans hm))
        · exact False.elim hE
      · exact False.elim hE
    · obtain ⟨rfl, hg1, hg2, F2, rfl, hI2, hz⟩ := hp9
      refine V_pop X dL_isDone_219 rfl ?_
      refine V_goto (tgt := 244) X dL_isDone_220 (by decide) ?_
      refine V_iconst (v := nI 1) X dL_isDone_244 (by decide) ?_
      exact V_zretW X E (zbool z01_1) (by omega) (by omega) ⟨_, rfl, _, _, rfl, Or.inl ⟨rfl, _, _, (jV_player (hV.mv hKF7) hg1 hI2 hz).up (by omega)⟩⟩ dL_isDone_245
  · -- case 7
    refine V_tableOut (tgt := 223) X dL_isDone_38 (by decide) (by decide) ?_
    refine V_aload_n X dL_isDone_223 2 rfl ?_
    refine V_iload_n X dL_isDone_224 3 rfl ?_
    refine V_iconst (v := nI 4) X dL_isDone_225 (by decide) ?_
    refine V_ishr X dL_isDone_226 (V.topi (fun w28 ew28 => ?_))
    refine V_iconst (v := nI 1) X dL_isDone_227 (by decide) ?_
    refine V_aload_n X dL_isDone_228 2 rfl ?_
    refine V_bipush (v := nI 6) X dL_isDone_229 (by decide) ?_
    refine V_callV (rest := [.int (nI (1)), .int (w28), .ref (X0 + 0)]) X E.room ml_L_38 in_X5_house (ci := 7) rfl se_X5_house (C_recv (q := 0) (by decide) rfl) (by decide) (by decide) (k_X5_house hX (hI.mvM hKF7) hG (nI (6)) (hB.mvC hKF7) (hKF7.2 hC)) rfl rfl (Nat.le_of_ble_eq_true rfl) ⟨by omega, by omega⟩ dL_isDone_231 (fun _ _ h => False.elim (h.1.elim (fun q => q.elim (fun q => q.1 (⟨_, rfl, by omega, by omega⟩)) (fun q => (fun q => q) q.2)) id)) (fun v231 σ' hp231 => ?_)
    obtain ⟨w9, ew9, lw9, r29, rfl, hrr29, F30, rfl, hJF30⟩ := hp231
    have zw9 : 6 = w9 := (nI_eq (by omega) (by omega)).mp ew9
    subst zw9
    have hvr29 : cHo nP nS nA nC nT F (6) (r29) := by have z : cHo nP nS nA nC nT F7 (6) (r29) := hrr29; rw [cHo_W (hKF7).1] at z; exact z
    have hKF30 : cM F F30 := hKF7.trans hJF30
    show V g κ 5 (0 + 1 + 1 + 1) (0 + 6 + 6 + 6) (t, cW g X0 F30 σ0) 234 [(3, .int (nI (r8))), (2, .int (nI (r4))), (0, .ref (X0 + 0)), (1, .int (a1))] [.int (r29), .int (nI (1)), .int (w28), .ref (X0 + 0)]
    obtain rfl : r29 = nI nT := cHo_6 hvr29
    show V g κ 5 (0 + 1 + 1 + 1) (0 + 6 + 6 + 6) (t, cW g X0 F30 σ0) 234 [(3, .int (nI (r8))), (2, .int (nI (r4))), (0, .ref (X0 + 0)), (1, .int (a1))] [.int (nI (nT)), .int (nI (1)), .int (w28), .ref (X0 + 0)]
    refine V_mmax X E.room (by omega) (by omega) (by decide) ml_L_42 st_J9_max_7cf53 rfl rfl (Nat.le_of_ble_eq_true rfl) dL_isDone_234 ?_
    rw [pMax1 (n := nT) (by omega)]
    show V g κ 5 (0 + 1 + 1 + 1) (0 + 6 + 6 + 6) (t, cW g X0 F30 σ0) 237 [(3, .int (nI (r8))), (2, .int (nI (r4))), (0, .ref (X0 + 0)), (1, .int (a1))] [.int (nI (max 1 nT)), .int (w28), .ref (X0 + 0)]
    refine V_callS (rest := [.ref (X0 + 0)]) X E.room ml_L_18 st_L_below (by decide) (by decide) (k_L_below (σ := (t, cW g X0 F30 σ0)) (w28) (max 1 nT) (by omega) (by omega)) rfl rfl (Nat.le_of_ble_eq_true rfl) ⟨by omega, by omega⟩ dL_isDone_237 (fun _ _ h => False.elim h) (fun v237 σ' hp237 => ?_)
    obtain ⟨hp237, rfl⟩ := hp237
    obtain ⟨r31, hr31, rfl⟩ := hp237
    show V g κ 5 (0 + 1 + 1 + 1) (0 + 6 + 6 + 6) (t, cW g X0 F30 σ0) 240 [(3, .int (nI (r8))), (2, .int (nI (r4))), (0, .ref (X0 + 0)), (1, .int (a1))] [.int (nI (r31)), .ref (X0 + 0)]
    refine V_callV (rest := []) X E.room ml_L_60 in_X5_night (ci := 7) rfl se_X5_night (C_recv (q := 0) (by decide) rfl) (by decide) (by decide) (k_X5_night hX (hI.mvM hKF30) hG (nI (r31)) (hB.mvC hKF30) (hKF30.2 hC)) rfl rfl (Nat.le_of_ble_eq_true rfl) ⟨by omega, by omega⟩ dL_isDone_240 (fun Ex σ' h => ?_) (fun v9 σ' hp9 => ?_)
    · obtain ⟨hE, t', F', rfl, hm⟩ := h
      rcases hE with hE | hE
      · rcases hE with ⟨n, rfl⟩ | ⟨p0, ⟨n, rfl⟩ | ⟨p1, hE⟩⟩
        · exact VX_c3 X ⟨32, 245, 246, 63⟩ ⟨32, 245, 250, 65⟩ [] E.2.2.1 (by decide) (by decide) (by decide) cl_L_63 cl_L_65 (zNcE X).1 cs_RIOB (fun q => H2 _ _ t' F' q (by omega) (by omega) (hKF30.trans hm))
        · exact VX_c1 X ⟨32, 245, 246, 63⟩ [⟨32, 245, 250, 65⟩] E.2.2.1 (by decide) (by decide) cl_L_63 cs_RISE (fun q => H1 _ _ t' F' q (by omega) (by omega) (hKF30.trans hm))
        · exact False.elim hE
      · exact False.elim hE
    · obtain ⟨p9, e9, l9, z9, rfl, F2, rfl, hz⟩ := hp9
      refine V_pop X dL_isDone_243 rfl ?_
      refine V_iconst (v := nI 1) X dL_isDone_244 (by decide) ?_
      exact V_zretW X E (zbool z01_1) (by omega) (by omega) ⟨_, rfl, _, _, rfl, Or.inl ⟨rfl, _, _, jV_night (hV.mv hKF30) l9 z9 hz h9⟩⟩ dL_isDone_245
  · -- case 8
    refine V_tableOut (tgt := 223) X dL_isDone_38 (by decide) (by decide) ?_
    refine V_aload_n X dL_isDone_223 2 rfl ?_
    refine V_iload_n X dL_isDone_224 3 rfl ?_
    refine V_iconst (v := nI 4) X dL_isDone_225 (by decide) ?_
    refine V_ishr X dL_isDone_226 (V.topi (fun w32 ew32 => ?_))
    refine V_iconst (v := nI 1) X dL_isDone_227 (by decide) ?_
    refine V_aload_n X dL_isDone_228 2 rfl ?_
    refine V_bipush (v := nI 6) X dL_isDone_229 (by decide) ?_
    refine V_callV (rest := [.int (nI (1)), .int (w32), .ref (X0 + 0)]) X E.room ml_L_38 in_X5_house (ci := 7) rfl se_X5_house (C_recv (q := 0) (by decide) rfl) (by decide) (by decide) (k_X5_house hX (hI.mvM hKF7) hG (nI (6)) (hB.mvC hKF7) (hKF7.2 hC)) rfl rfl (Nat.le_of_ble_eq_true rfl) ⟨by omega, by omega⟩ dL_isDone_231 (fun _ _ h => False.elim (h.1.elim (fun q => q.elim (fun q => q.1 (⟨_, rfl, by omega, by omega⟩)) (fun q => (fun q => q) q.2)) id)) (fun v231 σ' hp231 => ?_)
    obtain ⟨w9, ew9, lw9, r33, rfl, hrr33, F34, rfl, hJF34⟩ := hp231
    have zw9 : 6 = w9 := (nI_eq (by omega) (by omega)).mp ew9
    subst zw9
    have hvr33 : cHo nP nS nA nC nT F (6) (r33) := by have z : cHo nP nS nA nC nT F7 (6) (r33) := hrr33; rw [cHo_W (hKF7).1] at z; exact z
    have hKF34 : cM F F34 := hKF7.trans hJF34
    show V g κ 5 (0 + 1 + 1 + 1) (0 + 6 + 6 + 6) (t, cW g X0 F34 σ0) 234 [(3, .int (nI (r8))), (2, .int (nI (r4))), (0, .ref (X0 + 0)), (1, .int (a1))] [.int (r33), .int (nI (1)), .int (w32), .ref (X0 + 0)]
    obtain rfl : r33 = nI nT := cHo_6 hvr33
    show V g κ 5 (0 + 1 + 1 + 1) (0 + 6 + 6 + 6) (t, cW g X0 F34 σ0) 234 [(3, .int (nI (r8))), (2, .int (nI (r4))), (0, .ref (X0 + 0)), (1, .int (a1))] [.int (nI (nT)), .int (nI (1)), .int (w32), .ref (X0 + 0)]
    refine V_mmax X E.room (by omega) (by omega) (by decide) ml_L_42 st_J9_max_7cf53 rfl rfl (Nat.le_of_ble_eq_true rfl) dL_isDone_234 ?_
    rw [pMax1 (n := nT) (by omega)]
    show V g κ 5 (0 + 1 + 1 + 1) (0 + 6 + 6 + 6) (t, cW g X0 F34 σ0) 237 [(3, .int (nI (r8))), (2, .int (nI (r4))), (0, .ref (X0 + 0)), (1, .int (a1))] [.int (nI (max 1 nT)), .int (w32), .ref (X0 + 0)]
    refine V_callS (rest := [.ref (X0 + 0)]) X E.room ml_L_18 st_L_below (by decide) (by decide) (k_L_below (σ := (t, cW g X0 F34 σ0)) (w32) (max 1 nT) (by omega) (by omega)) rfl rfl (Nat.le_of_ble_eq_true rfl) ⟨by omega, by omega⟩ dL_isDone_237 (fun _ _ h => False.elim h) (fun v237 σ' hp237 => ?_)
    obtain ⟨hp237, rfl⟩ := hp237
    obtain ⟨r35, hr35, rfl⟩ := hp237
    show V g κ 5 (0 + 1 + 1 + 1) (0 + 6 + 6 + 6) (t, cW g X0 F34 σ0) 240 [(3, .int (nI (r8))), (2, .int (nI (r4))), (0, .ref (X0 + 0)), (1, .int (a1))] [.int (nI (r35)), .ref (X0 + 0)]
    refine V_callV (rest := []) X E.room ml_L_60 in_X5_night (ci := 7) rfl se_X5_night (C_recv (q := 0) (by decide) rfl) (by decide) (by decide) (k_X5_night hX (hI.mvM hKF34) hG (nI (r35)) (hB.mvC hKF34) (hKF34.2 hC)) rfl rfl (Nat.le_of_ble_eq_true rfl) ⟨by omega, by omega⟩ dL_isDone_240 (fun Ex σ' h => ?_) (fun v9 σ' hp9 => ?_)
    · obtain ⟨hE, t', F', rfl, hm⟩ := h
      rcases hE with hE | hE
      · rcases hE with ⟨n, rfl⟩ | ⟨p0, ⟨n, rfl⟩ | ⟨p1, hE⟩⟩
        · exact VX_c3 X ⟨32, 245, 246, 63⟩ ⟨32, 245, 250, 65⟩ [] E.2.2.1 (by decide) (by decide) (by decide) cl_L_63 cl_L_65 (zNcE X).1 cs_RIOB (fun q => H2 _ _ t' F' q (by omega) (by omega) (hKF34.trans hm))
        · exact VX_c1 X ⟨32, 245, 246, 63⟩ [⟨32, 245, 250, 65⟩] E.2.2.1 (by decide) (by decide) cl_L_63 cs_RISE (fun q => H1 _ _ t' F' q (by omega) (by omega) (hKF34.trans hm))
        · exact False.elim hE
      · exact False.elim hE
    · obtain ⟨p9, e9, l9, z9, rfl, F2, rfl, hz⟩ := hp9
      refine V_pop X dL_isDone_243 rfl ?_
      refine V_iconst (v := nI 1) X dL_isDone_244 (by decide) ?_
      exact V_zretW X E (zbool z01_1) (by omega) (by omega) ⟨_, rfl, _, _, rfl, Or.inl ⟨rfl, _, _, jV_night (hV.mv hKF34) l9 z9 hz h9⟩⟩ dL_isDone_245
