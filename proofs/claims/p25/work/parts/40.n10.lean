/-! ===== add, digest of the reference ===== -/
def qDig (g : zG) (ad N : Nat → Nat) (F : Nat → Nat → Int32) (σ0 : Nat → Option va_E) (xs ys ks : Nat → Nat) : Option Value → zS → Prop := fun v σ' => (∃ x, v = some (.long x) ∧ rDg N F xs ys ks x) ∧ ∃ (t' : Nat × Nat) (S' : Int64) (F' : Nat → Nat → Int32), σ' = (t', rO g ad N S' F' σ0) ∧ rM N F F' ∧ rI N F'
set_option maxRecDepth 100000 in
set_option maxHeartbeats 4000000 in
theorem k_X12_add {g : zG} {t : Nat × Nat} {ad N : Nat → Nat} {S : Int64} {σ0 : Nat → Option va_E} {F : Nat → Nat → Int32} (hK : rK g ad N) (hI : rI N F)  (a1 : Int64) : Ct g 10 yX12_add cX12_add 3 none 0 0 [.ref (ad (0)), .long (a1)] (t, rO g ad N S F σ0) (fun v σ' => v = none ∧ σ' = (t, rO g ad N (S * 31 + a1) F σ0)) zNo := by
  refine Ct.of (lv := [(0, .ref (ad (0))), (1, .long (a1))]) (by decide) (Nat.le_of_ble_eq_true rfl) rfl ?_
  intro κ X E B _
  have X : zX g κ RX12 cX12_add 3 := X
  obtain ⟨b0, b1, b2, b3, b4⟩ := hI.bnd
  refine V_aload_n X dX12_add_0 0 rfl ?_
  refine V_aload_n X dX12_add_1 0 rfl ?_
  refine R_getf X fl_X12_325 hK (0) (rlv (by omega)) rfl rfl dX12_add_2 (V.topl (fun w1 ew1 => ?_))
  refine V_ldc2 X cn_X12_329 dX12_add_5 (V.topl (fun w2 ew2 => ?_))
  refine V_lmul X dX12_add_8 (V.topl (fun w3 ew3 => ?_))
  refine V_lload_n X dX12_add_9 1 rfl ?_
  refine V_ladd X dX12_add_10 (V.topl (fun w4 ew4 => ?_))
  refine R_putJ X fl_X12_325 hK dX12_add_11 ?_
  show V g κ 3 (0) (0) (t, rO g ad N w4 F σ0) 14 [(0, .ref (ad (0))), (1, .long (a1))] []
  exact V_vret X E (by omega) (by omega) ⟨rfl, by rw [ew4, ew3, ew1, ew2]⟩ dX12_add_14
set_option maxRecDepth 100000 in
set_option maxHeartbeats 4000000 in
theorem k_X12_digest {g : zG} {t : Nat × Nat} {ad N : Nat → Nat} {S : Int64} {σ0 : Nat → Option va_E} {F : Nat → Nat → Int32} (hK : rK g ad N) (hI : rI N F)  (hKn : rKn N F) (b : Int32) (h : Nat → Nat) (hb : rBs N F b h) (hB : rCoB N F) (xs ys ks : Nat → Nat) (hT : rTc xs ys ks N F) : Ct g 29 yX12_digest cX12_digest 3 (some FieldType.long) 400 2000 [.ref (ad (0))] (t, rO g ad N S F σ0) (qDig g ad N F σ0 xs ys ks) zNo := by
  refine Ct.of (lv := [(0, .ref (ad (0)))]) (by decide) (Nat.le_of_ble_eq_true rfl) rfl ?_
  intro κ X E B _
  have X : zX g κ RX12 cX12_digest 3 := X
  obtain ⟨b0, b1, b2, b3, b4⟩ := hI.bnd
  refine V_aload_n X dX12_digest_0 0 rfl ?_
  refine V_iconst (v := nI 0) X dX12_digest_1 (by decide) ?_
  refine R_putf X fl_X12_38 zt_X12 hK (0) (rlv (by omega)) (by omega) rfl (Nat.le_of_ble_eq_true rfl) rfl rfl rfl rfl rfl dX12_digest_2 (fun F1 hF1 => ?_)
  have hJF1 := (rM.rfl' : rM N F F).set hF1 (by omega)
  have hIF1 := hI.st hF1 (by omega)
  refine V_aload_n X dX12_digest_5 0 rfl ?_
  refine V_ldc2 X cn_X12_331 dX12_digest_6 (V.topl (fun w2 ew2 => ?_))
  refine R_putJ X fl_X12_325 hK dX12_digest_9 ?_
  show V g κ 3 (0) (0) (t, rO g ad N w2 F1 σ0) 12 [(0, .ref (ad (0)))] []
  refine V_iconst (v := nI 0) X dX12_digest_12 (by decide) ?_
  refine V_istore_n X [(1, .int (nI (0))), (0, .ref (ad (0)))] dX12_digest_13 (by decide) rfl ?_
  have L14 : ∀ (n14 : Nat) (i14 : Nat) (G14 : Nat → Nat → Int32) (t14 : Nat × Nat) (S14 : Int64), n14 = 14 - i14 → i14 ≤ 14 → rM N F G14 → rI N G14 → (dN (fun w => dS (rHo N F w)) i14 8117 S14) → V g κ 3 (0 + 1 * i14) (0 + 4 * i14) (t14, rO g ad N S14 G14 σ0) 14 [(1, .int (nI (i14))), (0, .ref (ad (0)))] [] := by
    intro n14
    induction n14 using Nat.strongRecOn with
    | ind n14 ih14 =>
      intro i14 G14 t14 S14 hn14 hi14 hJ14 hI14 hv14_0
      refine V_iload_n X dX12_digest_14 0 rfl ?_
      refine V_bipush (v := nI 14) X dX12_digest_15 (by decide) ?_
      refine V_icmpgeN X (by omega) (by omega) (tgt := 36) dX12_digest_17 (by decide) (fun h3 => ?_) (fun h3 => ?_)
      · -- 17 true
        have hd1 : dN (fun w => dS (rHo N F w)) 14 8117 S14 := by have z := hv14_0; rw [show i14 = 14 by omega] at z; exact z
        refine V_iconst (v := nI 0) X dX12_digest_36 (by decide) ?_
        refine V_istore_n X [(1, .int (nI (0))), (0, .ref (ad (0)))] dX12_digest_37 (by decide) rfl ?_
        have L38 : ∀ (n38 : Nat) (i38 : Nat) (G38 : Nat → Nat → Int32) (t38 : Nat × Nat) (S38 : Int64), n38 = N 0 - i38 → i38 ≤ N 0 → rM N F G38 → rI N G38 → (dN (fun p => dN (fun w => dS (rPt N F p w)) 7) i38 S14 S38) → V g κ 3 (0 + 1 * i14) (0 + 4 * i14) (t38, rO g ad N S38 G38 σ0) 38 [(1, .int (nI (i38))), (0, .ref (ad (0)))] [] := by
          intro n38
          induction n38 using Nat.strongRecOn with
          | ind n38 ih38 =>
            intro i38 G38 t38 S38 hn38 hi38 hJ38 hI38 hv38_0
            refine V_iload_n X dX12_digest_38 0 rfl ?_
            refine V_aload_n X dX12_digest_39 1 rfl ?_
            refine R_getf X fl_X12_10 hK (0) (rlv (by omega)) rfl rfl dX12_digest_40 ?_
            refine V_callV (rest := [.int (nI (i38))]) X E.room ml_X12_42 in_Jx4a65c_size_8abf5 (ci := 3) rfl se_Jx4a65c_size_8abf5 (rO_list hK (i := 0) (by decide)) (by omega) (by decide) (r_size hK 0 (by decide)) rfl rfl (Nat.le_of_ble_eq_true rfl) ⟨by omega, by omega⟩ dX12_digest_43 (fun _ _ h => False.elim h) (fun v4 σ' hp5 => ?_)
            obtain ⟨hp5, rfl⟩ := hp5
            cases (hp5 : _ = some (Value.int (nI (N 0))))
            show V g κ 3 (0 + 1 * i14) (0 + 4 * i14) (t38, rO g ad N S38 G38 σ0) 46 [(1, .int (nI (i38))), (0, .ref (ad (0)))] [.int (nI (N 0)), .int (nI (i38))]
            refine V_icmpgeN X (by omega) (by omega) (tgt := 80) dX12_digest_46 (by decide) (fun h6 => ?_) (fun h6 => ?_)
            · -- 46 true
              have hd2 : dN (fun p => dN (fun w => dS (rPt N F p w)) 7) (N 0) S14 S38 := by have z := hv38_0; rw [show i38 = N 0 by omega] at z; exact z
              refine V_iconst (v := nI 0) X dX12_digest_80 (by decide) ?_
              refine V_istore_n X [(1, .int (nI (0))), (0, .ref (ad (0)))] dX12_digest_81 (by decide) rfl ?_
              have L82 : ∀ (n82 : Nat) (i82 : Nat) (G82 : Nat → Nat → Int32) (t82 : Nat × Nat) (S82 : Int64), n82 = N 1 - i82 → i82 ≤ N 1 → rM N F G82 → rI N G82 → (dN (rD3 N F) i82 S38 S82) → V g κ 3 (0 + 1 * i14) (0 + 4 * i14) (t82, rO g ad N S82 G82 σ0) 82 [(1, .int (nI (i82))), (0, .ref (ad (0)))] [] := by
                intro n82
                induction n82 using Nat.strongRecOn with
                | ind n82 ih82 =>
                  intro i82 G82 t82 S82 hn82 hi82 hJ82 hI82 hv82_0
                  refine V_iload_n X dX12_digest_82 0 rfl ?_
                  refine V_aload_n X dX12_digest_83 1 rfl ?_
                  refine R_getf X fl_X12_16 hK (0) (rlv (by omega)) rfl rfl dX12_digest_84 ?_
                  refine V_callV (rest := [.int (nI (i82))]) X E.room ml_X12_42 in_Jx4a65c_size_8abf5 (ci := 3) rfl se_Jx4a65c_size_8abf5 (rO_list hK (i := 1) (by decide)) (by omega) (by decide) (r_size hK 1 (by decide)) rfl rfl (Nat.le_of_ble_eq_true rfl) ⟨by omega, by omega⟩ dX12_digest_87 (fun _ _ h => False.elim h) (fun v7 σ' hp8 => ?_)
                  obtain ⟨hp8, rfl⟩ := hp8
                  cases (hp8 : _ = some (Value.int (nI (N 1))))
                  show V g κ 3 (0 + 1 * i14) (0 + 4 * i14) (t82, rO g ad N S82 G82 σ0) 90 [(1, .int (nI (i82))), (0, .ref (ad (0)))] [.int (nI (N 1)), .int (nI (i82))]
                  refine V_icmpgeN X (by omega) (by omega) (tgt := 146) dX12_digest_90 (by decide) (fun h9 => ?_) (fun h9 => ?_)
                  · -- 90 true
                    have hd3 : dN (rD3 N F) (N 1) S38 S82 := by have z := hv82_0; rw [show i82 = N 1 by omega] at z; exact z
                    refine V_iconst (v := nI 0) X dX12_digest_146 (by decide) ?_
                    refine V_istore_n X [(1, .int (nI (0))), (0, .ref (ad (0)))] dX12_digest_147 (by decide) rfl ?_
                    have L148 : ∀ (n148 : Nat) (i148 : Nat) (G148 : Nat → Nat → Int32) (t148 : Nat × Nat) (S148 : Int64), n148 = N 2 - i148 → i148 ≤ N 2 → rM N F G148 → rI N G148 → (dN (fun p => dN (fun w => dS (rSc N F p w)) 6) i148 S82 S148) → V g κ 3 (0 + 1 * i14 + 48 * i148) (0 + 4 * i14 + 240 * i148) (t148, rO g ad N S148 G148 σ0) 148 [(1, .int (nI (i148))), (0, .ref (ad (0)))] [] := by
                      intro n148
                      induction n148 using Nat.strongRecOn with
                      | ind n148 ih148 =>
                        intro i148 G148 t148 S148 hn148 hi148 hJ148 hI148 hv148_0
                        refine V_iload_n X dX12_digest_148 0 rfl ?_
                        refine V_aload_n X dX12_digest_149 1 rfl ?_
                        refine R_getf X fl_X12_19 hK (0) (rlv (by omega)) rfl rfl dX12_digest_150 ?_
                        refine V_callV (rest := [.int (nI (i148))]) X E.room ml_X12_42 in_Jx4a65c_size_8abf5 (ci := 3) rfl se_Jx4a65c_size_8abf5 (rO_list hK (i := 2) (by decide)) (by omega) (by decide) (r_size hK 2 (by decide)) rfl rfl (Nat.le_of_ble_eq_true rfl) ⟨by omega, by omega⟩ dX12_digest_153 (fun _ _ h => False.elim h) (fun v10 σ' hp11 => ?_)
                        obtain ⟨hp11, rfl⟩ := hp11
                        cases (hp11 : _ = some (Value.int (nI (N 2))))
                        show V g κ 3 (0 + 1 * i14 + 48 * i148) (0 + 4 * i14 + 240 * i148) (t148, rO g ad N S148 G148 σ0) 156 [(1, .int (nI (i148))), (0, .ref (ad (0)))] [.int (nI (N 2)), .int (nI (i148))]
                        refine V_icmpgeN X (by omega) (by omega) (tgt := 190) dX12_digest_156 (by decide) (fun h12 => ?_) (fun h12 => ?_)
                        · -- 156 true
                          have hd4 : dN (fun p => dN (fun w => dS (rSc N F p w)) 6) (N 2) S82 S148 := by have z := hv148_0; rw [show i148 = N 2 by omega] at z; exact z
                          refine V_iconst (v := nI 0) X dX12_digest_190 (by decide) ?_
                          refine V_istore_n X [(1, .int (nI (0))), (0, .ref (ad (0)))] dX12_digest_191 (by decide) rfl ?_
                          have L192 : ∀ (n192 : Nat) (i192 : Nat) (G192 : Nat → Nat → Int32) (t192 : Nat × Nat) (S192 : Int64), n192 = N 3 - i192 → i192 ≤ N 3 → rM N F G192 → rI N G192 → (dN (fun p => dS (rCt F p 3)) i192 S148 S192) → V g κ 3 (0 + 1 * i14 + 48 * i148) (0 + 4 * i14 + 240 * i148) (t192, rO g ad N S192 G192 σ0) 192 [(1, .int (nI (i192))), (0, .ref (ad (0)))] [] := by
                            intro n192
                            induction n192 using Nat.strongRecOn with
                            | ind n192 ih192 =>
                              intro i192 G192 t192 S192 hn192 hi192 hJ192 hI192 hv192_0
                              refine V_iload_n X dX12_digest_192 0 rfl ?_
                              refine V_aload_n X dX12_digest_193 1 rfl ?_
                              refine R_getf X fl_X12_22 hK (0) (rlv (by omega)) rfl rfl dX12_digest_194 ?_
                              refine V_callV (rest := [.int (nI (i192))]) X E.room ml_X12_42 in_Jx4a65c_size_8abf5 (ci := 3) rfl se_Jx4a65c_size_8abf5 (rO_list hK (i := 3) (by decide)) (by omega) (by decide) (r_size hK 3 (by decide)) rfl rfl (Nat.le_of_ble_eq_true rfl) ⟨by omega, by omega⟩ dX12_digest_197 (fun _ _ h => False.elim h) (fun v13 σ' hp14 => ?_)
                              obtain ⟨hp14, rfl⟩ := hp14
                              cases (hp14 : _ = some (Value.int (nI (N 3))))
                              show V g κ 3 (0 + 1 * i14 + 48 * i148) (0 + 4 * i14 + 240 * i148) (t192, rO g ad N S192 G192 σ0) 200 [(1, .int (nI (i192))), (0, .ref (ad (0)))] [.int (nI (N 3)), .int (nI (i192))]
                              refine V_icmpgeN X (by omega) (by omega) (tgt := 220) dX12_digest_200 (by decide) (fun h15 => ?_) (fun h15 => ?_)
                              · -- 200 true
                                have hd5 : dN (fun p => dS (rCt F p 3)) (N 3) S148 S192 := by have z := hv192_0; rw [show i192 = N 3 by omega] at z; exact z
                                refine V_iconst (v := nI 0) X dX12_digest_220 (by decide) ?_
                                refine V_istore_n X [(1, .int (nI (0))), (0, .ref (ad (0)))] dX12_digest_221 (by decide) rfl ?_
                                have L222 : ∀ (n222 : Nat) (i222 : Nat) (G222 : Nat → Nat → Int32) (t222 : Nat × Nat) (S222 : Int64), n222 = N 4 - i222 → i222 ≤ N 4 → rM N F G222 → rI N G222 → (dN (rD6 F) i222 S192 S222) → V g κ 3 (0 + 1 * i14 + 48 * i148) (0 + 4 * i14 + 240 * i148) (t222, rO g ad N S222 G222 σ0) 222 [(1, .int (nI (i222))), (0, .ref (ad (0)))] [] := by
                                  intro n222
                                  induction n222 using Nat.strongRecOn with
                                  | ind n222 ih222 =>
                                    intro i222 G222 t222 S222 hn222 hi222 hJ222 hI222 hv222_0
                                    refine V_iload_n X dX12_digest_222 0 rfl ?_
                                    refine V_aload_n X dX12_digest_223 1 rfl ?_
                                    refine R_getf X fl_X12_25 hK (0) (rlv (by omega)) rfl rfl dX12_digest_224 ?_
                                    refine V_callV (rest := [.int (nI (i222))]) X E.room ml_X12_42 in_Jx4a65c_size_8abf5 (ci := 3) rfl se_Jx4a65c_size_8abf5 (rO_list hK (i := 4) (by decide)) (by omega) (by decide) (r_size hK 4 (by decide)) rfl rfl (Nat.le_of_ble_eq_true rfl) ⟨by omega, by omega⟩ dX12_digest_227 (fun _ _ h => False.elim h) (fun v16 σ' hp17 => ?_)
                                    obtain ⟨hp17, rfl⟩ := hp17
                                    cases (hp17 : _ = some (Value.int (nI (N 4))))
                                    show V g κ 3 (0 + 1 * i14 + 48 * i148) (0 + 4 * i14 + 240 * i148) (t222, rO g ad N S222 G222 σ0) 230 [(1, .int (nI (i222))), (0, .ref (ad (0)))] [.int (nI (N 4)), .int (nI (i222))]
                                    refine V_icmpgeN X (by omega) (by omega) (tgt := 261) dX12_digest_230 (by decide) (fun h18 => ?_) (fun h18 => ?_)
                                    · -- 230 true
                                      have hd6 : dN (rD6 F) (N 4) S192 S222 := by have z := hv222_0; rw [show i222 = N 4 by omega] at z; exact z
                                      refine V_iconst (v := nI 0) X dX12_digest_261 (by decide) ?_
                                      refine V_istore_n X [(1, .int (nI (0))), (0, .ref (ad (0)))] dX12_digest_262 (by decide) rfl ?_
                                      have L263 : ∀ (n263 : Nat) (i263 : Nat) (G263 : Nat → Nat → Int32) (S263 : Int64), n263 = 3 - i263 → i263 ≤ 3 → rM N F G263 → rI N G263 → (dN (fun w => dS (tAns xs ys ks (N 4) 150 w)) i263 S222 S263) → V g κ 3 (0 + 1 * i14 + 48 * i148) (0 + 4 * i14 + 240 * i148) (t222, rO g ad N S263 G263 σ0) 263 [(1, .int (nI (i263))), (0, .ref (ad (0)))] [] := by
                                        intro n263
                                        induction n263 using Nat.strongRecOn with
                                        | ind n263 ih263 =>
                                          intro i263 G263 S263 hn263 hi263 hJ263 hI263 hv263_0
                                          refine V_iload_n X dX12_digest_263 0 rfl ?_
                                          refine V_iconst (v := nI 3) X dX12_digest_264 (by decide) ?_
                                          refine V_icmpgeN X (by omega) (by omega) (tgt := 287) dX12_digest_265 (by decide) (fun h19 => ?_) (fun h19 => ?_)
                                          · -- 265 true
                                            have hd7 : dN (fun w => dS (tAns xs ys ks (N 4) 150 w)) 3 S222 S263 := by have z := hv263_0; rw [show i263 = 3 by omega] at z; exact z
                                            refine V_aload_n X dX12_digest_287 1 rfl ?_
                                            refine V_aload_n X dX12_digest_288 1 rfl ?_
                                            refine V_callV (rest := [.ref (ad (0))]) X E.room ml_X12_313 in_X12_castNow (ci := 16) rfl se_X12_castNow (R_recv hK (q := 0) (rlv (by omega)) rfl) (by omega) (by decide) (k_X12_castNow hK hI263 (hJ263.2 hKn) b h (rBs_M hJ263 hI hb)) rfl rfl (Nat.le_of_ble_eq_true rfl) ⟨by omega, by omega⟩ dX12_digest_289 (fun _ _ h => False.elim h) (fun v289 σ' hp289 => ?_)
                                            obtain ⟨t21, F20, hJF20, hIF20, hp289⟩ := hp289
                                            have hKF20 : rM N F F20 := (hJ263 : rM N F G263).trans hJF20
                                            rcases hp289 with ⟨hbn, rfl, rfl⟩ | ⟨Sx, nx, fw, hnx, rfl, rfl, fS, fW⟩
                                            · -- none
                                              show V g κ 3 (0 + 1 * i14 + 48 * i148 + 4) (0 + 4 * i14 + 240 * i148 + 31) (t21, rO g ad N S263 F20 σ0) 292 [(1, .int (nI (i263))), (0, .ref (ad (0)))] [.ref (g.2.2.2 7), .ref (ad (0))]
                                              obtain ⟨k9, v9, hS9, e9⟩ := zLitF X (a := g.2.2.2 7) (Or.inr rfl)
                                              have hr9 := (hS9.1 0 (by decide)).1
                                              rw [e9] at hr9
                                              refine V_callVL (rest := [.ref (ad (0))]) X E.room ml_X12_336 in_J0_length_8abf5 (C := RJ0) se_J0_length_8abf5 hr9 (by omega) (by decide) (k_J0_length_litx (Or.inr rfl)) rfl rfl (Nat.le_of_ble_eq_true rfl) ⟨by omega, by omega⟩ dX12_digest_292 (fun _ _ h => False.elim h) (fun v8 σ' hp8 => ?_)
                                              obtain ⟨hp8, rfl⟩ := hp8
                                              cases (hp8 : _ = some (Value.int (nI 4)))
                                              show V g κ 3 (0 + 1 * i14 + 48 * i148 + 4) (0 + 4 * i14 + 240 * i148 + 31) (t21, rO g ad N S263 F20 σ0) 295 [(1, .int (nI (i263))), (0, .ref (ad (0)))] [.int (nI (4)), .ref (ad (0))]
                                              refine V_i2l X dX12_digest_295 (V.topl (fun w22 ew22 => ?_))
                                              refine V_callV (rest := []) X E.room ml_X12_333 in_X12_add (ci := 16) rfl se_X12_add (R_recv hK (q := 0) (rlv (by omega)) rfl) (by omega) (by decide) (k_X12_add hK hIF20 (w22)) rfl rfl (Nat.le_of_ble_eq_true rfl) ⟨by omega, by omega⟩ dX12_digest_296 (fun _ _ h => False.elim h) (fun v296 σ' hp296 => ?_)
                                              obtain ⟨hp296, rfl⟩ := hp296
                                              cases (hp296 : _ = none)
                                              show V g κ 3 (0 + 1 * i14 + 48 * i148 + 4) (0 + 4 * i14 + 240 * i148 + 31) (t21, rO g ad N (S263 * 31 + w22) F20 σ0) 299 [(1, .int (nI (i263))), (0, .ref (ad (0)))] []
                                              have hln : dS (rLn N F) S263 (S263 * 31 + w22) := ⟨_, ⟨_, _, hb, Or.inl ⟨hbn, rfl⟩⟩, by rw [ew22]⟩
                                              refine V_aload_n X dX12_digest_299 1 rfl ?_
                                              refine V_aload_n X dX12_digest_300 1 rfl ?_
                                              refine V_callV (rest := [.ref (ad (0))]) X E.room ml_X12_322 in_X12_isSoundNow (ci := 16) rfl se_X12_isSoundNow (R_recv hK (q := 0) (rlv (by omega)) rfl) (by omega) (by decide) (k_X12_isSoundNow hK hIF20 (hKF20.2 hKn) b h (rBs_M hKF20 hI hb)) rfl rfl (Nat.le_of_ble_eq_true rfl) ⟨by omega, by omega⟩ dX12_digest_301 (fun _ _ h => False.elim h) (fun v301 σ' hp301 => ?_)
                                              obtain ⟨hp301, t24, F23, rfl, hJF23, hIF23⟩ := hp301
                                              have hKF23 : rM N F F23 := (hKF20 : rM N F F20).trans hJF23
                                              obtain ⟨r25, rfl, hr25, fr25⟩ := hp301
                                              show V g κ 3 (0 + 1 * i14 + 48 * i148 + 4 + 51) (0 + 4 * i14 + 240 * i148 + 31 + 252) (t24, rO g ad N (S263 * 31 + w22) F23 σ0) 304 [(1, .int (nI (i263))), (0, .ref (ad (0)))] [.int (r25), .ref (ad (0))]
                                              refine V_ifeq X (tgt := 311) dX12_digest_304 (by decide) (fun h26 => ?_) (fun h26 => ?_)
                                              · -- 304 true
                                                refine V_lconst X dX12_digest_311 rfl (V.topl (fun w27 ew27 => ?_))
                                                refine V_callV (rest := []) X E.room ml_X12_333 in_X12_add (ci := 16) rfl se_X12_add (R_recv hK (q := 0) (rlv (by omega)) rfl) (by omega) (by decide) (k_X12_add hK hIF23 (w27)) rfl rfl (Nat.le_of_ble_eq_true rfl) ⟨by omega, by omega⟩ dX12_digest_312 (fun _ _ h => False.elim h) (fun v312 σ' hp312 => ?_)
                                                obtain ⟨hp312, rfl⟩ := hp312
                                                cases (hp312 : _ = none)
                                                show V g κ 3 (0 + 1 * i14 + 48 * i148 + 4 + 51) (0 + 4 * i14 + 240 * i148 + 31 + 252) (t24, rO g ad N ((S263 * 31 + w22) * 31 + w27) F23 σ0) 315 [(1, .int (nI (i263))), (0, .ref (ad (0)))] []
                                                refine V_aload_n X dX12_digest_315 1 rfl ?_
                                                refine R_getf X fl_X12_325 hK (0) (rlv (by omega)) rfl rfl dX12_digest_316 (V.topl (fun w28 ew28 => ?_))
                                                exact V_lret X E (by omega) (by omega) ⟨⟨_, rfl, by rw [ew28]; exact ⟨_, _, _, _, _, _, _, _, hd1, hd2, hd3, hd4, hd5, hd6, hd7, hln, ⟨_, mTl_z (mTl_cg (rSd_M hKF20 hI) fr25) h26, by rw [ew27]; exact congrArg ((S263 * 31 + w22) * 31 + ·) (by decide +kernel)⟩⟩⟩, _, _, _, rfl, hKF23, hIF23⟩ dX12_digest_319
                                              · -- 304 false
                                                refine V_lconst X dX12_digest_307 rfl (V.topl (fun w29 ew29 => ?_))
                                                refine V_goto (tgt := 312) X dX12_digest_308 (by decide) ?_
                                                refine V_callV (rest := []) X E.room ml_X12_333 in_X12_add (ci := 16) rfl se_X12_add (R_recv hK (q := 0) (rlv (by omega)) rfl) (by omega) (by decide) (k_X12_add hK hIF23 (w29)) rfl rfl (Nat.le_of_ble_eq_true rfl) ⟨by omega, by omega⟩ dX12_digest_312 (fun _ _ h => False.elim h) (fun v312 σ' hp312 => ?_)
                                                obtain ⟨hp312, rfl⟩ := hp312
                                                cases (hp312 : _ = none)
                                                show V g κ 3 (0 + 1 * i14 + 48 * i148 + 4 + 51) (0 + 4 * i14 + 240 * i148 + 31 + 252) (t24, rO g ad N ((S263 * 31 + w22) * 31 + w29) F23 σ0) 315 [(1, .int (nI (i263))), (0, .ref (ad (0)))] []
                                                refine V_aload_n X dX12_digest_315 1 rfl ?_
                                                refine R_getf X fl_X12_325 hK (0) (rlv (by omega)) rfl rfl dX12_digest_316 (V.topl (fun w30 ew30 => ?_))
                                                exact V_lret X E (by omega) (by omega) ⟨⟨_, rfl, by rw [ew30]; exact ⟨_, _, _, _, _, _, _, _, hd1, hd2, hd3, hd4, hd5, hd6, hd7, hln, ⟨_, mTl_nz (mTl_cg (rSd_M hKF20 hI) fr25) h26, by rw [ew29]; exact congrArg ((S263 * 31 + w22) * 31 + ·) (by decide +kernel)⟩⟩⟩, _, _, _, rfl, hKF23, hIF23⟩ dX12_digest_319
                                            · -- a string
                                              show V g κ 3 (0 + 1 * i14 + 48 * i148 + 4) (0 + 4 * i14 + 240 * i148 + 31) (t21, rO g ad N S263 F20 (zSx g σ0 Sx nx fw)) 292 [(1, .int (nI (i263))), (0, .ref (ad (0)))] [.ref (Sx), .ref (ad (0))]
                                              refine V_callV (rest := [.ref (ad (0))]) X E.room ml_X12_336 in_J0_length_8abf5 (ci := 0) rfl se_J0_length_8abf5 ((rO_out fS.1).trans zSx_S) (by omega) (by decide) (k_J0_length_x ((rO_out fS.1).trans zSx_S) ((rO_out fW.1).trans zSx_W) (by omega)) rfl rfl (Nat.le_of_ble_eq_true rfl) ⟨by omega, by omega⟩ dX12_digest_292 (fun _ _ h => False.elim h) (fun v292 σ' hp292 => ?_)
                                              obtain ⟨hp292, rfl⟩ := hp292
                                              cases (hp292 : _ = some (Value.int (nI nx)))
                                              refine V.weak (f' := rO g ad N S263 F20 σ0) (rO_sub (zSx_sub fS.2 fW.2)) ?_
                                              show V g κ 3 (0 + 1 * i14 + 48 * i148 + 4) (0 + 4 * i14 + 240 * i148 + 31) (t21, rO g ad N S263 F20 σ0) 295 [(1, .int (nI (i263))), (0, .ref (ad (0)))] [.int (nI (nx)), .ref (ad (0))]
                                              refine V_i2l X dX12_digest_295 (V.topl (fun w31 ew31 => ?_))
                                              refine V_callV (rest := []) X E.room ml_X12_333 in_X12_add (ci := 16) rfl se_X12_add (R_recv hK (q := 0) (rlv (by omega)) rfl) (by omega) (by decide) (k_X12_add hK hIF20 (w31)) rfl rfl (Nat.le_of_ble_eq_true rfl) ⟨by omega, by omega⟩ dX12_digest_296 (fun _ _ h => False.elim h) (fun v296 σ' hp296 => ?_)
                                              obtain ⟨hp296, rfl⟩ := hp296
                                              cases (hp296 : _ = none)
                                              show V g κ 3 (0 + 1 * i14 + 48 * i148 + 4) (0 + 4 * i14 + 240 * i148 + 31) (t21, rO g ad N (S263 * 31 + w31) F20 σ0) 299 [(1, .int (nI (i263))), (0, .ref (ad (0)))] []
                                              have hln : dS (rLn N F) S263 (S263 * 31 + w31) := ⟨_, ⟨_, _, hb, Or.inr ⟨hnx.2, congrArg nI hnx.1⟩⟩, by rw [ew31]⟩
                                              refine V_aload_n X dX12_digest_299 1 rfl ?_
                                              refine V_aload_n X dX12_digest_300 1 rfl ?_
                                              refine V_callV (rest := [.ref (ad (0))]) X E.room ml_X12_322 in_X12_isSoundNow (ci := 16) rfl se_X12_isSoundNow (R_recv hK (q := 0) (rlv (by omega)) rfl) (by omega) (by decide) (k_X12_isSoundNow hK hIF20 (hKF20.2 hKn) b h (rBs_M hKF20 hI hb)) rfl rfl (Nat.le_of_ble_eq_true rfl) ⟨by omega, by omega⟩ dX12_digest_301 (fun _ _ h => False.elim h) (fun v301 σ' hp301 => ?_)
                                              obtain ⟨hp301, t33, F32, rfl, hJF32, hIF32⟩ := hp301
                                              have hKF32 : rM N F F32 := (hKF20 : rM N F F20).trans hJF32
                                              obtain ⟨r34, rfl, hr34, fr34⟩ := hp301
                                              show V g κ 3 (0 + 1 * i14 + 48 * i148 + 4 + 51) (0 + 4 * i14 + 240 * i148 + 31 + 252) (t33, rO g ad N (S263 * 31 + w31) F32 σ0) 304 [(1, .int (nI (i263))), (0, .ref (ad (0)))] [.int (r34), .ref (ad (0))]
                                              refine V_ifeq X (tgt := 311) dX12_digest_304 (by decide) (fun h35 => ?_) (fun h35 => ?_)
                                              · -- 304 true
                                                refine V_lconst X dX12_digest_311 rfl (V.topl (fun w36 ew36 => ?_))
                                                refine V_callV (rest := []) X E.room ml_X12_333 in_X12_add (ci := 16) rfl se_X12_add (R_recv hK (q := 0) (rlv (by omega)) rfl) (by omega) (by decide) (k_X12_add hK hIF32 (w36)) rfl rfl (Nat.le_of_ble_eq_true rfl) ⟨by omega, by omega⟩ dX12_digest_312 (fun _ _ h => False.elim h) (fun v312 σ' hp312 => ?_)
                                                obtain ⟨hp312, rfl⟩ := hp312
                                                cases (hp312 : _ = none)
                                                show V g κ 3 (0 + 1 * i14 + 48 * i148 + 4 + 51) (0 + 4 * i14 + 240 * i148 + 31 + 252) (t33, rO g ad N ((S263 * 31 + w31) * 31 + w36) F32 σ0) 315 [(1, .int (nI (i263))), (0, .ref (ad (0)))] []
                                                refine V_aload_n X dX12_digest_315 1 rfl ?_
                                                refine R_getf X fl_X12_325 hK (0) (rlv (by omega)) rfl rfl dX12_digest_316 (V.topl (fun w37 ew37 => ?_))
                                                exact V_lret X E (by omega) (by omega) ⟨⟨_, rfl, by rw [ew37]; exact ⟨_, _, _, _, _, _, _, _, hd1, hd2, hd3, hd4, hd5, hd6, hd7, hln, ⟨_, mTl_z (mTl_cg (rSd_M hKF20 hI) fr34) h35, by rw [ew36]; exact congrArg ((S263 * 31 + w31) * 31 + ·) (by decide +kernel)⟩⟩⟩, _, _, _, rfl, hKF32, hIF32⟩ dX12_digest_319
                                              · -- 304 false
                                                refine V_lconst X dX12_digest_307 rfl (V.topl (fun w38 ew38 => ?_))
                                                refine V_goto (tgt := 312) X dX12_digest_308 (by decide) ?_
                                                refine V_callV (rest := []) X E.room ml_X12_333 in_X12_add (ci := 16) rfl se_X12_add (R_recv hK (q := 0) (rlv (by omega)) rfl) (by omega) (by decide) (k_X12_add hK hIF32 (w38)) rfl rfl (Nat.le_of_ble_eq_true rfl) ⟨by omega, by omega⟩ dX12_digest_312 (fun _ _ h => False.elim h) (fun v312 σ' hp312 => ?_)
                                                obtain ⟨hp312, rfl⟩ := hp312
                                                cases (hp312 : _ = none)
                                                show V g κ 3 (0 + 1 * i14 + 48 * i148 + 4 + 51) (0 + 4 * i14 + 240 * i148 + 31 + 252) (t33, rO g ad N ((S263 * 31 + w31) * 31 + w38) F32 σ0) 315 [(1, .int (nI (i263))), (0, .ref (ad (0)))] []
                                                refine V_aload_n X dX12_digest_315 1 rfl ?_
                                                refine R_getf X fl_X12_325 hK (0) (rlv (by omega)) rfl rfl dX12_digest_316 (V.topl (fun w39 ew39 => ?_))
                                                exact V_lret X E (by omega) (by omega) ⟨⟨_, rfl, by rw [ew39]; exact ⟨_, _, _, _, _, _, _, _, hd1, hd2, hd3, hd4, hd5, hd6, hd7, hln, ⟨_, mTl_nz (mTl_cg (rSd_M hKF20 hI) fr34) h35, by rw [ew38]; exact congrArg ((S263 * 31 + w31) * 31 + ·) (by decide +kernel)⟩⟩⟩, _, _, _, rfl, hKF32, hIF32⟩ dX12_digest_319
                                          · -- 265 false
                                            refine V_aload_n X dX12_digest_268 1 rfl ?_
                                            refine V_aload_n X dX12_digest_269 1 rfl ?_
                                            refine V_sipush (v := nI 150) X dX12_digest_270 (by decide) ?_
                                            refine V_iload_n X dX12_digest_273 0 rfl ?_
                                            refine V_callV (rest := [.ref (ad (0))]) X E.room ml_X12_316 in_X12_tourNow (ci := 16) rfl se_X12_tourNow (R_recv hK (q := 0) (rlv (by omega)) rfl) (by omega) (by decide) (k_X12_tourNow_x hK hI263 (150) (i263) (by omega) (by omega) (hT.mv (fun k j q1 q2 => (hJ263).1 k j (Or.inl ⟨by omega, by omega⟩)) b4)) rfl rfl (Nat.le_of_ble_eq_true rfl) ⟨by omega, by omega⟩ dX12_digest_274 (fun _ _ h => False.elim h) (fun v28 σ' hp28 => ?_)
                                            obtain ⟨r41, rfl, fr41, F40, rfl, hJF40, hZF40⟩ := hp28
                                            have hIF40 := hI263.mv hJF40
                                            have hKF40 : rM N F F40 := (hJ263).trans hJF40.m
                                            show V g κ 3 (0 + 1 * i14 + 48 * i148) (0 + 4 * i14 + 240 * i148) (t222, rO g ad N S263 F40 σ0) 277 [(1, .int (nI (i263))), (0, .ref (ad (0)))] [.int (r41), .ref (ad (0))]
                                            refine V_i2l X dX12_digest_277 (V.topl (fun w42 ew42 => ?_))
                                            refine V_callV (rest := []) X E.room ml_X12_333 in_X12_add (ci := 16) rfl se_X12_add (R_recv hK (q := 0) (rlv (by omega)) rfl) (by omega) (by decide) (k_X12_add hK hIF40 (w42)) rfl rfl (Nat.le_of_ble_eq_true rfl) ⟨by omega, by omega⟩ dX12_digest_278 (fun _ _ h => False.elim h) (fun v278 σ' hp278 => ?_)
                                            obtain ⟨hp278, rfl⟩ := hp278
                                            cases (hp278 : _ = none)
                                            show V g κ 3 (0 + 1 * i14 + 48 * i148) (0 + 4 * i14 + 240 * i148) (t222, rO g ad N (S263 * 31 + w42) F40 σ0) 281 [(1, .int (nI (i263))), (0, .ref (ad (0)))] []
                                            refine V_iinc X (nI (i263 + 1)) [(1, .int (nI (i263 + 1))), (0, .ref (ad (0)))] dX12_digest_281 0 rfl (zinc _) (by decide) rfl ?_
                                            refine V_goto (tgt := 263) X dX12_digest_284 (by decide) ?_
                                            exact V.sub [0, 1] rfl (ih263 _ (by omega) (i263 + 1) F40 ((S263 * 31 + w42)) rfl (by omega) hKF40 hIF40 (⟨_, hv263_0, ⟨_, fr41, by rw [ew42]⟩⟩))
                                      exact L263 _ (0) G222 (S222) rfl (by omega) hJ222 hI222 (rfl)
                                    · -- 230 false
                                      refine V_aload_n X dX12_digest_233 1 rfl ?_
                                      refine V_aload_n X dX12_digest_234 1 rfl ?_
                                      refine V_iload_n X dX12_digest_235 0 rfl ?_
                                      refine V_iconst (v := nI 2) X dX12_digest_236 (by decide) ?_
                                      refine V_callV (rest := [.ref (ad (0))]) X E.room ml_X12_285 in_X12_ofTownNow (ci := 16) rfl se_X12_ofTownNow (R_recv hK (q := 0) (rlv (by omega)) rfl) (by omega) (by decide) (k_X12_ofTownNow hK hI222 (i222) (2) (by omega) (by omega) (hJ222.2 hKn) b h (rBs_M hJ222 hI hb)) rfl rfl (Nat.le_of_ble_eq_true rfl) ⟨by omega, by omega⟩ dX12_digest_237 (fun _ _ h => False.elim h) (fun v237 σ' hp237 => ?_)
                                      obtain ⟨r43, rfl, fr43, t45, F44, rfl, hMF44, hIF44, hZF44⟩ := hp237
                                      have hKF44 : rM N F F44 := (hJ222 : rM N F G222).trans hMF44
                                      have hvr43 : rTn F (i222) (2) r43 := rTn_M hJ222 hI (by omega) fr43
                                      show V g κ 3 (0 + 1 * i14 + 48 * i148) (0 + 4 * i14 + 240 * i148) (t45, rO g ad N S222 F44 σ0) 240 [(1, .int (nI (i222))), (0, .ref (ad (0)))] [.int (r43), .ref (ad (0))]
                                      refine V_i2l X dX12_digest_240 (V.topl (fun w46 ew46 => ?_))
                                      refine V_callV (rest := []) X E.room ml_X12_333 in_X12_add (ci := 16) rfl se_X12_add (R_recv hK (q := 0) (rlv (by omega)) rfl) (by omega) (by decide) (k_X12_add hK hIF44 (w46)) rfl rfl (Nat.le_of_ble_eq_true rfl) ⟨by omega, by omega⟩ dX12_digest_241 (fun _ _ h => False.elim h) (fun v241 σ' hp241 => ?_)
                                      obtain ⟨hp241, rfl⟩ := hp241
                                      cases (hp241 : _ = none)
                                      show V g κ 3 (0 + 1 * i14 + 48 * i148) (0 + 4 * i14 + 240 * i148) (t45, rO g ad N (S222 * 31 + w46) F44 σ0) 244 [(1, .int (nI (i222))), (0, .ref (ad (0)))] []
                                      have hto : dS (rTn F i222 2) S222 (S222 * 31 + w46) := ⟨_, hvr43, by rw [ew46]⟩
                                      refine V_aload_n X dX12_digest_244 1 rfl ?_
                                      refine V_aload_n X dX12_digest_245 1 rfl ?_
                                      refine V_iload_n X dX12_digest_246 0 rfl ?_
                                      refine V_iconst (v := nI 3) X dX12_digest_247 (by decide) ?_
                                      refine V_callV (rest := [.ref (ad (0))]) X E.room ml_X12_285 in_X12_ofTownNow (ci := 16) rfl se_X12_ofTownNow (R_recv hK (q := 0) (rlv (by omega)) rfl) (by omega) (by decide) (k_X12_ofTownNow hK hIF44 (i222) (3) (by omega) (by omega) (hKF44.2 hKn) b h (rBs_M hKF44 hI hb)) rfl rfl (Nat.le_of_ble_eq_true rfl) ⟨by omega, by omega⟩ dX12_digest_248 (fun _ _ h => False.elim h) (fun v248 σ' hp248 => ?_)
                                      obtain ⟨r47, rfl, fr47, t49, F48, rfl, hMF48, hIF48, hZF48⟩ := hp248
                                      have hKF48 : rM N F F48 := (hKF44 : rM N F F44).trans hMF48
                                      have hvr47 : rTn F (i222) (3) r47 := rTn_M hKF44 hI (by omega) fr47
                                      show V g κ 3 (0 + 1 * i14 + 48 * i148) (0 + 4 * i14 + 240 * i148) (t49, rO g ad N (S222 * 31 + w46) F48 σ0) 251 [(1, .int (nI (i222))), (0, .ref (ad (0)))] [.int (r47), .ref (ad (0))]
                                      refine V_i2l X dX12_digest_251 (V.topl (fun w50 ew50 => ?_))
                                      refine V_callV (rest := []) X E.room ml_X12_333 in_X12_add (ci := 16) rfl se_X12_add (R_recv hK (q := 0) (rlv (by omega)) rfl) (by omega) (by decide) (k_X12_add hK hIF48 (w50)) rfl rfl (Nat.le_of_ble_eq_true rfl) ⟨by omega, by omega⟩ dX12_digest_252 (fun _ _ h => False.elim h) (fun v252 σ' hp252 => ?_)
                                      obtain ⟨hp252, rfl⟩ := hp252
                                      cases (hp252 : _ = none)
                                      show V g κ 3 (0 + 1 * i14 + 48 * i148) (0 + 4 * i14 + 240 * i148) (t49, rO g ad N ((S222 * 31 + w46) * 31 + w50) F48 σ0) 255 [(1, .int (nI (i222))), (0, .ref (ad (0)))] []
                                      refine V_iinc X (nI (i222 + 1)) [(1, .int (nI (i222 + 1))), (0, .ref (ad (0)))] dX12_digest_255 0 rfl (zinc _) (by decide) rfl ?_
                                      refine V_goto (tgt := 222) X dX12_digest_258 (by decide) ?_
                                      exact V.sub [0, 1] rfl (ih222 _ (by omega) (i222 + 1) F48 (t49) (((S222 * 31 + w46) * 31 + w50)) rfl (by omega) hKF48 hIF48 (⟨_, hv222_0, ⟨_, hto, ⟨_, hvr47, by rw [ew50]⟩⟩⟩))
                                exact L222 _ (0) G192 (t192) (S192) rfl (by omega) hJ192 hI192 (rfl)
                              · -- 200 false
                                refine V_aload_n X dX12_digest_203 1 rfl ?_
                                refine V_aload_n X dX12_digest_204 1 rfl ?_
                                refine V_iload_n X dX12_digest_205 0 rfl ?_
                                refine V_iconst (v := nI 3) X dX12_digest_206 (by decide) ?_
                                refine V_callV (rest := [.ref (ad (0))]) X E.room ml_X12_282 in_X12_ofCoatNow (ci := 16) rfl se_X12_ofCoatNow (R_recv hK (q := 0) (rlv (by omega)) rfl) (by omega) (by decide) (k_X12_ofCoatNow hK hI192 (i192) (3) (by omega) (by omega) (hJ192.2 hKn) b h (rBs_M hJ192 hI hb)) rfl rfl (Nat.le_of_ble_eq_true rfl) ⟨by omega, by omega⟩ dX12_digest_207 (fun _ _ h => False.elim h) (fun v207 σ' hp207 => ?_)
                                obtain ⟨r51, rfl, fr51, t53, F52, rfl, hMF52, hIF52, hZF52⟩ := hp207
                                have hKF52 : rM N F F52 := (hJ192 : rM N F G192).trans hMF52
                                have hvr51 : rCt F (i192) (3) r51 := rCt_M hJ192 hI (by omega) fr51
                                show V g κ 3 (0 + 1 * i14 + 48 * i148) (0 + 4 * i14 + 240 * i148) (t53, rO g ad N S192 F52 σ0) 210 [(1, .int (nI (i192))), (0, .ref (ad (0)))] [.int (r51), .ref (ad (0))]
                                refine V_i2l X dX12_digest_210 (V.topl (fun w54 ew54 => ?_))
                                refine V_callV (rest := []) X E.room ml_X12_333 in_X12_add (ci := 16) rfl se_X12_add (R_recv hK (q := 0) (rlv (by omega)) rfl) (by omega) (by decide) (k_X12_add hK hIF52 (w54)) rfl rfl (Nat.le_of_ble_eq_true rfl) ⟨by omega, by omega⟩ dX12_digest_211 (fun _ _ h => False.elim h) (fun v211 σ' hp211 => ?_)
                                obtain ⟨hp211, rfl⟩ := hp211
                                cases (hp211 : _ = none)
                                show V g κ 3 (0 + 1 * i14 + 48 * i148) (0 + 4 * i14 + 240 * i148) (t53, rO g ad N (S192 * 31 + w54) F52 σ0) 214 [(1, .int (nI (i192))), (0, .ref (ad (0)))] []
                                refine V_iinc X (nI (i192 + 1)) [(1, .int (nI (i192 + 1))), (0, .ref (ad (0)))] dX12_digest_214 0 rfl (zinc _) (by decide) rfl ?_
                                refine V_goto (tgt := 192) X dX12_digest_217 (by decide) ?_
                                exact V.sub [0, 1] rfl (ih192 _ (by omega) (i192 + 1) F52 (t53) ((S192 * 31 + w54)) rfl (by omega) hKF52 hIF52 (⟨_, hv192_0, ⟨_, hvr51, by rw [ew54]⟩⟩))
                          exact L192 _ (0) G148 (t148) (S148) rfl (by omega) hJ148 hI148 (rfl)
                        · -- 156 false
                          refine V_iconst (v := nI 0) X dX12_digest_159 (by decide) ?_
                          refine V_istore_n X [(2, .int (nI (0))), (1, .int (nI (i148))), (0, .ref (ad (0)))] dX12_digest_160 (by decide) rfl ?_
                          have L161 : ∀ (n161 : Nat) (i161 : Nat) (G161 : Nat → Nat → Int32) (t161 : Nat × Nat) (S161 : Int64), n161 = 6 - i161 → i161 ≤ 6 → rM N F G161 → rI N G161 → (dN (fun w => dS (rSc N F i148 w)) i161 S148 S161) → V g κ 3 (0 + 1 * i14 + 48 * i148 + 8 * i161) (0 + 4 * i14 + 240 * i148 + 40 * i161) (t161, rO g ad N S161 G161 σ0) 161 [(2, .int (nI (i161))), (1, .int (nI (i148))), (0, .ref (ad (0)))] [] := by
                            intro n161
                            induction n161 using Nat.strongRecOn with
                            | ind n161 ih161 =>
                              intro i161 G161 t161 S161 hn161 hi161 hJ161 hI161 hv161_0
                              refine V_iload_n X dX12_digest_161 0 rfl ?_
                              refine V_bipush (v := nI 6) X dX12_digest_162 (by decide) ?_
                              refine V_icmpgeN X (by omega) (by omega) (tgt := 184) dX12_digest_164 (by decide) (fun h55 => ?_) (fun h55 => ?_)
                              · -- 164 true
                                have hin : dN (fun w => dS (rSc N F i148 w)) 6 S148 S161 := by have z := hv161_0; rw [show i161 = 6 by omega] at z; exact z
                                refine V_iinc X (nI (i148 + 1)) [(1, .int (nI (i148 + 1))), (2, .int (nI (i161))), (0, .ref (ad (0)))] dX12_digest_184 1 rfl (zinc _) (by decide) rfl ?_
                                refine V_goto (tgt := 148) X dX12_digest_187 (by decide) ?_
                                exact V.sub [0, 2] rfl (V.widen (by omega) (by omega) (ih148 _ (by omega) (i148 + 1) G161 (t161) (S161) rfl (by omega) hJ161 hI161 (⟨_, hv148_0, hin⟩)))
                              · -- 164 false
                                refine V_aload_n X dX12_digest_167 2 rfl ?_
                                refine V_aload_n X dX12_digest_168 2 rfl ?_
                                refine V_iload_n X dX12_digest_169 1 rfl ?_
                                refine V_iload_n X dX12_digest_170 0 rfl ?_
                                refine V_callV (rest := [.ref (ad (0))]) X E.room ml_X12_279 in_X12_ofSceneNow (ci := 16) rfl se_X12_ofSceneNow (R_recv hK (q := 0) (rlv (by omega)) rfl) (by omega) (by decide) (k_X12_ofSceneNow hK hI161 (i148) (i161) (by omega) (by omega) (hJ161.2 hKn) b h (rBs_M hJ161 hI hb) (hB.mv hJ161 hI)) rfl rfl (Nat.le_of_ble_eq_true rfl) ⟨by omega, by omega⟩ dX12_digest_171 (fun _ _ h => False.elim h) (fun v171 σ' hp171 => ?_)
                                obtain ⟨r56, rfl, fr56, t58, F57, rfl, hMF57, hIF57, hZF57⟩ := hp171
                                have hKF57 : rM N F F57 := (hJ161 : rM N F G161).trans hMF57
                                have hvr56 : rSc N F (i148) (i161) r56 := rSc_M hJ161 hI (by omega) fr56
                                show V g κ 3 (0 + 1 * i14 + 48 * i148 + 8 * i161 + 8) (0 + 4 * i14 + 240 * i148 + 40 * i161 + 40) (t58, rO g ad N S161 F57 σ0) 174 [(2, .int (nI (i161))), (1, .int (nI (i148))), (0, .ref (ad (0)))] [.int (r56), .ref (ad (0))]
                                refine V_i2l X dX12_digest_174 (V.topl (fun w59 ew59 => ?_))
                                refine V_callV (rest := []) X E.room ml_X12_333 in_X12_add (ci := 16) rfl se_X12_add (R_recv hK (q := 0) (rlv (by omega)) rfl) (by omega) (by decide) (k_X12_add hK hIF57 (w59)) rfl rfl (Nat.le_of_ble_eq_true rfl) ⟨by omega, by omega⟩ dX12_digest_175 (fun _ _ h => False.elim h) (fun v175 σ' hp175 => ?_)
                                obtain ⟨hp175, rfl⟩ := hp175
                                cases (hp175 : _ = none)
                                show V g κ 3 (0 + 1 * i14 + 48 * i148 + 8 * i161 + 8) (0 + 4 * i14 + 240 * i148 + 40 * i161 + 40) (t58, rO g ad N (S161 * 31 + w59) F57 σ0) 178 [(2, .int (nI (i161))), (1, .int (nI (i148))), (0, .ref (ad (0)))] []
                                refine V_iinc X (nI (i161 + 1)) [(2, .int (nI (i161 + 1))), (1, .int (nI (i148))), (0, .ref (ad (0)))] dX12_digest_178 0 rfl (zinc _) (by decide) rfl ?_
                                refine V_goto (tgt := 161) X dX12_digest_181 (by decide) ?_
                                exact V.sub [0, 1, 2] rfl (V.widen (by omega) (by omega) (ih161 _ (by omega) (i161 + 1) F57 (t58) ((S161 * 31 + w59)) rfl (by omega) hKF57 hIF57 (⟨_, hv161_0, ⟨_, hvr56, by rw [ew59]⟩⟩)))
                          exact L161 _ (0) G148 (t148) (S148) rfl (by omega) hJ148 hI148 (rfl)
                    exact L148 _ (0) G82 (t82) (S82) rfl (by omega) hJ82 hI82 (rfl)
                  · -- 90 false
                    refine V_iconst (v := nI 0) X dX12_digest_93 (by decide) ?_
                    refine V_istore_n X [(2, .int (nI (0))), (1, .int (nI (i82))), (0, .ref (ad (0)))] dX12_digest_94 (by decide) rfl ?_
                    have L95 : ∀ (n95 : Nat) (i95 : Nat) (G95 : Nat → Nat → Int32) (t95 : Nat × Nat) (S95 : Int64), n95 = 6 - i95 → i95 ≤ 6 → rM N F G95 → rI N G95 → (dN (fun w => dS (rPl N F i82 w)) i95 S82 S95) → V g κ 3 (0 + 1 * i14) (0 + 4 * i14) (t95, rO g ad N S95 G95 σ0) 95 [(2, .int (nI (i95))), (1, .int (nI (i82))), (0, .ref (ad (0)))] [] := by
                      intro n95
                      induction n95 using Nat.strongRecOn with
                      | ind n95 ih95 =>
                        intro i95 G95 t95 S95 hn95 hi95 hJ95 hI95 hv95_0
                        refine V_iload_n X dX12_digest_95 0 rfl ?_
                        refine V_bipush (v := nI 6) X dX12_digest_96 (by decide) ?_
                        refine V_icmpgeN X (by omega) (by omega) (tgt := 118) dX12_digest_98 (by decide) (fun h60 => ?_) (fun h60 => ?_)
                        · -- 98 true
                          have hin : dN (fun w => dS (rPl N F i82 w)) 6 S82 S95 := by have z := hv95_0; rw [show i95 = 6 by omega] at z; exact z
                          refine V_aload_n X dX12_digest_118 2 rfl ?_
                          refine V_aload_n X dX12_digest_119 2 rfl ?_
                          refine V_iload_n X dX12_digest_120 1 rfl ?_
                          refine V_callV (rest := [.ref (ad (0))]) X E.room ml_X12_319 in_X12_withoutNow (ci := 16) rfl se_X12_withoutNow (R_recv hK (q := 0) (rlv (by omega)) rfl) (by omega) (by decide) (k_X12_withoutNow hK hI95 (i82) (by omega)) rfl rfl (Nat.le_of_ble_eq_true rfl) ⟨by omega, by omega⟩ dX12_digest_121 (fun _ _ h => False.elim h) (fun v121 σ' hp121 => ?_)
                          obtain ⟨r61, rfl, fr61, t63, F62, rfl, hMF62, hIF62, hZF62⟩ := hp121
                          have hKF62 : rM N F F62 := (hJ95 : rM N F G95).trans hMF62
                          have hvr61 : rWo N F (i82) r61 := rWo_M hJ95 hI fr61
                          show V g κ 3 (0 + 1 * i14) (0 + 4 * i14) (t63, rO g ad N S95 F62 σ0) 124 [(2, .int (nI (i95))), (1, .int (nI (i82))), (0, .ref (ad (0)))] [.int (r61), .ref (ad (0))]
                          refine V_i2l X dX12_digest_124 (V.topl (fun w64 ew64 => ?_))
                          refine V_callV (rest := []) X E.room ml_X12_333 in_X12_add (ci := 16) rfl se_X12_add (R_recv hK (q := 0) (rlv (by omega)) rfl) (by omega) (by decide) (k_X12_add hK hIF62 (w64)) rfl rfl (Nat.le_of_ble_eq_true rfl) ⟨by omega, by omega⟩ dX12_digest_125 (fun _ _ h => False.elim h) (fun v125 σ' hp125 => ?_)
                          obtain ⟨hp125, rfl⟩ := hp125
                          cases (hp125 : _ = none)
                          show V g κ 3 (0 + 1 * i14) (0 + 4 * i14) (t63, rO g ad N (S95 * 31 + w64) F62 σ0) 128 [(2, .int (nI (i95))), (1, .int (nI (i82))), (0, .ref (ad (0)))] []
                          have hwo : dS (rWo N F i82) S95 (S95 * 31 + w64) := ⟨_, hvr61, by rw [ew64]⟩
                          refine V_aload_n X dX12_digest_128 2 rfl ?_
                          refine V_aload_n X dX12_digest_129 2 rfl ?_
                          refine V_bipush (v := nI 100) X dX12_digest_130 (by decide) ?_
                          refine V_iload_n X dX12_digest_132 1 rfl ?_
                          refine V_callV (rest := [.ref (ad (0))]) X E.room ml_X12_231 in_X12_shareNow (ci := 16) rfl se_X12_shareNow (R_recv hK (q := 0) (rlv (by omega)) rfl) (by omega) (by decide) (k_X12_shareNow hK hIF62 (nI (100)) (i82) (by omega) (hKF62.2 hKn) b h (rBs_M hKF62 hI hb)) rfl rfl (Nat.le_of_ble_eq_true rfl) ⟨by omega, by omega⟩ dX12_digest_133 (fun _ _ h => False.elim h) (fun v133 σ' hp133 => ?_)
                          obtain ⟨r65, rfl, fr65, t67, F66, rfl, hMF66, hIF66, hZF66⟩ := hp133
                          have hKF66 : rM N F F66 := (hKF62 : rM N F F62).trans hMF66
                          have hvr65 : rSh N F (nI (100)) (i82) r65 := rSh_M hKF62 hI (by omega) ⟨b, h, rBs_M hKF62 hI hb, fr65⟩
                          show V g κ 3 (0 + 1 * i14) (0 + 4 * i14) (t67, rO g ad N (S95 * 31 + w64) F66 σ0) 136 [(2, .int (nI (i95))), (1, .int (nI (i82))), (0, .ref (ad (0)))] [.int (r65), .ref (ad (0))]
                          refine V_i2l X dX12_digest_136 (V.topl (fun w68 ew68 => ?_))
                          refine V_callV (rest := []) X E.room ml_X12_333 in_X12_add (ci := 16) rfl se_X12_add (R_recv hK (q := 0) (rlv (by omega)) rfl) (by omega) (by decide) (k_X12_add hK hIF66 (w68)) rfl rfl (Nat.le_of_ble_eq_true rfl) ⟨by omega, by omega⟩ dX12_digest_137 (fun _ _ h => False.elim h) (fun v137 σ' hp137 => ?_)
                          obtain ⟨hp137, rfl⟩ := hp137
                          cases (hp137 : _ = none)
                          show V g κ 3 (0 + 1 * i14) (0 + 4 * i14) (t67, rO g ad N ((S95 * 31 + w64) * 31 + w68) F66 σ0) 140 [(2, .int (nI (i95))), (1, .int (nI (i82))), (0, .ref (ad (0)))] []
                          refine V_iinc X (nI (i82 + 1)) [(1, .int (nI (i82 + 1))), (2, .int (nI (i95))), (0, .ref (ad (0)))] dX12_digest_140 1 rfl (zinc _) (by decide) rfl ?_
                          refine V_goto (tgt := 82) X dX12_digest_143 (by decide) ?_
                          exact V.sub [0, 2] rfl (ih82 _ (by omega) (i82 + 1) F66 (t67) (((S95 * 31 + w64) * 31 + w68)) rfl (by omega) hKF66 hIF66 (⟨_, hv82_0, ⟨_, _, hin, hwo, ⟨_, hvr65, by rw [ew68]⟩⟩⟩))
                        · -- 98 false
                          refine V_aload_n X dX12_digest_101 2 rfl ?_
                          refine V_aload_n X dX12_digest_102 2 rfl ?_
                          refine V_iload_n X dX12_digest_103 1 rfl ?_
                          refine V_iload_n X dX12_digest_104 0 rfl ?_
                          refine V_callV (rest := [.ref (ad (0))]) X E.room ml_X12_267 in_X12_ofPlayerNow (ci := 16) rfl se_X12_ofPlayerNow (R_recv hK (q := 0) (rlv (by omega)) rfl) (by omega) (by decide) (k_X12_ofPlayerNow hK hI95 (i82) (i95) (by omega) (by omega) (hJ95.2 hKn) b h (rBs_M hJ95 hI hb)) rfl rfl (Nat.le_of_ble_eq_true rfl) ⟨by omega, by omega⟩ dX12_digest_105 (fun _ _ h => False.elim h) (fun v105 σ' hp105 => ?_)
                          obtain ⟨r69, rfl, fr69, t71, F70, rfl, hMF70, hIF70, hZF70⟩ := hp105
                          have hKF70 : rM N F F70 := (hJ95 : rM N F G95).trans hMF70
                          have hvr69 : rPl N F (i82) (i95) r69 := rPl_M hJ95 hI (by omega) fr69
                          show V g κ 3 (0 + 1 * i14) (0 + 4 * i14) (t71, rO g ad N S95 F70 σ0) 108 [(2, .int (nI (i95))), (1, .int (nI (i82))), (0, .ref (ad (0)))] [.int (r69), .ref (ad (0))]
                          refine V_i2l X dX12_digest_108 (V.topl (fun w72 ew72 => ?_))
                          refine V_callV (rest := []) X E.room ml_X12_333 in_X12_add (ci := 16) rfl se_X12_add (R_recv hK (q := 0) (rlv (by omega)) rfl) (by omega) (by decide) (k_X12_add hK hIF70 (w72)) rfl rfl (Nat.le_of_ble_eq_true rfl) ⟨by omega, by omega⟩ dX12_digest_109 (fun _ _ h => False.elim h) (fun v109 σ' hp109 => ?_)
                          obtain ⟨hp109, rfl⟩ := hp109
                          cases (hp109 : _ = none)
                          show V g κ 3 (0 + 1 * i14) (0 + 4 * i14) (t71, rO g ad N (S95 * 31 + w72) F70 σ0) 112 [(2, .int (nI (i95))), (1, .int (nI (i82))), (0, .ref (ad (0)))] []
                          refine V_iinc X (nI (i95 + 1)) [(2, .int (nI (i95 + 1))), (1, .int (nI (i82))), (0, .ref (ad (0)))] dX12_digest_112 0 rfl (zinc _) (by decide) rfl ?_
                          refine V_goto (tgt := 95) X dX12_digest_115 (by decide) ?_
                          exact V.sub [0, 1, 2] rfl (ih95 _ (by omega) (i95 + 1) F70 (t71) ((S95 * 31 + w72)) rfl (by omega) hKF70 hIF70 (⟨_, hv95_0, ⟨_, hvr69, by rw [ew72]⟩⟩))
                    exact L95 _ (0) G82 (t82) (S82) rfl (by omega) hJ82 hI82 (rfl)
              exact L82 _ (0) G38 (t38) (S38) rfl (by omega) hJ38 hI38 (rfl)
            · -- 46 false
              refine V_iconst (v := nI 0) X dX12_digest_49 (by decide) ?_
              refine V_istore_n X [(2, .int (nI (0))), (1, .int (nI (i38))), (0, .ref (ad (0)))] dX12_digest_50 (by decide) rfl ?_
              have L51 : ∀ (n51 : Nat) (i51 : Nat) (G51 : Nat → Nat → Int32) (t51 : Nat × Nat) (S51 : Int64), n51 = 7 - i51 → i51 ≤ 7 → rM N F G51 → rI N G51 → (dN (fun w => dS (rPt N F i38 w)) i51 S38 S51) → V g κ 3 (0 + 1 * i14) (0 + 4 * i14) (t51, rO g ad N S51 G51 σ0) 51 [(2, .int (nI (i51))), (1, .int (nI (i38))), (0, .ref (ad (0)))] [] := by
                intro n51
                induction n51 using Nat.strongRecOn with
                | ind n51 ih51 =>
                  intro i51 G51 t51 S51 hn51 hi51 hJ51 hI51 hv51_0
                  refine V_iload_n X dX12_digest_51 0 rfl ?_
                  refine V_bipush (v := nI 7) X dX12_digest_52 (by decide) ?_
                  refine V_icmpgeN X (by omega) (by omega) (tgt := 74) dX12_digest_54 (by decide) (fun h73 => ?_) (fun h73 => ?_)
                  · -- 54 true
                    have hin : dN (fun w => dS (rPt N F i38 w)) 7 S38 S51 := by have z := hv51_0; rw [show i51 = 7 by omega] at z; exact z
                    refine V_iinc X (nI (i38 + 1)) [(1, .int (nI (i38 + 1))), (2, .int (nI (i51))), (0, .ref (ad (0)))] dX12_digest_74 1 rfl (zinc _) (by decide) rfl ?_
                    refine V_goto (tgt := 38) X dX12_digest_77 (by decide) ?_
                    exact V.sub [0, 2] rfl (ih38 _ (by omega) (i38 + 1) G51 (t51) (S51) rfl (by omega) hJ51 hI51 (⟨_, hv38_0, hin⟩))
                  · -- 54 false
                    refine V_aload_n X dX12_digest_57 2 rfl ?_
                    refine V_aload_n X dX12_digest_58 2 rfl ?_
                    refine V_iload_n X dX12_digest_59 1 rfl ?_
                    refine V_iload_n X dX12_digest_60 0 rfl ?_
                    refine V_callV (rest := [.ref (ad (0))]) X E.room ml_X12_264 in_X12_ofPartNow (ci := 16) rfl se_X12_ofPartNow (R_recv hK (q := 0) (rlv (by omega)) rfl) (by omega) (by decide) (k_X12_ofPartNow hK hI51 (i38) (i51) (by omega) (by omega) (hJ51.2 hKn) b h (rBs_M hJ51 hI hb)) rfl rfl (Nat.le_of_ble_eq_true rfl) ⟨by omega, by omega⟩ dX12_digest_61 (fun _ _ h => False.elim h) (fun v61 σ' hp61 => ?_)
                    obtain ⟨r74, rfl, fr74, t76, F75, rfl, hMF75, hIF75, hZF75⟩ := hp61
                    have hKF75 : rM N F F75 := (hJ51 : rM N F G51).trans hMF75
                    have hvr74 : rPt N F (i38) (i51) r74 := rPt_M hJ51 hI (by omega) fr74
                    show V g κ 3 (0 + 1 * i14) (0 + 4 * i14) (t76, rO g ad N S51 F75 σ0) 64 [(2, .int (nI (i51))), (1, .int (nI (i38))), (0, .ref (ad (0)))] [.int (r74), .ref (ad (0))]
                    refine V_i2l X dX12_digest_64 (V.topl (fun w77 ew77 => ?_))
                    refine V_callV (rest := []) X E.room ml_X12_333 in_X12_add (ci := 16) rfl se_X12_add (R_recv hK (q := 0) (rlv (by omega)) rfl) (by omega) (by decide) (k_X12_add hK hIF75 (w77)) rfl rfl (Nat.le_of_ble_eq_true rfl) ⟨by omega, by omega⟩ dX12_digest_65 (fun _ _ h => False.elim h) (fun v65 σ' hp65 => ?_)
                    obtain ⟨hp65, rfl⟩ := hp65
                    cases (hp65 : _ = none)
                    show V g κ 3 (0 + 1 * i14) (0 + 4 * i14) (t76, rO g ad N (S51 * 31 + w77) F75 σ0) 68 [(2, .int (nI (i51))), (1, .int (nI (i38))), (0, .ref (ad (0)))] []
                    refine V_iinc X (nI (i51 + 1)) [(2, .int (nI (i51 + 1))), (1, .int (nI (i38))), (0, .ref (ad (0)))] dX12_digest_68 0 rfl (zinc _) (by decide) rfl ?_
                    refine V_goto (tgt := 51) X dX12_digest_71 (by decide) ?_
                    exact V.sub [0, 1, 2] rfl (ih51 _ (by omega) (i51 + 1) F75 (t76) ((S51 * 31 + w77)) rfl (by omega) hKF75 hIF75 (⟨_, hv51_0, ⟨_, hvr74, by rw [ew77]⟩⟩))
              exact L51 _ (0) G38 (t38) (S38) rfl (by omega) hJ38 hI38 (rfl)
        exact L38 _ (0) G14 (t14) (S14) rfl (by omega) hJ14 hI14 (rfl)
      · -- 17 false
        refine V_aload_n X dX12_digest_20 1 rfl ?_
        refine V_aload_n X dX12_digest_21 1 rfl ?_
        refine V_iload_n X dX12_digest_22 0 rfl ?_
        refine V_callV (rest := [.ref (ad (0))]) X E.room ml_X12_297 in_X12_houseNow (ci := 16) rfl se_X12_houseNow (R_recv hK (q := 0) (rlv (by omega)) rfl) (by omega) (by decide) (k_X12_houseNow hK hI14 (i14) (by omega) (hJ14.2 hKn) b h (rBs_M hJ14 hI hb)) rfl rfl (Nat.le_of_ble_eq_true rfl) ⟨by omega, by omega⟩ dX12_digest_23 (fun _ _ h => False.elim h) (fun v23 σ' hp23 => ?_)
        obtain ⟨r78, rfl, fr78, t80, F79, rfl, hMF79, hIF79, hZF79⟩ := hp23
        have hKF79 : rM N F F79 := (hJ14 : rM N F G14).trans hMF79
        have hvr78 : rHo N F (i14) r78 := rHo_M hJ14 hI fr78
        show V g κ 3 (0 + 1 * i14 + 1) (0 + 4 * i14 + 4) (t80, rO g ad N S14 F79 σ0) 26 [(1, .int (nI (i14))), (0, .ref (ad (0)))] [.int (r78), .ref (ad (0))]
        refine V_i2l X dX12_digest_26 (V.topl (fun w81 ew81 => ?_))
        refine V_callV (rest := []) X E.room ml_X12_333 in_X12_add (ci := 16) rfl se_X12_add (R_recv hK (q := 0) (rlv (by omega)) rfl) (by omega) (by decide) (k_X12_add hK hIF79 (w81)) rfl rfl (Nat.le_of_ble_eq_true rfl) ⟨by omega, by omega⟩ dX12_digest_27 (fun _ _ h => False.elim h) (fun v27 σ' hp27 => ?_)
        obtain ⟨hp27, rfl⟩ := hp27
        cases (hp27 : _ = none)
        show V g κ 3 (0 + 1 * i14 + 1) (0 + 4 * i14 + 4) (t80, rO g ad N (S14 * 31 + w81) F79 σ0) 30 [(1, .int (nI (i14))), (0, .ref (ad (0)))] []
        refine V_iinc X (nI (i14 + 1)) [(1, .int (nI (i14 + 1))), (0, .ref (ad (0)))] dX12_digest_30 0 rfl (zinc _) (by decide) rfl ?_
        refine V_goto (tgt := 14) X dX12_digest_33 (by decide) ?_
        exact V.sub [0, 1] rfl (V.widen (by omega) (by omega) (ih14 _ (by omega) (i14 + 1) F79 (t80) ((S14 * 31 + w81)) rfl (by omega) hKF79 hIF79 (⟨_, hv14_0, ⟨_, hvr78, by rw [ew81]⟩⟩)))
  exact L14 _ (0) F1 (t) (w2) rfl (by omega) hJF1 hIF1 (ew2)
