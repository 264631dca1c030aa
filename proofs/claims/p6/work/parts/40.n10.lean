/-! ===== add, digest of the reference ===== -/
set_option maxRecDepth 100000 in
set_option maxHeartbeats 4000000 in
theorem k_X12_add {g : zG} {t : Nat × Nat} {ad N : Nat → Nat} {S : Int64} {σ0 : Nat → Option va_E} {F : Nat → Nat → Int32} (hK : rK g ad N) (hI : rI N F)  (a1 : Int64) : Ct g 10 yX12_add cX12_add 3 none 0 0 [.ref (ad (0)), .long (a1)] (t, rO g ad N S F σ0) (qSum g t ad N F σ0) zNo := by
  refine Ct.of (lv := [(0, .ref (ad (0))), (1, .long (a1))]) (by decide) (Nat.le_of_ble_eq_true rfl) rfl ?_
  intro κ X E B _
  have X : zX g κ RX12 cX12_add 3 := X
  obtain ⟨b0, b1, b2, b3, b4⟩ := hI.bnd
  refine V_aload_n X dX12_add_0 0 rfl ?_
  refine V_aload_n X dX12_add_1 0 rfl ?_
  refine R_getf X fl_X12_325 hK (0) (rlv (by omega)) rfl rfl dX12_add_2 (V.topl (fun w1 _ => ?_))
  refine V_ldc2 X cn_X12_329 dX12_add_5 (V.topl (fun w2 _ => ?_))
  refine V_lmul X dX12_add_8 (V.topl (fun w3 _ => ?_))
  refine V_lload_n X dX12_add_9 1 rfl ?_
  refine V_ladd X dX12_add_10 (V.topl (fun w4 _ => ?_))
  refine R_putJ X fl_X12_325 hK dX12_add_11 ?_
  show V g κ 3 (0) (0) (t, rO g ad N w4 F σ0) 14 [(0, .ref (ad (0))), (1, .long (a1))] []
  exact V_vret X E (by omega) (by omega) ⟨rfl, _, rfl⟩ dX12_add_14
set_option maxRecDepth 100000 in
set_option maxHeartbeats 4000000 in
theorem k_X12_digest {g : zG} {t : Nat × Nat} {ad N : Nat → Nat} {S : Int64} {σ0 : Nat → Option va_E} {F : Nat → Nat → Int32} (hK : rK g ad N) (hI : rI N F)  (hKn : rKn N F) (b : Int32) (h : Nat → Nat) (hb : rBs N F b h) : Ct g 29 yX12_digest cX12_digest 3 (some FieldType.long) 400 2000 [.ref (ad (0))] (t, rO g ad N S F σ0) (qDig g ad N F σ0) zNo := by
  refine Ct.of (lv := [(0, .ref (ad (0)))]) (by decide) (Nat.le_of_ble_eq_true rfl) rfl ?_
  intro κ X E B _
  have X : zX g κ RX12 cX12_digest 3 := X
  obtain ⟨b0, b1, b2, b3, b4⟩ := hI.bnd
  refine V_aload_n X dX12_digest_0 0 rfl ?_
  refine V_iconst (v := nI 0) X dX12_digest_1 (by decide) ?_
  refine R_putf X fl_X12_38 zt_X12 hK (0) (rlv (by omega)) (by omega) rfl (Nat.le_of_ble_eq_true rfl) rfl rfl rfl rfl rfl dX12_digest_2 (fun F1 hF1 => ?_)
  have hJF1 := (rM.rfl' : rM N F F).set hF1 (by omega)
  have hIF1 := hI.st hF1 (by omega)
  refine V_aload_n X dX12_digest_5 0 rfl ?_
  refine V_ldc2 X cn_X12_331 dX12_digest_6 (V.topl (fun w2 _ => ?_))
  refine R_putJ X fl_X12_325 hK dX12_digest_9 ?_
  show V g κ 3 (0) (0) (t, rO g ad N w2 F1 σ0) 12 [(0, .ref (ad (0)))] []
  refine V_iconst (v := nI 0) X dX12_digest_12 (by decide) ?_
  refine V_istore_n X [(1, .int (nI (0))), (0, .ref (ad (0)))] dX12_digest_13 (by decide) rfl ?_
  have L14 : ∀ (n14 : Nat) (i14 : Nat) (G14 : Nat → Nat → Int32) (t14 : Nat × Nat) (S14 : Int64), n14 = 14 - i14 → i14 ≤ 14 → rM N F G14 → rI N G14 → V g κ 3 (0 + 1 * i14) (0 + 4 * i14) (t14, rO g ad N S14 G14 σ0) 14 [(1, .int (nI (i14))), (0, .ref (ad (0)))] [] := by
    intro n14
    induction n14 using Nat.strongRecOn with
    | ind n14 ih14 =>
      intro i14 G14 t14 S14 hn14 hi14 hJ14 hI14
      refine V_iload_n X dX12_digest_14 0 rfl ?_
      refine V_bipush (v := nI 14) X dX12_digest_15 (by decide) ?_
      refine V_icmpgeN X (by omega) (by omega) (tgt := 36) dX12_digest_17 (by decide) (fun h3 => ?_) (fun h3 => ?_)
      · -- 17 true
        refine V_iconst (v := nI 0) X dX12_digest_36 (by decide) ?_
        refine V_istore_n X [(1, .int (nI (0))), (0, .ref (ad (0)))] dX12_digest_37 (by decide) rfl ?_
        have L38 : ∀ (n38 : Nat) (i38 : Nat) (G38 : Nat → Nat → Int32) (t38 : Nat × Nat) (S38 : Int64), n38 = N 0 - i38 → i38 ≤ N 0 → rM N F G38 → rI N G38 → V g κ 3 (0 + 1 * i14) (0 + 4 * i14) (t38, rO g ad N S38 G38 σ0) 38 [(1, .int (nI (i38))), (0, .ref (ad (0)))] [] := by
          intro n38
          induction n38 using Nat.strongRecOn with
          | ind n38 ih38 =>
            intro i38 G38 t38 S38 hn38 hi38 hJ38 hI38
            refine V_iload_n X dX12_digest_38 0 rfl ?_
            refine V_aload_n X dX12_digest_39 1 rfl ?_
            refine R_getf X fl_X12_10 hK (0) (rlv (by omega)) rfl rfl dX12_digest_40 ?_
            refine V_callV (rest := [.int (nI (i38))]) X E.room ml_X12_42 in_Jx4a65c_size_8abf5 (ci := 3) rfl se_Jx4a65c_size_8abf5 (rO_list hK (i := 0) (by decide)) (by omega) (by decide) (r_size hK 0 (by decide)) rfl rfl (Nat.le_of_ble_eq_true rfl) ⟨by omega, by omega⟩ dX12_digest_43 (fun _ _ h => False.elim h) (fun v4 σ' hp5 => ?_)
            obtain ⟨hp5, rfl⟩ := hp5
            cases (hp5 : _ = some (Value.int (nI (N 0))))
            show V g κ 3 (0 + 1 * i14) (0 + 4 * i14) (t38, rO g ad N S38 G38 σ0) 46 [(1, .int (nI (i38))), (0, .ref (ad (0)))] [.int (nI (N 0)), .int (nI (i38))]
            refine V_icmpgeN X (by omega) (by omega) (tgt := 80) dX12_digest_46 (by decide) (fun h6 => ?_) (fun h6 => ?_)
            · -- 46 true
              refine V_iconst (v := nI 0) X dX12_digest_80 (by decide) ?_
              refine V_istore_n X [(1, .int (nI (0))), (0, .ref (ad (0)))] dX12_digest_81 (by decide) rfl ?_
              have L82 : ∀ (n82 : Nat) (i82 : Nat) (G82 : Nat → Nat → Int32) (t82 : Nat × Nat) (S82 : Int64), n82 = N 1 - i82 → i82 ≤ N 1 → rM N F G82 → rI N G82 → V g κ 3 (0 + 1 * i14) (0 + 4 * i14) (t82, rO g ad N S82 G82 σ0) 82 [(1, .int (nI (i82))), (0, .ref (ad (0)))] [] := by
                intro n82
                induction n82 using Nat.strongRecOn with
                | ind n82 ih82 =>
                  intro i82 G82 t82 S82 hn82 hi82 hJ82 hI82
                  refine V_iload_n X dX12_digest_82 0 rfl ?_
                  refine V_aload_n X dX12_digest_83 1 rfl ?_
                  refine R_getf X fl_X12_16 hK (0) (rlv (by omega)) rfl rfl dX12_digest_84 ?_
                  refine V_callV (rest := [.int (nI (i82))]) X E.room ml_X12_42 in_Jx4a65c_size_8abf5 (ci := 3) rfl se_Jx4a65c_size_8abf5 (rO_list hK (i := 1) (by decide)) (by omega) (by decide) (r_size hK 1 (by decide)) rfl rfl (Nat.le_of_ble_eq_true rfl) ⟨by omega, by omega⟩ dX12_digest_87 (fun _ _ h => False.elim h) (fun v7 σ' hp8 => ?_)
                  obtain ⟨hp8, rfl⟩ := hp8
                  cases (hp8 : _ = some (Value.int (nI (N 1))))
                  show V g κ 3 (0 + 1 * i14) (0 + 4 * i14) (t82, rO g ad N S82 G82 σ0) 90 [(1, .int (nI (i82))), (0, .ref (ad (0)))] [.int (nI (N 1)), .int (nI (i82))]
                  refine V_icmpgeN X (by omega) (by omega) (tgt := 146) dX12_digest_90 (by decide) (fun h9 => ?_) (fun h9 => ?_)
                  · -- 90 true
                    refine V_iconst (v := nI 0) X dX12_digest_146 (by decide) ?_
                    refine V_istore_n X [(1, .int (nI (0))), (0, .ref (ad (0)))] dX12_digest_147 (by decide) rfl ?_
                    have L148 : ∀ (n148 : Nat) (i148 : Nat) (G148 : Nat → Nat → Int32) (t148 : Nat × Nat) (S148 : Int64), n148 = N 2 - i148 → i148 ≤ N 2 → rM N F G148 → rI N G148 → V g κ 3 (0 + 1 * i14 + 48 * i148) (0 + 4 * i14 + 240 * i148) (t148, rO g ad N S148 G148 σ0) 148 [(1, .int (nI (i148))), (0, .ref (ad (0)))] [] := by
                      intro n148
                      induction n148 using Nat.strongRecOn with
                      | ind n148 ih148 =>
                        intro i148 G148 t148 S148 hn148 hi148 hJ148 hI148
                        refine V_iload_n X dX12_digest_148 0 rfl ?_
                        refine V_aload_n X dX12_digest_149 1 rfl ?_
                        refine R_getf X fl_X12_19 hK (0) (rlv (by omega)) rfl rfl dX12_digest_150 ?_
                        refine V_callV (rest := [.int (nI (i148))]) X E.room ml_X12_42 in_Jx4a65c_size_8abf5 (ci := 3) rfl se_Jx4a65c_size_8abf5 (rO_list hK (i := 2) (by decide)) (by omega) (by decide) (r_size hK 2 (by decide)) rfl rfl (Nat.le_of_ble_eq_true rfl) ⟨by omega, by omega⟩ dX12_digest_153 (fun _ _ h => False.elim h) (fun v10 σ' hp11 => ?_)
                        obtain ⟨hp11, rfl⟩ := hp11
                        cases (hp11 : _ = some (Value.int (nI (N 2))))
                        show V g κ 3 (0 + 1 * i14 + 48 * i148) (0 + 4 * i14 + 240 * i148) (t148, rO g ad N S148 G148 σ0) 156 [(1, .int (nI (i148))), (0, .ref (ad (0)))] [.int (nI (N 2)), .int (nI (i148))]
                        refine V_icmpgeN X (by omega) (by omega) (tgt := 190) dX12_digest_156 (by decide) (fun h12 => ?_) (fun h12 => ?_)
                        · -- 156 true
                          refine V_iconst (v := nI 0) X dX12_digest_190 (by decide) ?_
                          refine V_istore_n X [(1, .int (nI (0))), (0, .ref (ad (0)))] dX12_digest_191 (by decide) rfl ?_
                          have L192 : ∀ (n192 : Nat) (i192 : Nat) (G192 : Nat → Nat → Int32) (t192 : Nat × Nat) (S192 : Int64), n192 = N 3 - i192 → i192 ≤ N 3 → rM N F G192 → rI N G192 → V g κ 3 (0 + 1 * i14 + 48 * i148) (0 + 4 * i14 + 240 * i148) (t192, rO g ad N S192 G192 σ0) 192 [(1, .int (nI (i192))), (0, .ref (ad (0)))] [] := by
                            intro n192
                            induction n192 using Nat.strongRecOn with
                            | ind n192 ih192 =>
                              intro i192 G192 t192 S192 hn192 hi192 hJ192 hI192
                              refine V_iload_n X dX12_digest_192 0 rfl ?_
                              refine V_aload_n X dX12_digest_193 1 rfl ?_
                              refine R_getf X fl_X12_22 hK (0) (rlv (by omega)) rfl rfl dX12_digest_194 ?_
                              refine V_callV (rest := [.int (nI (i192))]) X E.room ml_X12_42 in_Jx4a65c_size_8abf5 (ci := 3) rfl se_Jx4a65c_size_8abf5 (rO_list hK (i := 3) (by decide)) (by omega) (by decide) (r_size hK 3 (by decide)) rfl rfl (Nat.le_of_ble_eq_true rfl) ⟨by omega, by omega⟩ dX12_digest_197 (fun _ _ h => False.elim h) (fun v13 σ' hp14 => ?_)
                              obtain ⟨hp14, rfl⟩ := hp14
                              cases (hp14 : _ = some (Value.int (nI (N 3))))
                              show V g κ 3 (0 + 1 * i14 + 48 * i148) (0 + 4 * i14 + 240 * i148) (t192, rO g ad N S192 G192 σ0) 200 [(1, .int (nI (i192))), (0, .ref (ad (0)))] [.int (nI (N 3)), .int (nI (i192))]
                              refine V_icmpgeN X (by omega) (by omega) (tgt := 220) dX12_digest_200 (by decide) (fun h15 => ?_) (fun h15 => ?_)
                              · -- 200 true
                                refine V_iconst (v := nI 0) X dX12_digest_220 (by decide) ?_
                                refine V_istore_n X [(1, .int (nI (0))), (0, .ref (ad (0)))] dX12_digest_221 (by decide) rfl ?_
                                have L222 : ∀ (n222 : Nat) (i222 : Nat) (G222 : Nat → Nat → Int32) (t222 : Nat × Nat) (S222 : Int64), n222 = N 4 - i222 → i222 ≤ N 4 → rM N F G222 → rI N G222 → V g κ 3 (0 + 1 * i14 + 48 * i148) (0 + 4 * i14 + 240 * i148) (t222, rO g ad N S222 G222 σ0) 222 [(1, .int (nI (i222))), (0, .ref (ad (0)))] [] := by
                                  intro n222
                                  induction n222 using Nat.strongRecOn with
                                  | ind n222 ih222 =>
                                    intro i222 G222 t222 S222 hn222 hi222 hJ222 hI222
                                    refine V_iload_n X dX12_digest_222 0 rfl ?_
                                    refine V_aload_n X dX12_digest_223 1 rfl ?_
                                    refine R_getf X fl_X12_25 hK (0) (rlv (by omega)) rfl rfl dX12_digest_224 ?_
                                    refine V_callV (rest := [.int (nI (i222))]) X E.room ml_X12_42 in_Jx4a65c_size_8abf5 (ci := 3) rfl se_Jx4a65c_size_8abf5 (rO_list hK (i := 4) (by decide)) (by omega) (by decide) (r_size hK 4 (by decide)) rfl rfl (Nat.le_of_ble_eq_true rfl) ⟨by omega, by omega⟩ dX12_digest_227 (fun _ _ h => False.elim h) (fun v16 σ' hp17 => ?_)
                                    obtain ⟨hp17, rfl⟩ := hp17
                                    cases (hp17 : _ = some (Value.int (nI (N 4))))
                                    show V g κ 3 (0 + 1 * i14 + 48 * i148) (0 + 4 * i14 + 240 * i148) (t222, rO g ad N S222 G222 σ0) 230 [(1, .int (nI (i222))), (0, .ref (ad (0)))] [.int (nI (N 4)), .int (nI (i222))]
                                    refine V_icmpgeN X (by omega) (by omega) (tgt := 261) dX12_digest_230 (by decide) (fun h18 => ?_) (fun h18 => ?_)
                                    · -- 230 true
                                      refine V_iconst (v := nI 0) X dX12_digest_261 (by decide) ?_
                                      refine V_istore_n X [(1, .int (nI (0))), (0, .ref (ad (0)))] dX12_digest_262 (by decide) rfl ?_
                                      have L263 : ∀ (n263 : Nat) (i263 : Nat) (G263 : Nat → Nat → Int32) (S263 : Int64), n263 = 3 - i263 → i263 ≤ 3 → rM N F G263 → rI N G263 → V g κ 3 (0 + 1 * i14 + 48 * i148) (0 + 4 * i14 + 240 * i148) (t222, rO g ad N S263 G263 σ0) 263 [(1, .int (nI (i263))), (0, .ref (ad (0)))] [] := by
                                        intro n263
                                        induction n263 using Nat.strongRecOn with
                                        | ind n263 ih263 =>
                                          intro i263 G263 S263 hn263 hi263 hJ263 hI263
                                          refine V_iload_n X dX12_digest_263 0 rfl ?_
                                          refine V_iconst (v := nI 3) X dX12_digest_264 (by decide) ?_
                                          refine V_icmpgeN X (by omega) (by omega) (tgt := 287) dX12_digest_265 (by decide) (fun h19 => ?_) (fun h19 => ?_)
                                          · -- 265 true
                                            refine V_aload_n X dX12_digest_287 1 rfl ?_
                                            refine V_aload_n X dX12_digest_288 1 rfl ?_
                                            refine V_callV (rest := [.ref (ad (0))]) X E.room ml_X12_313 in_X12_castNow (ci := 16) rfl se_X12_castNow (R_recv hK (q := 0) (rlv (by omega)) rfl) (by omega) (by decide) (k_X12_castNow hK hI263) rfl rfl (Nat.le_of_ble_eq_true rfl) ⟨by omega, by omega⟩ dX12_digest_289 (fun _ _ h => False.elim h) (fun v289 σ' hp289 => ?_)
                                            obtain ⟨t21, F20, hJF20, hIF20, hp289⟩ := hp289
                                            have hKF20 : rM N F F20 := (hJ263 : rM N F G263).trans hJF20
                                            rcases hp289 with ⟨rfl, rfl⟩ | ⟨Sx, nx, fw, hnx, rfl, rfl, fS, fW⟩
                                            · -- none
                                              show V g κ 3 (0 + 1 * i14 + 48 * i148 + 4) (0 + 4 * i14 + 240 * i148 + 31) (t21, rO g ad N S263 F20 σ0) 292 [(1, .int (nI (i263))), (0, .ref (ad (0)))] [.ref (g.2.2.2 7), .ref (ad (0))]
                                              obtain ⟨k9, v9, hS9, e9⟩ := zLitF X (a := g.2.2.2 7) (Or.inr rfl)
                                              have hr9 := (hS9.1 0 (by decide)).1
                                              rw [e9] at hr9
                                              refine V_callVL (rest := [.ref (ad (0))]) X E.room ml_X12_336 in_J0_length_8abf5 (C := RJ0) se_J0_length_8abf5 hr9 (by omega) (by decide) (k_J0_length_lit (Or.inr rfl)) rfl rfl (Nat.le_of_ble_eq_true rfl) ⟨by omega, by omega⟩ dX12_digest_292 (fun _ _ h => False.elim h) (fun v8 σ' hp8 => ?_)
                                              obtain ⟨⟨r22, rfl⟩, rfl⟩ := hp8
                                              show V g κ 3 (0 + 1 * i14 + 48 * i148 + 4) (0 + 4 * i14 + 240 * i148 + 31) (t21, rO g ad N S263 F20 σ0) 295 [(1, .int (nI (i263))), (0, .ref (ad (0)))] [.int (r22), .ref (ad (0))]
                                              refine V_i2l X dX12_digest_295 (V.topl (fun w23 _ => ?_))
                                              refine V_callV (rest := []) X E.room ml_X12_333 in_X12_add (ci := 16) rfl se_X12_add (R_recv hK (q := 0) (rlv (by omega)) rfl) (by omega) (by decide) (k_X12_add hK hIF20 (w23)) rfl rfl (Nat.le_of_ble_eq_true rfl) ⟨by omega, by omega⟩ dX12_digest_296 (fun _ _ h => False.elim h) (fun v296 σ' hp296 => ?_)
                                              obtain ⟨hp296, S24, rfl⟩ := hp296
                                              cases (hp296 : _ = none)
                                              show V g κ 3 (0 + 1 * i14 + 48 * i148 + 4) (0 + 4 * i14 + 240 * i148 + 31) (t21, rO g ad N S24 F20 σ0) 299 [(1, .int (nI (i263))), (0, .ref (ad (0)))] []
                                              refine V_aload_n X dX12_digest_299 1 rfl ?_
                                              refine V_aload_n X dX12_digest_300 1 rfl ?_
                                              refine V_callV (rest := [.ref (ad (0))]) X E.room ml_X12_322 in_X12_isSoundNow (ci := 16) rfl se_X12_isSoundNow (R_recv hK (q := 0) (rlv (by omega)) rfl) (by omega) (by decide) (k_X12_isSoundNow hK hIF20) rfl rfl (Nat.le_of_ble_eq_true rfl) ⟨by omega, by omega⟩ dX12_digest_301 (fun _ _ h => False.elim h) (fun v301 σ' hp301 => ?_)
                                              obtain ⟨hp301, t26, F25, rfl, hJF25, hIF25⟩ := hp301
                                              have hKF25 : rM N F F25 := (hKF20 : rM N F F20).trans hJF25
                                              obtain ⟨r27, rfl, hr27⟩ := hp301
                                              show V g κ 3 (0 + 1 * i14 + 48 * i148 + 4 + 51) (0 + 4 * i14 + 240 * i148 + 31 + 252) (t26, rO g ad N S24 F25 σ0) 304 [(1, .int (nI (i263))), (0, .ref (ad (0)))] [.int (r27), .ref (ad (0))]
                                              refine V_ifeq X (tgt := 311) dX12_digest_304 (by decide) (fun h28 => ?_) (fun h28 => ?_)
                                              · -- 304 true
                                                refine V_lconst X dX12_digest_311 rfl (V.topl (fun w29 _ => ?_))
                                                refine V_callV (rest := []) X E.room ml_X12_333 in_X12_add (ci := 16) rfl se_X12_add (R_recv hK (q := 0) (rlv (by omega)) rfl) (by omega) (by decide) (k_X12_add hK hIF25 (w29)) rfl rfl (Nat.le_of_ble_eq_true rfl) ⟨by omega, by omega⟩ dX12_digest_312 (fun _ _ h => False.elim h) (fun v312 σ' hp312 => ?_)
                                                obtain ⟨hp312, S30, rfl⟩ := hp312
                                                cases (hp312 : _ = none)
                                                show V g κ 3 (0 + 1 * i14 + 48 * i148 + 4 + 51) (0 + 4 * i14 + 240 * i148 + 31 + 252) (t26, rO g ad N S30 F25 σ0) 315 [(1, .int (nI (i263))), (0, .ref (ad (0)))] []
                                                refine V_aload_n X dX12_digest_315 1 rfl ?_
                                                refine R_getf X fl_X12_325 hK (0) (rlv (by omega)) rfl rfl dX12_digest_316 (V.topl (fun w31 _ => ?_))
                                                exact V_lret X E (by omega) (by omega) ⟨⟨_, rfl⟩, _, _, _, rfl, hKF25, hIF25⟩ dX12_digest_319
                                              · -- 304 false
                                                refine V_lconst X dX12_digest_307 rfl (V.topl (fun w32 _ => ?_))
                                                refine V_goto (tgt := 312) X dX12_digest_308 (by decide) ?_
                                                refine V_callV (rest := []) X E.room ml_X12_333 in_X12_add (ci := 16) rfl se_X12_add (R_recv hK (q := 0) (rlv (by omega)) rfl) (by omega) (by decide) (k_X12_add hK hIF25 (w32)) rfl rfl (Nat.le_of_ble_eq_true rfl) ⟨by omega, by omega⟩ dX12_digest_312 (fun _ _ h => False.elim h) (fun v312 σ' hp312 => ?_)
                                                obtain ⟨hp312, S33, rfl⟩ := hp312
                                                cases (hp312 : _ = none)
                                                show V g κ 3 (0 + 1 * i14 + 48 * i148 + 4 + 51) (0 + 4 * i14 + 240 * i148 + 31 + 252) (t26, rO g ad N S33 F25 σ0) 315 [(1, .int (nI (i263))), (0, .ref (ad (0)))] []
                                                refine V_aload_n X dX12_digest_315 1 rfl ?_
                                                refine R_getf X fl_X12_325 hK (0) (rlv (by omega)) rfl rfl dX12_digest_316 (V.topl (fun w34 _ => ?_))
                                                exact V_lret X E (by omega) (by omega) ⟨⟨_, rfl⟩, _, _, _, rfl, hKF25, hIF25⟩ dX12_digest_319
                                            · -- a string
                                              show V g κ 3 (0 + 1 * i14 + 48 * i148 + 4) (0 + 4 * i14 + 240 * i148 + 31) (t21, rO g ad N S263 F20 (zSx g σ0 Sx nx fw)) 292 [(1, .int (nI (i263))), (0, .ref (ad (0)))] [.ref (Sx), .ref (ad (0))]
                                              refine V_callV (rest := [.ref (ad (0))]) X E.room ml_X12_336 in_J0_length_8abf5 (ci := 0) rfl se_J0_length_8abf5 ((rO_out fS.1).trans zSx_S) (by omega) (by decide) (k_J0_length_8abf5 ((rO_out fS.1).trans zSx_S) ((rO_out fW.1).trans zSx_W) (by omega)) rfl rfl (Nat.le_of_ble_eq_true rfl) ⟨by omega, by omega⟩ dX12_digest_292 (fun _ _ h => False.elim h) (fun v292 σ' hp292 => ?_)
                                              obtain ⟨⟨r35, rfl⟩, rfl⟩ := hp292
                                              refine V.weak (f' := rO g ad N S263 F20 σ0) (rO_sub (zSx_sub fS.2 fW.2)) ?_
                                              show V g κ 3 (0 + 1 * i14 + 48 * i148 + 4) (0 + 4 * i14 + 240 * i148 + 31) (t21, rO g ad N S263 F20 σ0) 295 [(1, .int (nI (i263))), (0, .ref (ad (0)))] [.int (r35), .ref (ad (0))]
                                              refine V_i2l X dX12_digest_295 (V.topl (fun w36 _ => ?_))
                                              refine V_callV (rest := []) X E.room ml_X12_333 in_X12_add (ci := 16) rfl se_X12_add (R_recv hK (q := 0) (rlv (by omega)) rfl) (by omega) (by decide) (k_X12_add hK hIF20 (w36)) rfl rfl (Nat.le_of_ble_eq_true rfl) ⟨by omega, by omega⟩ dX12_digest_296 (fun _ _ h => False.elim h) (fun v296 σ' hp296 => ?_)
                                              obtain ⟨hp296, S37, rfl⟩ := hp296
                                              cases (hp296 : _ = none)
                                              show V g κ 3 (0 + 1 * i14 + 48 * i148 + 4) (0 + 4 * i14 + 240 * i148 + 31) (t21, rO g ad N S37 F20 σ0) 299 [(1, .int (nI (i263))), (0, .ref (ad (0)))] []
                                              refine V_aload_n X dX12_digest_299 1 rfl ?_
                                              refine V_aload_n X dX12_digest_300 1 rfl ?_
                                              refine V_callV (rest := [.ref (ad (0))]) X E.room ml_X12_322 in_X12_isSoundNow (ci := 16) rfl se_X12_isSoundNow (R_recv hK (q := 0) (rlv (by omega)) rfl) (by omega) (by decide) (k_X12_isSoundNow hK hIF20) rfl rfl (Nat.le_of_ble_eq_true rfl) ⟨by omega, by omega⟩ dX12_digest_301 (fun _ _ h => False.elim h) (fun v301 σ' hp301 => ?_)
                                              obtain ⟨hp301, t39, F38, rfl, hJF38, hIF38⟩ := hp301
                                              have hKF38 : rM N F F38 := (hKF20 : rM N F F20).trans hJF38
                                              obtain ⟨r40, rfl, hr40⟩ := hp301
                                              show V g κ 3 (0 + 1 * i14 + 48 * i148 + 4 + 51) (0 + 4 * i14 + 240 * i148 + 31 + 252) (t39, rO g ad N S37 F38 σ0) 304 [(1, .int (nI (i263))), (0, .ref (ad (0)))] [.int (r40), .ref (ad (0))]
                                              refine V_ifeq X (tgt := 311) dX12_digest_304 (by decide) (fun h41 => ?_) (fun h41 => ?_)
                                              · -- 304 true
                                                refine V_lconst X dX12_digest_311 rfl (V.topl (fun w42 _ => ?_))
                                                refine V_callV (rest := []) X E.room ml_X12_333 in_X12_add (ci := 16) rfl se_X12_add (R_recv hK (q := 0) (rlv (by omega)) rfl) (by omega) (by decide) (k_X12_add hK hIF38 (w42)) rfl rfl (Nat.le_of_ble_eq_true rfl) ⟨by omega, by omega⟩ dX12_digest_312 (fun _ _ h => False.elim h) (fun v312 σ' hp312 => ?_)
                                                obtain ⟨hp312, S43, rfl⟩ := hp312
                                                cases (hp312 : _ = none)
                                                show V g κ 3 (0 + 1 * i14 + 48 * i148 + 4 + 51) (0 + 4 * i14 + 240 * i148 + 31 + 252) (t39, rO g ad N S43 F38 σ0) 315 [(1, .int (nI (i263))), (0, .ref (ad (0)))] []
                                                refine V_aload_n X dX12_digest_315 1 rfl ?_
                                                refine R_getf X fl_X12_325 hK (0) (rlv (by omega)) rfl rfl dX12_digest_316 (V.topl (fun w44 _ => ?_))
                                                exact V_lret X E (by omega) (by omega) ⟨⟨_, rfl⟩, _, _, _, rfl, hKF38, hIF38⟩ dX12_digest_319
                                              · -- 304 false
                                                refine V_lconst X dX12_digest_307 rfl (V.topl (fun w45 _ => ?_))
                                                refine V_goto (tgt := 312) X dX12_digest_308 (by decide) ?_
                                                refine V_callV (rest := []) X E.room ml_X12_333 in_X12_add (ci := 16) rfl se_X12_add (R_recv hK (q := 0) (rlv (by omega)) rfl) (by omega) (by decide) (k_X12_add hK hIF38 (w45)) rfl rfl (Nat.le_of_ble_eq_true rfl) ⟨by omega, by omega⟩ dX12_digest_312 (fun _ _ h => False.elim h) (fun v312 σ' hp312 => ?_)
                                                obtain ⟨hp312, S46, rfl⟩ := hp312
                                                cases (hp312 : _ = none)
                                                show V g κ 3 (0 + 1 * i14 + 48 * i148 + 4 + 51) (0 + 4 * i14 + 240 * i148 + 31 + 252) (t39, rO g ad N S46 F38 σ0) 315 [(1, .int (nI (i263))), (0, .ref (ad (0)))] []
                                                refine V_aload_n X dX12_digest_315 1 rfl ?_
                                                refine R_getf X fl_X12_325 hK (0) (rlv (by omega)) rfl rfl dX12_digest_316 (V.topl (fun w47 _ => ?_))
                                                exact V_lret X E (by omega) (by omega) ⟨⟨_, rfl⟩, _, _, _, rfl, hKF38, hIF38⟩ dX12_digest_319
                                          · -- 265 false
                                            refine V_aload_n X dX12_digest_268 1 rfl ?_
                                            refine V_aload_n X dX12_digest_269 1 rfl ?_
                                            refine V_sipush (v := nI 150) X dX12_digest_270 (by decide) ?_
                                            refine V_iload_n X dX12_digest_273 0 rfl ?_
                                            refine V_callV (rest := [.ref (ad (0))]) X E.room ml_X12_316 in_X12_tourNow (ci := 16) rfl se_X12_tourNow (R_recv hK (q := 0) (rlv (by omega)) rfl) (by omega) (by decide) (k_X12_tourNow hK hI263 (nI (150)) (nI (i263))) rfl rfl (Nat.le_of_ble_eq_true rfl) ⟨by omega, by omega⟩ dX12_digest_274 (fun _ _ h => False.elim h) (fun v274 σ' hp274 => ?_)
                                            obtain ⟨hp274, F48, rfl, hJF48⟩ := hp274
                                            have hIF48 := hI263.mv hJF48
                                            have hKF48 : rM N F F48 := (hJ263 : rM N F G263).trans hJF48.m
                                            obtain ⟨r49, rfl⟩ := hp274
                                            show V g κ 3 (0 + 1 * i14 + 48 * i148) (0 + 4 * i14 + 240 * i148) (t222, rO g ad N S263 F48 σ0) 277 [(1, .int (nI (i263))), (0, .ref (ad (0)))] [.int (r49), .ref (ad (0))]
                                            refine V_i2l X dX12_digest_277 (V.topl (fun w50 _ => ?_))
                                            refine V_callV (rest := []) X E.room ml_X12_333 in_X12_add (ci := 16) rfl se_X12_add (R_recv hK (q := 0) (rlv (by omega)) rfl) (by omega) (by decide) (k_X12_add hK hIF48 (w50)) rfl rfl (Nat.le_of_ble_eq_true rfl) ⟨by omega, by omega⟩ dX12_digest_278 (fun _ _ h => False.elim h) (fun v278 σ' hp278 => ?_)
                                            obtain ⟨hp278, S51, rfl⟩ := hp278
                                            cases (hp278 : _ = none)
                                            show V g κ 3 (0 + 1 * i14 + 48 * i148) (0 + 4 * i14 + 240 * i148) (t222, rO g ad N S51 F48 σ0) 281 [(1, .int (nI (i263))), (0, .ref (ad (0)))] []
                                            refine V_iinc X (nI (i263 + 1)) [(1, .int (nI (i263 + 1))), (0, .ref (ad (0)))] dX12_digest_281 0 rfl (zinc _) (by decide) rfl ?_
                                            refine V_goto (tgt := 263) X dX12_digest_284 (by decide) ?_
                                            exact V.sub [0, 1] rfl (ih263 _ (by omega) (i263 + 1) F48 (S51) rfl (by omega) hKF48 hIF48)
                                      exact L263 _ (0) G222 (S222) rfl (by omega) hJ222 hI222
                                    · -- 230 false
                                      refine V_aload_n X dX12_digest_233 1 rfl ?_
                                      refine V_aload_n X dX12_digest_234 1 rfl ?_
                                      refine V_iload_n X dX12_digest_235 0 rfl ?_
                                      refine V_iconst (v := nI 2) X dX12_digest_236 (by decide) ?_
                                      refine V_callV (rest := [.ref (ad (0))]) X E.room ml_X12_285 in_X12_ofTownNow (ci := 16) rfl se_X12_ofTownNow (R_recv hK (q := 0) (rlv (by omega)) rfl) (by omega) (by decide) (k_X12_ofTownNow hK hI222 (i222) (2) (by omega) (by omega) (hJ222.2 hKn) b h (rBs_M hJ222 hI hb)) rfl rfl (Nat.le_of_ble_eq_true rfl) ⟨by omega, by omega⟩ dX12_digest_237 (fun _ _ h => False.elim h) (fun v237 σ' hp237 => ?_)
                                      obtain ⟨r52, rfl, fr52, t54, F53, rfl, hMF53, hIF53, hZF53⟩ := hp237
                                      have hKF53 : rM N F F53 := (hJ222 : rM N F G222).trans hMF53
                                      show V g κ 3 (0 + 1 * i14 + 48 * i148) (0 + 4 * i14 + 240 * i148) (t54, rO g ad N S222 F53 σ0) 240 [(1, .int (nI (i222))), (0, .ref (ad (0)))] [.int (r52), .ref (ad (0))]
                                      refine V_i2l X dX12_digest_240 (V.topl (fun w55 _ => ?_))
                                      refine V_callV (rest := []) X E.room ml_X12_333 in_X12_add (ci := 16) rfl se_X12_add (R_recv hK (q := 0) (rlv (by omega)) rfl) (by omega) (by decide) (k_X12_add hK hIF53 (w55)) rfl rfl (Nat.le_of_ble_eq_true rfl) ⟨by omega, by omega⟩ dX12_digest_241 (fun _ _ h => False.elim h) (fun v241 σ' hp241 => ?_)
                                      obtain ⟨hp241, S56, rfl⟩ := hp241
                                      cases (hp241 : _ = none)
                                      show V g κ 3 (0 + 1 * i14 + 48 * i148) (0 + 4 * i14 + 240 * i148) (t54, rO g ad N S56 F53 σ0) 244 [(1, .int (nI (i222))), (0, .ref (ad (0)))] []
                                      refine V_aload_n X dX12_digest_244 1 rfl ?_
                                      refine V_aload_n X dX12_digest_245 1 rfl ?_
                                      refine V_iload_n X dX12_digest_246 0 rfl ?_
                                      refine V_iconst (v := nI 3) X dX12_digest_247 (by decide) ?_
                                      refine V_callV (rest := [.ref (ad (0))]) X E.room ml_X12_285 in_X12_ofTownNow (ci := 16) rfl se_X12_ofTownNow (R_recv hK (q := 0) (rlv (by omega)) rfl) (by omega) (by decide) (k_X12_ofTownNow hK hIF53 (i222) (3) (by omega) (by omega) (hKF53.2 hKn) b h (rBs_M hKF53 hI hb)) rfl rfl (Nat.le_of_ble_eq_true rfl) ⟨by omega, by omega⟩ dX12_digest_248 (fun _ _ h => False.elim h) (fun v248 σ' hp248 => ?_)
                                      obtain ⟨r57, rfl, fr57, t59, F58, rfl, hMF58, hIF58, hZF58⟩ := hp248
                                      have hKF58 : rM N F F58 := (hKF53 : rM N F F53).trans hMF58
                                      show V g κ 3 (0 + 1 * i14 + 48 * i148) (0 + 4 * i14 + 240 * i148) (t59, rO g ad N S56 F58 σ0) 251 [(1, .int (nI (i222))), (0, .ref (ad (0)))] [.int (r57), .ref (ad (0))]
                                      refine V_i2l X dX12_digest_251 (V.topl (fun w60 _ => ?_))
                                      refine V_callV (rest := []) X E.room ml_X12_333 in_X12_add (ci := 16) rfl se_X12_add (R_recv hK (q := 0) (rlv (by omega)) rfl) (by omega) (by decide) (k_X12_add hK hIF58 (w60)) rfl rfl (Nat.le_of_ble_eq_true rfl) ⟨by omega, by omega⟩ dX12_digest_252 (fun _ _ h => False.elim h) (fun v252 σ' hp252 => ?_)
                                      obtain ⟨hp252, S61, rfl⟩ := hp252
                                      cases (hp252 : _ = none)
                                      show V g κ 3 (0 + 1 * i14 + 48 * i148) (0 + 4 * i14 + 240 * i148) (t59, rO g ad N S61 F58 σ0) 255 [(1, .int (nI (i222))), (0, .ref (ad (0)))] []
                                      refine V_iinc X (nI (i222 + 1)) [(1, .int (nI (i222 + 1))), (0, .ref (ad (0)))] dX12_digest_255 0 rfl (zinc _) (by decide) rfl ?_
                                      refine V_goto (tgt := 222) X dX12_digest_258 (by decide) ?_
                                      exact V.sub [0, 1] rfl (ih222 _ (by omega) (i222 + 1) F58 (t59) (S61) rfl (by omega) hKF58 hIF58)
                                exact L222 _ (0) G192 (t192) (S192) rfl (by omega) hJ192 hI192
                              · -- 200 false
                                refine V_aload_n X dX12_digest_203 1 rfl ?_
                                refine V_aload_n X dX12_digest_204 1 rfl ?_
                                refine V_iload_n X dX12_digest_205 0 rfl ?_
                                refine V_iconst (v := nI 3) X dX12_digest_206 (by decide) ?_
                                refine V_callV (rest := [.ref (ad (0))]) X E.room ml_X12_282 in_X12_ofCoatNow (ci := 16) rfl se_X12_ofCoatNow (R_recv hK (q := 0) (rlv (by omega)) rfl) (by omega) (by decide) (k_X12_ofCoatNow hK hI192 (i192) (3) (by omega) (by omega) (hJ192.2 hKn) b h (rBs_M hJ192 hI hb)) rfl rfl (Nat.le_of_ble_eq_true rfl) ⟨by omega, by omega⟩ dX12_digest_207 (fun _ _ h => False.elim h) (fun v207 σ' hp207 => ?_)
                                obtain ⟨r62, rfl, fr62, t64, F63, rfl, hMF63, hIF63, hZF63⟩ := hp207
                                have hKF63 : rM N F F63 := (hJ192 : rM N F G192).trans hMF63
                                show V g κ 3 (0 + 1 * i14 + 48 * i148) (0 + 4 * i14 + 240 * i148) (t64, rO g ad N S192 F63 σ0) 210 [(1, .int (nI (i192))), (0, .ref (ad (0)))] [.int (r62), .ref (ad (0))]
                                refine V_i2l X dX12_digest_210 (V.topl (fun w65 _ => ?_))
                                refine V_callV (rest := []) X E.room ml_X12_333 in_X12_add (ci := 16) rfl se_X12_add (R_recv hK (q := 0) (rlv (by omega)) rfl) (by omega) (by decide) (k_X12_add hK hIF63 (w65)) rfl rfl (Nat.le_of_ble_eq_true rfl) ⟨by omega, by omega⟩ dX12_digest_211 (fun _ _ h => False.elim h) (fun v211 σ' hp211 => ?_)
                                obtain ⟨hp211, S66, rfl⟩ := hp211
                                cases (hp211 : _ = none)
                                show V g κ 3 (0 + 1 * i14 + 48 * i148) (0 + 4 * i14 + 240 * i148) (t64, rO g ad N S66 F63 σ0) 214 [(1, .int (nI (i192))), (0, .ref (ad (0)))] []
                                refine V_iinc X (nI (i192 + 1)) [(1, .int (nI (i192 + 1))), (0, .ref (ad (0)))] dX12_digest_214 0 rfl (zinc _) (by decide) rfl ?_
                                refine V_goto (tgt := 192) X dX12_digest_217 (by decide) ?_
                                exact V.sub [0, 1] rfl (ih192 _ (by omega) (i192 + 1) F63 (t64) (S66) rfl (by omega) hKF63 hIF63)
                          exact L192 _ (0) G148 (t148) (S148) rfl (by omega) hJ148 hI148
                        · -- 156 false
                          refine V_iconst (v := nI 0) X dX12_digest_159 (by decide) ?_
                          refine V_istore_n X [(2, .int (nI (0))), (1, .int (nI (i148))), (0, .ref (ad (0)))] dX12_digest_160 (by decide) rfl ?_
                          have L161 : ∀ (n161 : Nat) (i161 : Nat) (G161 : Nat → Nat → Int32) (t161 : Nat × Nat) (S161 : Int64), n161 = 6 - i161 → i161 ≤ 6 → rM N F G161 → rI N G161 → V g κ 3 (0 + 1 * i14 + 48 * i148 + 8 * i161) (0 + 4 * i14 + 240 * i148 + 40 * i161) (t161, rO g ad N S161 G161 σ0) 161 [(2, .int (nI (i161))), (1, .int (nI (i148))), (0, .ref (ad (0)))] [] := by
                            intro n161
                            induction n161 using Nat.strongRecOn with
                            | ind n161 ih161 =>
                              intro i161 G161 t161 S161 hn161 hi161 hJ161 hI161
                              refine V_iload_n X dX12_digest_161 0 rfl ?_
                              refine V_bipush (v := nI 6) X dX12_digest_162 (by decide) ?_
                              refine V_icmpgeN X (by omega) (by omega) (tgt := 184) dX12_digest_164 (by decide) (fun h67 => ?_) (fun h67 => ?_)
                              · -- 164 true
                                refine V_iinc X (nI (i148 + 1)) [(1, .int (nI (i148 + 1))), (2, .int (nI (i161))), (0, .ref (ad (0)))] dX12_digest_184 1 rfl (zinc _) (by decide) rfl ?_
                                refine V_goto (tgt := 148) X dX12_digest_187 (by decide) ?_
                                exact V.sub [0, 2] rfl (V.widen (by omega) (by omega) (ih148 _ (by omega) (i148 + 1) G161 (t161) (S161) rfl (by omega) hJ161 hI161))
                              · -- 164 false
                                refine V_aload_n X dX12_digest_167 2 rfl ?_
                                refine V_aload_n X dX12_digest_168 2 rfl ?_
                                refine V_iload_n X dX12_digest_169 1 rfl ?_
                                refine V_iload_n X dX12_digest_170 0 rfl ?_
                                refine V_callV (rest := [.ref (ad (0))]) X E.room ml_X12_279 in_X12_ofSceneNow (ci := 16) rfl se_X12_ofSceneNow (R_recv hK (q := 0) (rlv (by omega)) rfl) (by omega) (by decide) (k_X12_ofSceneNow hK hI161 (i148) (by omega) (i161) (by omega)) rfl rfl (Nat.le_of_ble_eq_true rfl) ⟨by omega, by omega⟩ dX12_digest_171 (fun _ _ h => False.elim h) (fun v171 σ' hp171 => ?_)
                                obtain ⟨hp171, t69, F68, rfl, hJF68, hIF68⟩ := hp171
                                have hKF68 : rM N F F68 := (hJ161 : rM N F G161).trans hJF68
                                obtain ⟨r70, rfl⟩ := hp171
                                show V g κ 3 (0 + 1 * i14 + 48 * i148 + 8 * i161 + 8) (0 + 4 * i14 + 240 * i148 + 40 * i161 + 40) (t69, rO g ad N S161 F68 σ0) 174 [(2, .int (nI (i161))), (1, .int (nI (i148))), (0, .ref (ad (0)))] [.int (r70), .ref (ad (0))]
                                refine V_i2l X dX12_digest_174 (V.topl (fun w71 _ => ?_))
                                refine V_callV (rest := []) X E.room ml_X12_333 in_X12_add (ci := 16) rfl se_X12_add (R_recv hK (q := 0) (rlv (by omega)) rfl) (by omega) (by decide) (k_X12_add hK hIF68 (w71)) rfl rfl (Nat.le_of_ble_eq_true rfl) ⟨by omega, by omega⟩ dX12_digest_175 (fun _ _ h => False.elim h) (fun v175 σ' hp175 => ?_)
                                obtain ⟨hp175, S72, rfl⟩ := hp175
                                cases (hp175 : _ = none)
                                show V g κ 3 (0 + 1 * i14 + 48 * i148 + 8 * i161 + 8) (0 + 4 * i14 + 240 * i148 + 40 * i161 + 40) (t69, rO g ad N S72 F68 σ0) 178 [(2, .int (nI (i161))), (1, .int (nI (i148))), (0, .ref (ad (0)))] []
                                refine V_iinc X (nI (i161 + 1)) [(2, .int (nI (i161 + 1))), (1, .int (nI (i148))), (0, .ref (ad (0)))] dX12_digest_178 0 rfl (zinc _) (by decide) rfl ?_
                                refine V_goto (tgt := 161) X dX12_digest_181 (by decide) ?_
                                exact V.sub [0, 1, 2] rfl (V.widen (by omega) (by omega) (ih161 _ (by omega) (i161 + 1) F68 (t69) (S72) rfl (by omega) hKF68 hIF68))
                          exact L161 _ (0) G148 (t148) (S148) rfl (by omega) hJ148 hI148
                    exact L148 _ (0) G82 (t82) (S82) rfl (by omega) hJ82 hI82
                  · -- 90 false
                    refine V_iconst (v := nI 0) X dX12_digest_93 (by decide) ?_
                    refine V_istore_n X [(2, .int (nI (0))), (1, .int (nI (i82))), (0, .ref (ad (0)))] dX12_digest_94 (by decide) rfl ?_
                    have L95 : ∀ (n95 : Nat) (i95 : Nat) (G95 : Nat → Nat → Int32) (t95 : Nat × Nat) (S95 : Int64), n95 = 6 - i95 → i95 ≤ 6 → rM N F G95 → rI N G95 → V g κ 3 (0 + 1 * i14) (0 + 4 * i14) (t95, rO g ad N S95 G95 σ0) 95 [(2, .int (nI (i95))), (1, .int (nI (i82))), (0, .ref (ad (0)))] [] := by
                      intro n95
                      induction n95 using Nat.strongRecOn with
                      | ind n95 ih95 =>
                        intro i95 G95 t95 S95 hn95 hi95 hJ95 hI95
                        refine V_iload_n X dX12_digest_95 0 rfl ?_
                        refine V_bipush (v := nI 6) X dX12_digest_96 (by decide) ?_
                        refine V_icmpgeN X (by omega) (by omega) (tgt := 118) dX12_digest_98 (by decide) (fun h73 => ?_) (fun h73 => ?_)
                        · -- 98 true
                          refine V_aload_n X dX12_digest_118 2 rfl ?_
                          refine V_aload_n X dX12_digest_119 2 rfl ?_
                          refine V_iload_n X dX12_digest_120 1 rfl ?_
                          refine V_callV (rest := [.ref (ad (0))]) X E.room ml_X12_319 in_X12_withoutNow (ci := 16) rfl se_X12_withoutNow (R_recv hK (q := 0) (rlv (by omega)) rfl) (by omega) (by decide) (k_X12_withoutNow hK hI95 (i82) (by omega)) rfl rfl (Nat.le_of_ble_eq_true rfl) ⟨by omega, by omega⟩ dX12_digest_121 (fun _ _ h => False.elim h) (fun v121 σ' hp121 => ?_)
                          obtain ⟨r74, rfl, fr74, t76, F75, rfl, hMF75, hIF75, hZF75⟩ := hp121
                          have hKF75 : rM N F F75 := (hJ95 : rM N F G95).trans hMF75
                          show V g κ 3 (0 + 1 * i14) (0 + 4 * i14) (t76, rO g ad N S95 F75 σ0) 124 [(2, .int (nI (i95))), (1, .int (nI (i82))), (0, .ref (ad (0)))] [.int (r74), .ref (ad (0))]
                          refine V_i2l X dX12_digest_124 (V.topl (fun w77 _ => ?_))
                          refine V_callV (rest := []) X E.room ml_X12_333 in_X12_add (ci := 16) rfl se_X12_add (R_recv hK (q := 0) (rlv (by omega)) rfl) (by omega) (by decide) (k_X12_add hK hIF75 (w77)) rfl rfl (Nat.le_of_ble_eq_true rfl) ⟨by omega, by omega⟩ dX12_digest_125 (fun _ _ h => False.elim h) (fun v125 σ' hp125 => ?_)
                          obtain ⟨hp125, S78, rfl⟩ := hp125
                          cases (hp125 : _ = none)
                          show V g κ 3 (0 + 1 * i14) (0 + 4 * i14) (t76, rO g ad N S78 F75 σ0) 128 [(2, .int (nI (i95))), (1, .int (nI (i82))), (0, .ref (ad (0)))] []
                          refine V_aload_n X dX12_digest_128 2 rfl ?_
                          refine V_aload_n X dX12_digest_129 2 rfl ?_
                          refine V_bipush (v := nI 100) X dX12_digest_130 (by decide) ?_
                          refine V_iload_n X dX12_digest_132 1 rfl ?_
                          refine V_callV (rest := [.ref (ad (0))]) X E.room ml_X12_231 in_X12_shareNow (ci := 16) rfl se_X12_shareNow (R_recv hK (q := 0) (rlv (by omega)) rfl) (by omega) (by decide) (k_X12_shareNow hK hIF75 (nI (100)) (i82) (by omega) (hKF75.2 hKn) b h (rBs_M hKF75 hI hb)) rfl rfl (Nat.le_of_ble_eq_true rfl) ⟨by omega, by omega⟩ dX12_digest_133 (fun _ _ h => False.elim h) (fun v133 σ' hp133 => ?_)
                          obtain ⟨r79, rfl, fr79, t81, F80, rfl, hMF80, hIF80, hZF80⟩ := hp133
                          have hKF80 : rM N F F80 := (hKF75 : rM N F F75).trans hMF80
                          show V g κ 3 (0 + 1 * i14) (0 + 4 * i14) (t81, rO g ad N S78 F80 σ0) 136 [(2, .int (nI (i95))), (1, .int (nI (i82))), (0, .ref (ad (0)))] [.int (r79), .ref (ad (0))]
                          refine V_i2l X dX12_digest_136 (V.topl (fun w82 _ => ?_))
                          refine V_callV (rest := []) X E.room ml_X12_333 in_X12_add (ci := 16) rfl se_X12_add (R_recv hK (q := 0) (rlv (by omega)) rfl) (by omega) (by decide) (k_X12_add hK hIF80 (w82)) rfl rfl (Nat.le_of_ble_eq_true rfl) ⟨by omega, by omega⟩ dX12_digest_137 (fun _ _ h => False.elim h) (fun v137 σ' hp137 => ?_)
                          obtain ⟨hp137, S83, rfl⟩ := hp137
                          cases (hp137 : _ = none)
                          show V g κ 3 (0 + 1 * i14) (0 + 4 * i14) (t81, rO g ad N S83 F80 σ0) 140 [(2, .int (nI (i95))), (1, .int (nI (i82))), (0, .ref (ad (0)))] []
                          refine V_iinc X (nI (i82 + 1)) [(1, .int (nI (i82 + 1))), (2, .int (nI (i95))), (0, .ref (ad (0)))] dX12_digest_140 1 rfl (zinc _) (by decide) rfl ?_
                          refine V_goto (tgt := 82) X dX12_digest_143 (by decide) ?_
                          exact V.sub [0, 2] rfl (ih82 _ (by omega) (i82 + 1) F80 (t81) (S83) rfl (by omega) hKF80 hIF80)
                        · -- 98 false
                          refine V_aload_n X dX12_digest_101 2 rfl ?_
                          refine V_aload_n X dX12_digest_102 2 rfl ?_
                          refine V_iload_n X dX12_digest_103 1 rfl ?_
                          refine V_iload_n X dX12_digest_104 0 rfl ?_
                          refine V_callV (rest := [.ref (ad (0))]) X E.room ml_X12_267 in_X12_ofPlayerNow (ci := 16) rfl se_X12_ofPlayerNow (R_recv hK (q := 0) (rlv (by omega)) rfl) (by omega) (by decide) (k_X12_ofPlayerNow hK hI95 (i82) (i95) (by omega) (by omega) (hJ95.2 hKn) b h (rBs_M hJ95 hI hb)) rfl rfl (Nat.le_of_ble_eq_true rfl) ⟨by omega, by omega⟩ dX12_digest_105 (fun _ _ h => False.elim h) (fun v105 σ' hp105 => ?_)
                          obtain ⟨r84, rfl, fr84, t86, F85, rfl, hMF85, hIF85, hZF85⟩ := hp105
                          have hKF85 : rM N F F85 := (hJ95 : rM N F G95).trans hMF85
                          show V g κ 3 (0 + 1 * i14) (0 + 4 * i14) (t86, rO g ad N S95 F85 σ0) 108 [(2, .int (nI (i95))), (1, .int (nI (i82))), (0, .ref (ad (0)))] [.int (r84), .ref (ad (0))]
                          refine V_i2l X dX12_digest_108 (V.topl (fun w87 _ => ?_))
                          refine V_callV (rest := []) X E.room ml_X12_333 in_X12_add (ci := 16) rfl se_X12_add (R_recv hK (q := 0) (rlv (by omega)) rfl) (by omega) (by decide) (k_X12_add hK hIF85 (w87)) rfl rfl (Nat.le_of_ble_eq_true rfl) ⟨by omega, by omega⟩ dX12_digest_109 (fun _ _ h => False.elim h) (fun v109 σ' hp109 => ?_)
                          obtain ⟨hp109, S88, rfl⟩ := hp109
                          cases (hp109 : _ = none)
                          show V g κ 3 (0 + 1 * i14) (0 + 4 * i14) (t86, rO g ad N S88 F85 σ0) 112 [(2, .int (nI (i95))), (1, .int (nI (i82))), (0, .ref (ad (0)))] []
                          refine V_iinc X (nI (i95 + 1)) [(2, .int (nI (i95 + 1))), (1, .int (nI (i82))), (0, .ref (ad (0)))] dX12_digest_112 0 rfl (zinc _) (by decide) rfl ?_
                          refine V_goto (tgt := 95) X dX12_digest_115 (by decide) ?_
                          exact V.sub [0, 1, 2] rfl (ih95 _ (by omega) (i95 + 1) F85 (t86) (S88) rfl (by omega) hKF85 hIF85)
                    exact L95 _ (0) G82 (t82) (S82) rfl (by omega) hJ82 hI82
              exact L82 _ (0) G38 (t38) (S38) rfl (by omega) hJ38 hI38
            · -- 46 false
              refine V_iconst (v := nI 0) X dX12_digest_49 (by decide) ?_
              refine V_istore_n X [(2, .int (nI (0))), (1, .int (nI (i38))), (0, .ref (ad (0)))] dX12_digest_50 (by decide) rfl ?_
              have L51 : ∀ (n51 : Nat) (i51 : Nat) (G51 : Nat → Nat → Int32) (t51 : Nat × Nat) (S51 : Int64), n51 = 7 - i51 → i51 ≤ 7 → rM N F G51 → rI N G51 → V g κ 3 (0 + 1 * i14) (0 + 4 * i14) (t51, rO g ad N S51 G51 σ0) 51 [(2, .int (nI (i51))), (1, .int (nI (i38))), (0, .ref (ad (0)))] [] := by
                intro n51
                induction n51 using Nat.strongRecOn with
                | ind n51 ih51 =>
                  intro i51 G51 t51 S51 hn51 hi51 hJ51 hI51
                  refine V_iload_n X dX12_digest_51 0 rfl ?_
                  refine V_bipush (v := nI 7) X dX12_digest_52 (by decide) ?_
                  refine V_icmpgeN X (by omega) (by omega) (tgt := 74) dX12_digest_54 (by decide) (fun h89 => ?_) (fun h89 => ?_)
                  · -- 54 true
                    refine V_iinc X (nI (i38 + 1)) [(1, .int (nI (i38 + 1))), (2, .int (nI (i51))), (0, .ref (ad (0)))] dX12_digest_74 1 rfl (zinc _) (by decide) rfl ?_
                    refine V_goto (tgt := 38) X dX12_digest_77 (by decide) ?_
                    exact V.sub [0, 2] rfl (ih38 _ (by omega) (i38 + 1) G51 (t51) (S51) rfl (by omega) hJ51 hI51)
                  · -- 54 false
                    refine V_aload_n X dX12_digest_57 2 rfl ?_
                    refine V_aload_n X dX12_digest_58 2 rfl ?_
                    refine V_iload_n X dX12_digest_59 1 rfl ?_
                    refine V_iload_n X dX12_digest_60 0 rfl ?_
                    refine V_callV (rest := [.ref (ad (0))]) X E.room ml_X12_264 in_X12_ofPartNow (ci := 16) rfl se_X12_ofPartNow (R_recv hK (q := 0) (rlv (by omega)) rfl) (by omega) (by decide) (k_X12_ofPartNow hK hI51 (i38) (i51) (by omega) (by omega) (hJ51.2 hKn) b h (rBs_M hJ51 hI hb)) rfl rfl (Nat.le_of_ble_eq_true rfl) ⟨by omega, by omega⟩ dX12_digest_61 (fun _ _ h => False.elim h) (fun v61 σ' hp61 => ?_)
                    obtain ⟨r90, rfl, fr90, t92, F91, rfl, hMF91, hIF91, hZF91⟩ := hp61
                    have hKF91 : rM N F F91 := (hJ51 : rM N F G51).trans hMF91
                    show V g κ 3 (0 + 1 * i14) (0 + 4 * i14) (t92, rO g ad N S51 F91 σ0) 64 [(2, .int (nI (i51))), (1, .int (nI (i38))), (0, .ref (ad (0)))] [.int (r90), .ref (ad (0))]
                    refine V_i2l X dX12_digest_64 (V.topl (fun w93 _ => ?_))
                    refine V_callV (rest := []) X E.room ml_X12_333 in_X12_add (ci := 16) rfl se_X12_add (R_recv hK (q := 0) (rlv (by omega)) rfl) (by omega) (by decide) (k_X12_add hK hIF91 (w93)) rfl rfl (Nat.le_of_ble_eq_true rfl) ⟨by omega, by omega⟩ dX12_digest_65 (fun _ _ h => False.elim h) (fun v65 σ' hp65 => ?_)
                    obtain ⟨hp65, S94, rfl⟩ := hp65
                    cases (hp65 : _ = none)
                    show V g κ 3 (0 + 1 * i14) (0 + 4 * i14) (t92, rO g ad N S94 F91 σ0) 68 [(2, .int (nI (i51))), (1, .int (nI (i38))), (0, .ref (ad (0)))] []
                    refine V_iinc X (nI (i51 + 1)) [(2, .int (nI (i51 + 1))), (1, .int (nI (i38))), (0, .ref (ad (0)))] dX12_digest_68 0 rfl (zinc _) (by decide) rfl ?_
                    refine V_goto (tgt := 51) X dX12_digest_71 (by decide) ?_
                    exact V.sub [0, 1, 2] rfl (ih51 _ (by omega) (i51 + 1) F91 (t92) (S94) rfl (by omega) hKF91 hIF91)
              exact L51 _ (0) G38 (t38) (S38) rfl (by omega) hJ38 hI38
        exact L38 _ (0) G14 (t14) (S14) rfl (by omega) hJ14 hI14
      · -- 17 false
        refine V_aload_n X dX12_digest_20 1 rfl ?_
        refine V_aload_n X dX12_digest_21 1 rfl ?_
        refine V_iload_n X dX12_digest_22 0 rfl ?_
        refine V_callV (rest := [.ref (ad (0))]) X E.room ml_X12_297 in_X12_houseNow (ci := 16) rfl se_X12_houseNow (R_recv hK (q := 0) (rlv (by omega)) rfl) (by omega) (by decide) (k_X12_houseNow hK hI14 (i14) (by omega)) rfl rfl (Nat.le_of_ble_eq_true rfl) ⟨by omega, by omega⟩ dX12_digest_23 (fun _ _ h => False.elim h) (fun v23 σ' hp23 => ?_)
        obtain ⟨hp23, t96, F95, rfl, hJF95, hIF95⟩ := hp23
        have hKF95 : rM N F F95 := (hJ14 : rM N F G14).trans hJF95
        obtain ⟨r97, rfl⟩ := hp23
        show V g κ 3 (0 + 1 * i14 + 1) (0 + 4 * i14 + 4) (t96, rO g ad N S14 F95 σ0) 26 [(1, .int (nI (i14))), (0, .ref (ad (0)))] [.int (r97), .ref (ad (0))]
        refine V_i2l X dX12_digest_26 (V.topl (fun w98 _ => ?_))
        refine V_callV (rest := []) X E.room ml_X12_333 in_X12_add (ci := 16) rfl se_X12_add (R_recv hK (q := 0) (rlv (by omega)) rfl) (by omega) (by decide) (k_X12_add hK hIF95 (w98)) rfl rfl (Nat.le_of_ble_eq_true rfl) ⟨by omega, by omega⟩ dX12_digest_27 (fun _ _ h => False.elim h) (fun v27 σ' hp27 => ?_)
        obtain ⟨hp27, S99, rfl⟩ := hp27
        cases (hp27 : _ = none)
        show V g κ 3 (0 + 1 * i14 + 1) (0 + 4 * i14 + 4) (t96, rO g ad N S99 F95 σ0) 30 [(1, .int (nI (i14))), (0, .ref (ad (0)))] []
        refine V_iinc X (nI (i14 + 1)) [(1, .int (nI (i14 + 1))), (0, .ref (ad (0)))] dX12_digest_30 0 rfl (zinc _) (by decide) rfl ?_
        refine V_goto (tgt := 14) X dX12_digest_33 (by decide) ?_
        exact V.sub [0, 1] rfl (V.widen (by omega) (by omega) (ih14 _ (by omega) (i14 + 1) F95 (t96) (S99) rfl (by omega) hKF95 hIF95))
  exact L14 _ (0) F1 (t) (w2) rfl (by omega) hJF1 hIF1
