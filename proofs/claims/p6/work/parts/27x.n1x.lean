/-! ===== clashes and needs of the reference, exact ===== -/
set_option maxRecDepth 100000 in
set_option maxHeartbeats 4000000 in
theorem k_X12_clash_x {g : zG} {t : Nat × Nat} {ad N : Nat → Nat} {S : Int64} {σ0 : Nat → Option va_E} {F : Nat → Nat → Int32} (hK : rK g ad N) (hI : rI N F) (a1 : Int32) : Ct g 13 yX12_clash cX12_clash 8 none 0 0 [.ref (ad (0)), .int (a1)] (t, rO g ad N S F σ0) (fun v σ' => v = none ∧ ∃ F' : Nat → Nat → Int32, σ' = (t, rO g ad N S F' σ0) ∧ cRw s13 F F' ∧ ∀ p, p < 7 → zMk (F' 13 p) (mCl (rSp F) (rCh F) (rPa F) (N 0) a1 (N 2) p)) zNo := by
  refine Ct.of (lv := [(0, .ref (ad (0))), (1, .int (a1))]) (by decide) (Nat.le_of_ble_eq_true rfl) rfl ?_
  intro κ X E B _
  have X : zX g κ RX12 cX12_clash 8 := X
  obtain ⟨b0, b1, b2, b3, b4⟩ := hI.bnd
  refine V_iconst (v := nI 0) X dX12_clash_0 (by decide) ?_
  refine V_istore_n X [(2, .int (nI (0))), (0, .ref (ad (0))), (1, .int (a1))] dX12_clash_1 (by decide) rfl ?_
  have L2 : ∀ (n2 : Nat) (i2 : Nat) (G2 : Nat → Nat → Int32), n2 = 7 - i2 → i2 ≤ 7 → cRw s13 F G2 → ((∀ p, p < i2 → G2 13 p = nI 0)) → V g κ 8 (0) (0) (t, rO g ad N S G2 σ0) 2 [(2, .int (nI (i2))), (0, .ref (ad (0))), (1, .int (a1))] [] := by
    intro n2
    induction n2 using Nat.strongRecOn with
    | ind n2 ih2 =>
      intro i2 G2 hn2 hi2 hJ2 hv2_0
      refine V_iload_n X dX12_clash_2 0 rfl ?_
      refine V_bipush (v := nI 7) X dX12_clash_3 (by decide) ?_
      refine V_icmpgeN X (by omega) (by omega) (tgt := 21) dX12_clash_5 (by decide) (fun h1 => ?_) (fun h1 => ?_)
      · -- 5 true
        refine V_iconst (v := (-1)) X dX12_clash_21 (by decide) ?_
        refine V_istore_n X [(2, .int (-1)), (0, .ref (ad (0))), (1, .int (a1))] dX12_clash_22 (by decide) rfl ?_
        refine V_iconst (v := nI 0) X dX12_clash_23 (by decide) ?_
        refine V_istore_n X [(3, .int (nI (0))), (2, .int (-1)), (0, .ref (ad (0))), (1, .int (a1))] dX12_clash_24 (by decide) rfl ?_
        have L25 : ∀ (n25 : Nat) (i25 : Nat) (x25_2 : Int32) (G25 : Nat → Nat → Int32), n25 = N 2 - i25 → i25 ≤ N 2 → cRw s13 F G25 → (((x25_2 = -1 ∧ mBn a1 i25) ∨ ∃ b, b < N 2 ∧ x25_2 = nI b ∧ mBf a1 i25 b)) → ((∀ p, p < 7 → zMk (G25 13 p) (mCl (rSp F) (rCh F) (rPa F) (N 0) a1 i25 p))) → V g κ 8 (0) (0) (t, rO g ad N S G25 σ0) 25 [(3, .int (nI (i25))), (2, .int (x25_2)), (0, .ref (ad (0))), (1, .int (a1))] [] := by
          intro n25
          induction n25 using Nat.strongRecOn with
          | ind n25 ih25 =>
            intro i25 x25_2 G25 hn25 hi25 hJ25 hv25_0 hv25_1
            refine V_iload_n X dX12_clash_25 0 rfl ?_
            refine V_aload_n X dX12_clash_26 2 rfl ?_
            refine R_getf X fl_X12_19 hK (0) (rlv (by omega)) rfl rfl dX12_clash_27 ?_
            refine V_callV (rest := [.int (nI (i25))]) X E.room ml_X12_42 in_Jx4a65c_size_8abf5 (ci := 3) rfl se_Jx4a65c_size_8abf5 (rO_list hK (i := 2) (by decide)) (by omega) (by decide) (r_size hK 2 (by decide)) rfl rfl (Nat.le_of_ble_eq_true rfl) ⟨by omega, by omega⟩ dX12_clash_30 (fun _ _ h => False.elim h) (fun v2 σ' hp3 => ?_)
            obtain ⟨hp3, rfl⟩ := hp3
            cases (hp3 : _ = some (Value.int (nI (N 2))))
            show V g κ 8 (0) (0) (t, rO g ad N S G25 σ0) 33 [(3, .int (nI (i25))), (2, .int (x25_2)), (0, .ref (ad (0))), (1, .int (a1))] [.int (nI (N 2)), .int (nI (i25))]
            refine V_icmpgeN X (by omega) (by omega) (tgt := 308) dX12_clash_33 (by decide) (fun h4 => ?_) (fun h4 => ?_)
            · -- 33 true
              exact V_vret X E (by omega) (by omega) ⟨rfl, _, rfl, hJ25, by rw [← show i25 = N 2 by omega]; exact hv25_1⟩ dX12_clash_308
            · -- 33 false
              refine V_iload_n X dX12_clash_36 3 rfl ?_
              refine V_iload_n X dX12_clash_37 0 rfl ?_
              refine V_callS (rest := []) X E.room ml_X12_159 st_X12_isIn (by omega) (by decide) (k_X12_isIn (σ := (t, rO g ad N S G25 σ0)) (a1) (nI (i25))) rfl rfl (Nat.le_of_ble_eq_true rfl) ⟨by omega, by omega⟩ dX12_clash_38 (fun _ _ h => False.elim h) (fun v38 σ' hp38 => ?_)
              obtain ⟨hp38, rfl⟩ := hp38
              rcases hp38 with ⟨rfl, z5⟩ | ⟨rfl, z5⟩
              · -- yes
                show V g κ 8 (0) (0) (t, rO g ad N S G25 σ0) 41 [(3, .int (nI (i25))), (2, .int (x25_2)), (0, .ref (ad (0))), (1, .int (a1))] [.int (nI (1))]
                refine V_ifneN X (by omega) (tgt := 47) dX12_clash_41 (by decide) (fun h6 => ?_) (fun h6 => absurd h6 (by omega))
                refine V_aload_n X dX12_clash_47 2 rfl ?_
                refine R_getf X fl_X12_19 hK (0) (rlv (by omega)) rfl rfl dX12_clash_48 ?_
                refine V_iload_n X dX12_clash_51 0 rfl ?_
                refine V_callV (rest := []) X E.room ml_X12_97 in_Jx4a65c_get_915e3 (ci := 3) rfl se_Jx4a65c_get_915e3 (rO_list hK (i := 2) (by decide)) (by omega) (by decide) (r_get hK 2 (by decide) (j := i25) (by omega) (by omega)) rfl rfl (Nat.le_of_ble_eq_true rfl) ⟨by omega, by omega⟩ dX12_clash_52 (fun _ _ h => False.elim h) (fun v7 σ' hp8 => ?_)
                obtain ⟨hp8, rfl⟩ := hp8
                cases (hp8 : _ = some (Value.ref (ad (26 + (i25)))))
                show V g κ 8 (0) (0) (t, rO g ad N S G25 σ0) 55 [(3, .int (nI (i25))), (2, .int (x25_2)), (0, .ref (ad (0))), (1, .int (a1))] [.ref (ad (26 + (i25)))]
                refine V_cast X (C := RX10) rfl cl_X12_85 (R_recv hK (q := 26 + (i25)) (rlv (by omega)) (rCell_scene (by omega))) dX12_clash_55 ?_
                obtain ⟨m9, hm9, em9⟩ := hI.sp (i25) (by omega)
                have gm9 : m9 < 128 := Nat.lt_of_lt_of_le hm9 (zp2 (n := 7) (by omega))
                refine R_getfN (z := nI (m9)) X fl_X12_88 hK (26 + (i25)) (rlv (by omega)) (rCell_scene (by omega)) rfl ((hJ25 _ _ (s13_f (by omega))).trans em9) dX12_clash_58 ?_
                refine V_istore X [(4, .int (nI (m9))), (3, .int (nI (i25))), (2, .int (x25_2)), (0, .ref (ad (0))), (1, .int (a1))] dX12_clash_61 (by decide) rfl ?_
                refine V_iconst (v := nI 0) X dX12_clash_63 (by decide) ?_
                refine V_istore X [(5, .int (nI (0))), (4, .int (nI (m9))), (3, .int (nI (i25))), (2, .int (x25_2)), (0, .ref (ad (0))), (1, .int (a1))] dX12_clash_64 (by decide) rfl ?_
                have L66 : ∀ (n66 : Nat) (i66 : Nat) (G66 : Nat → Nat → Int32), n66 = N 0 - i66 → i66 ≤ N 0 → cRw s13 F G66 → (mJ (G66 13) (fun p q => mCl (rSp F) (rCh F) (rPa F) (N 0) a1 i25 p q) (mTog (N 0) (nI m9)) i66) → V g κ 8 (0) (0) (t, rO g ad N S G66 σ0) 66 [(5, .int (nI (i66))), (4, .int (nI (m9))), (3, .int (nI (i25))), (2, .int (x25_2)), (0, .ref (ad (0))), (1, .int (a1))] [] := by
                  intro n66
                  induction n66 using Nat.strongRecOn with
                  | ind n66 ih66 =>
                    intro i66 G66 hn66 hi66 hJ66 hv66_0
                    refine V_iload X dX12_clash_66 0 rfl ?_
                    refine V_aload_n X dX12_clash_68 4 rfl ?_
                    refine R_getf X fl_X12_10 hK (0) (rlv (by omega)) rfl rfl dX12_clash_69 ?_
                    refine V_callV (rest := [.int (nI (i66))]) X E.room ml_X12_42 in_Jx4a65c_size_8abf5 (ci := 3) rfl se_Jx4a65c_size_8abf5 (rO_list hK (i := 0) (by decide)) (by omega) (by decide) (r_size hK 0 (by decide)) rfl rfl (Nat.le_of_ble_eq_true rfl) ⟨by omega, by omega⟩ dX12_clash_72 (fun _ _ h => False.elim h) (fun v10 σ' hp11 => ?_)
                    obtain ⟨hp11, rfl⟩ := hp11
                    cases (hp11 : _ = some (Value.int (nI (N 0))))
                    show V g κ 8 (0) (0) (t, rO g ad N S G66 σ0) 75 [(5, .int (nI (i66))), (4, .int (nI (m9))), (3, .int (nI (i25))), (2, .int (x25_2)), (0, .ref (ad (0))), (1, .int (a1))] [.int (nI (N 0)), .int (nI (i66))]
                    refine V_icmpgeN X (by omega) (by omega) (tgt := 113) dX12_clash_75 (by decide) (fun h12 => ?_) (fun h12 => ?_)
                    · -- 75 true
                      refine V_iconst (v := nI 0) X dX12_clash_113 (by decide) ?_
                      refine V_istore X [(5, .int (nI (0))), (4, .int (nI (m9))), (3, .int (nI (i25))), (2, .int (x25_2)), (0, .ref (ad (0))), (1, .int (a1))] dX12_clash_114 (by decide) rfl ?_
                      have L116 : ∀ (n116 : Nat) (i116 : Nat) (G116 : Nat → Nat → Int32), n116 = N 0 - i116 → i116 ≤ N 0 → cRw s13 F G116 → (mI (G116 13) (fun p q => mCl (rSp F) (rCh F) (rPa F) (N 0) a1 i25 p q ∨ mTog (N 0) (nI m9) p q) (mTb (rSp F) (rCh F) (rPa F) (N 0) (N 2) (x25_2) (nI m9)) i116 0) → V g κ 8 (0) (0) (t, rO g ad N S G116 σ0) 116 [(5, .int (nI (i116))), (4, .int (nI (m9))), (3, .int (nI (i25))), (2, .int (x25_2)), (0, .ref (ad (0))), (1, .int (a1))] [] := by
                        intro n116
                        induction n116 using Nat.strongRecOn with
                        | ind n116 ih116 =>
                          intro i116 G116 hn116 hi116 hJ116 hv116_0
                          refine V_iload X dX12_clash_116 0 rfl ?_
                          refine V_aload_n X dX12_clash_118 4 rfl ?_
                          refine R_getf X fl_X12_10 hK (0) (rlv (by omega)) rfl rfl dX12_clash_119 ?_
                          refine V_callV (rest := [.int (nI (i116))]) X E.room ml_X12_42 in_Jx4a65c_size_8abf5 (ci := 3) rfl se_Jx4a65c_size_8abf5 (rO_list hK (i := 0) (by decide)) (by omega) (by decide) (r_size hK 0 (by decide)) rfl rfl (Nat.le_of_ble_eq_true rfl) ⟨by omega, by omega⟩ dX12_clash_122 (fun _ _ h => False.elim h) (fun v13 σ' hp14 => ?_)
                          obtain ⟨hp14, rfl⟩ := hp14
                          cases (hp14 : _ = some (Value.int (nI (N 0))))
                          show V g κ 8 (0) (0) (t, rO g ad N S G116 σ0) 125 [(5, .int (nI (i116))), (4, .int (nI (m9))), (3, .int (nI (i25))), (2, .int (x25_2)), (0, .ref (ad (0))), (1, .int (a1))] [.int (nI (N 0)), .int (nI (i116))]
                          refine V_icmpgeN X (by omega) (by omega) (tgt := 300) dX12_clash_125 (by decide) (fun h15 => ?_) (fun h15 => ?_)
                          · -- 125 true
                            refine V_iload_n X dX12_clash_300 2 rfl ?_
                            refine V_istore_n X [(2, .int (nI (i25))), (5, .int (nI (i116))), (4, .int (nI (m9))), (3, .int (nI (i25))), (0, .ref (ad (0))), (1, .int (a1))] dX12_clash_301 (by decide) rfl ?_
                            refine V_iinc X (nI (i25 + 1)) [(3, .int (nI (i25 + 1))), (2, .int (nI (i25))), (5, .int (nI (i116))), (4, .int (nI (m9))), (0, .ref (ad (0))), (1, .int (a1))] dX12_clash_302 3 rfl (zinc _) (by decide) rfl ?_
                            refine V_goto (tgt := 25) X dX12_clash_305 (by decide) ?_
                            exact V.sub [0, 1, 4, 5] rfl (ih25 _ (by omega) (i25 + 1) (nI (i25)) G116 rfl (by omega) hJ116 (Or.inr ⟨_, by omega, rfl, mBf_n z5⟩) (by have h9 := mI_end hv116_0 (show i116 = N 0 by omega) (fun p q ⟨_, _, _, h⟩ => h.1); rw [show nI m9 = rSp F i25 from em9.symm] at h9; exact mCl_st (by omega) z5 hv25_0 h9))
                          · -- 125 false
                            refine V_iload_n X dX12_clash_128 3 rfl ?_
                            refine V_iconst (v := (-1)) X dX12_clash_129 (by decide) ?_
                            refine V_icmpeq X (tgt := 300) dX12_clash_130 (by decide) (fun h16 => ?_) (fun h16 => ?_)
                            · -- 130 true
                              refine V_iload_n X dX12_clash_300 2 rfl ?_
                              refine V_istore_n X [(2, .int (nI (i25))), (5, .int (nI (i116))), (4, .int (nI (m9))), (3, .int (nI (i25))), (0, .ref (ad (0))), (1, .int (a1))] dX12_clash_301 (by decide) rfl ?_
                              refine V_iinc X (nI (i25 + 1)) [(3, .int (nI (i25 + 1))), (2, .int (nI (i25))), (5, .int (nI (i116))), (4, .int (nI (m9))), (0, .ref (ad (0))), (1, .int (a1))] dX12_clash_302 3 rfl (zinc _) (by decide) rfl ?_
                              refine V_goto (tgt := 25) X dX12_clash_305 (by decide) ?_
                              exact V.sub [0, 1, 4, 5] rfl (ih25 _ (by omega) (i25 + 1) (nI (i25)) G116 rfl (by omega) hJ116 (Or.inr ⟨_, by omega, rfl, mBf_n z5⟩) (by have h9 := (mI_emp hv116_0 (by rintro p q ⟨b, hb, e, -⟩; exact absurd (e.symm.trans h16) (znm1 (by omega)))); have h8 : mBn a1 i25 := hv25_0.elim And.right (fun ⟨b, y1, y2, _⟩ => absurd (y2.symm.trans h16) (znm1 (by omega))); rw [show nI m9 = rSp F i25 from em9.symm] at h9; exact mCl_first z5 h8 h9))
                            · -- 130 false
                              obtain ⟨b9, hb9, rfl, hbf9⟩ := hv25_0.resolve_left (fun y => absurd y.1 h16)
                              refine V_iconst (v := nI 0) X dX12_clash_133 (by decide) ?_
                              refine V_istore X [(6, .int (nI (0))), (5, .int (nI (i116))), (4, .int (nI (m9))), (3, .int (nI (i25))), (2, .int (nI (b9))), (0, .ref (ad (0))), (1, .int (a1))] dX12_clash_134 (by decide) rfl ?_
                              have L136 : ∀ (n136 : Nat) (i136 : Nat) (G136 : Nat → Nat → Int32), n136 = N 0 - i136 → i136 ≤ N 0 → cRw s13 F G136 → (mI (G136 13) (fun p q => mCl (rSp F) (rCh F) (rPa F) (N 0) a1 i25 p q ∨ mTog (N 0) (nI m9) p q) (mTb (rSp F) (rCh F) (rPa F) (N 0) (N 2) (nI b9) (nI m9)) i116 i136) → V g κ 8 (0) (0) (t, rO g ad N S G136 σ0) 136 [(6, .int (nI (i136))), (5, .int (nI (i116))), (4, .int (nI (m9))), (3, .int (nI (i25))), (2, .int (nI (b9))), (0, .ref (ad (0))), (1, .int (a1))] [] := by
                                intro n136
                                induction n136 using Nat.strongRecOn with
                                | ind n136 ih136 =>
                                  intro i136 G136 hn136 hi136 hJ136 hv136_0
                                  refine V_iload X dX12_clash_136 0 rfl ?_
                                  refine V_aload_n X dX12_clash_138 5 rfl ?_
                                  refine R_getf X fl_X12_10 hK (0) (rlv (by omega)) rfl rfl dX12_clash_139 ?_
                                  refine V_callV (rest := [.int (nI (i136))]) X E.room ml_X12_42 in_Jx4a65c_size_8abf5 (ci := 3) rfl se_Jx4a65c_size_8abf5 (rO_list hK (i := 0) (by decide)) (by omega) (by decide) (r_size hK 0 (by decide)) rfl rfl (Nat.le_of_ble_eq_true rfl) ⟨by omega, by omega⟩ dX12_clash_142 (fun _ _ h => False.elim h) (fun v17 σ' hp18 => ?_)
                                  obtain ⟨hp18, rfl⟩ := hp18
                                  cases (hp18 : _ = some (Value.int (nI (N 0))))
                                  show V g κ 8 (0) (0) (t, rO g ad N S G136 σ0) 145 [(6, .int (nI (i136))), (5, .int (nI (i116))), (4, .int (nI (m9))), (3, .int (nI (i25))), (2, .int (nI (b9))), (0, .ref (ad (0))), (1, .int (a1))] [.int (nI (N 0)), .int (nI (i136))]
                                  refine V_icmpgeN X (by omega) (by omega) (tgt := 294) dX12_clash_145 (by decide) (fun h19 => ?_) (fun h19 => ?_)
                                  · -- 145 true
                                    refine V_iinc X (nI (i116 + 1)) [(5, .int (nI (i116 + 1))), (6, .int (nI (i136))), (4, .int (nI (m9))), (3, .int (nI (i25))), (2, .int (nI (b9))), (0, .ref (ad (0))), (1, .int (a1))] dX12_clash_294 1 rfl (zinc _) (by decide) rfl ?_
                                    refine V_goto (tgt := 116) X dX12_clash_297 (by decide) ?_
                                    exact V.sub [0, 2, 3, 4, 5, 6] rfl (ih116 _ (by omega) (i116 + 1) G136 rfl (by omega) hJ136 (mI_next hv136_0 (show i136 = N 0 by omega) (fun p q ⟨_, _, _, h⟩ => h.2.1)))
                                  · -- 145 false
                                    refine V_iload X dX12_clash_148 1 rfl ?_
                                    refine V_iload X dX12_clash_150 0 rfl ?_
                                    refine V_icmpeqN X (by omega) (by omega) (tgt := 239) dX12_clash_152 (by decide) (fun h20 => ?_) (fun h20 => ?_)
                                    · -- 152 true
                                      refine V_iconst (v := nI 0) X dX12_clash_239 (by decide) ?_
                                      refine V_istore X [(7, .int (nI (0))), (6, .int (nI (i136))), (5, .int (nI (i116))), (4, .int (nI (m9))), (3, .int (nI (i25))), (2, .int (nI (b9))), (0, .ref (ad (0))), (1, .int (a1))] dX12_clash_240 (by decide) rfl ?_
                                      refine V_aload_n X dX12_clash_242 6 rfl ?_
                                      refine R_getf X fl_X12_35 hK (0) (rlv (by omega)) rfl rfl dX12_clash_243 ?_
                                      refine V_iload X dX12_clash_246 2 rfl ?_
                                      refine V_dup2 X dX12_clash_248 rfl rfl ?_
                                      refine R_iald X hK (13) (by omega) (i116) rfl (by omega) dX12_clash_249 ?_
                                      refine V.topi (fun x21 ex21 => ?_)
                                      refine V_iload X dX12_clash_250 0 rfl ?_
                                      refine V_ifeqN X (by omega) (tgt := 262) dX12_clash_252 (by decide) (fun h22 => ?_) (fun h22 => absurd h22 (by omega))
                                      refine V_iconst (v := nI 0) X dX12_clash_262 (by decide) ?_
                                      refine V_ior X dX12_clash_263 (V.topi (fun w23 ew23 => ?_))
                                      refine R_iast X hK (13) (by omega) (i116) rfl (by omega) dX12_clash_264 (fun F24 hF24 => ?_)
                                      have hJF24 := (hJ136 : cRw s13 F G136).set hF24 rfl
                                      refine V_aload_n X dX12_clash_265 6 rfl ?_
                                      refine R_getf X fl_X12_35 hK (0) (rlv (by omega)) rfl rfl dX12_clash_266 ?_
                                      refine V_iload X dX12_clash_269 1 rfl ?_
                                      refine V_dup2 X dX12_clash_271 rfl rfl ?_
                                      refine R_iald X hK (13) (by omega) (i136) rfl (by omega) dX12_clash_272 ?_
                                      refine V.topi (fun x25 ex25 => ?_)
                                      refine V_iload X dX12_clash_273 0 rfl ?_
                                      refine V_ifeqN X (by omega) (tgt := 285) dX12_clash_275 (by decide) (fun h26 => ?_) (fun h26 => absurd h26 (by omega))
                                      refine V_iconst (v := nI 0) X dX12_clash_285 (by decide) ?_
                                      refine V_ior X dX12_clash_286 (V.topi (fun w27 ew27 => ?_))
                                      refine R_iast X hK (13) (by omega) (i136) rfl (by omega) dX12_clash_287 (fun F28 hF28 => ?_)
                                      have hJF28 := (hJF24 : cRw s13 F F24).set hF28 rfl
                                      have hnT : ¬ (mTb (rSp F) (rCh F) (rPa F) (N 0) (N 2) (nI b9) (nI m9)) i116 i136 := by
                                        rintro ⟨b, hb, e, h⟩
                                        have : b9 = b := (nI_eq (by omega) (by omega)).mp e
                                        subst this
                                        exact h.2.2.1 (by omega)
                                      have hvF28 := mI_no0 (c' := F24 13) (c2 := F28 13) hv136_0 hnT (by rw [hF24, fset_eq, ew23, ex21]) (fun p hp => by rw [hF24, fset_ne (Or.inr hp)]) (by rw [hF28, fset_eq, ew27, ex25]) (fun p hp => by rw [hF28, fset_ne (Or.inr hp)])
                                      refine V_iinc X (nI (i136 + 1)) [(6, .int (nI (i136 + 1))), (7, .int (nI (0))), (5, .int (nI (i116))), (4, .int (nI (m9))), (3, .int (nI (i25))), (2, .int (nI (b9))), (0, .ref (ad (0))), (1, .int (a1))] dX12_clash_288 1 rfl (zinc _) (by decide) rfl ?_
                                      refine V_goto (tgt := 136) X dX12_clash_291 (by decide) ?_
                                      exact V.sub [0, 2, 3, 4, 5, 6, 7] rfl (ih136 _ (by omega) (i136 + 1) F28 rfl (by omega) hJF28 (hvF28))
                                    · -- 152 false
                                      have hne : i116 ≠ i136 := by omega
                                      refine V_aload_n X dX12_clash_155 5 rfl ?_
                                      refine R_getf X fl_X12_19 hK (0) (rlv (by omega)) rfl rfl dX12_clash_156 ?_
                                      refine V_iload_n X dX12_clash_159 4 rfl ?_
                                      refine V_callV (rest := []) X E.room ml_X12_97 in_Jx4a65c_get_915e3 (ci := 3) rfl se_Jx4a65c_get_915e3 (rO_list hK (i := 2) (by decide)) (by omega) (by decide) (r_get hK 2 (by decide) (j := b9) (by omega) (by omega)) rfl rfl (Nat.le_of_ble_eq_true rfl) ⟨by omega, by omega⟩ dX12_clash_160 (fun _ _ h => False.elim h) (fun v29 σ' hp30 => ?_)
                                      obtain ⟨hp30, rfl⟩ := hp30
                                      cases (hp30 : _ = some (Value.ref (ad (26 + (b9)))))
                                      show V g κ 8 (0) (0) (t, rO g ad N S G136 σ0) 163 [(6, .int (nI (i136))), (5, .int (nI (i116))), (4, .int (nI (m9))), (3, .int (nI (i25))), (2, .int (nI (b9))), (0, .ref (ad (0))), (1, .int (a1))] [.ref (ad (26 + (b9)))]
                                      refine V_cast X (C := RX10) rfl cl_X12_85 (R_recv hK (q := 26 + (b9)) (rlv (by omega)) (rCell_scene (by omega))) dX12_clash_163 ?_
                                      obtain ⟨m31, hm31, em31⟩ := hI.sp (b9) (by omega)
                                      have gm31 : m31 < 128 := Nat.lt_of_lt_of_le hm31 (zp2 (n := 7) (by omega))
                                      refine R_getfN (z := nI (m31)) X fl_X12_88 hK (26 + (b9)) (rlv (by omega)) (rCell_scene (by omega)) rfl ((hJ136 _ _ (s13_f (by omega))).trans em31) dX12_clash_166 ?_
                                      refine V_iload X dX12_clash_169 1 rfl ?_
                                      refine V_callS (rest := []) X E.room ml_X12_159 st_X12_isIn (by omega) (by decide) (k_X12_isIn (σ := (t, rO g ad N S G136 σ0)) (nI (m31)) (nI (i116))) rfl rfl (Nat.le_of_ble_eq_true rfl) ⟨by omega, by omega⟩ dX12_clash_171 (fun _ _ h => False.elim h) (fun v171 σ' hp171 => ?_)
                                      obtain ⟨hp171, rfl⟩ := hp171
                                      rcases hp171 with ⟨rfl, z32⟩ | ⟨rfl, z32⟩
                                      · -- yes
                                        show V g κ 8 (0) (0) (t, rO g ad N S G136 σ0) 174 [(6, .int (nI (i136))), (5, .int (nI (i116))), (4, .int (nI (m9))), (3, .int (nI (i25))), (2, .int (nI (b9))), (0, .ref (ad (0))), (1, .int (a1))] [.int (nI (1))]
                                        refine V_ifeqN X (by omega) (tgt := 239) dX12_clash_174 (by decide) (fun h33 => absurd h33 (by omega)) (fun h33 => ?_)
                                        refine V_iload X dX12_clash_177 2 rfl ?_
                                        refine V_iload X dX12_clash_179 0 rfl ?_
                                        refine V_callS (rest := []) X E.room ml_X12_159 st_X12_isIn (by omega) (by decide) (k_X12_isIn (σ := (t, rO g ad N S G136 σ0)) (nI (m9)) (nI (i136))) rfl rfl (Nat.le_of_ble_eq_true rfl) ⟨by omega, by omega⟩ dX12_clash_181 (fun _ _ h => False.elim h) (fun v181 σ' hp181 => ?_)
                                        obtain ⟨hp181, rfl⟩ := hp181
                                        rcases hp181 with ⟨rfl, z34⟩ | ⟨rfl, z34⟩
                                        · -- yes
                                          show V g κ 8 (0) (0) (t, rO g ad N S G136 σ0) 184 [(6, .int (nI (i136))), (5, .int (nI (i116))), (4, .int (nI (m9))), (3, .int (nI (i25))), (2, .int (nI (b9))), (0, .ref (ad (0))), (1, .int (a1))] [.int (nI (1))]
                                          refine V_ifeqN X (by omega) (tgt := 239) dX12_clash_184 (by decide) (fun h35 => absurd h35 (by omega)) (fun h35 => ?_)
                                          refine V_aload_n X dX12_clash_187 5 rfl ?_
                                          refine R_getf X fl_X12_10 hK (0) (rlv (by omega)) rfl rfl dX12_clash_188 ?_
                                          refine V_iload X dX12_clash_191 1 rfl ?_
                                          refine V_callV (rest := []) X E.room ml_X12_97 in_Jx4a65c_get_915e3 (ci := 3) rfl se_Jx4a65c_get_915e3 (rO_list hK (i := 0) (by decide)) (by omega) (by decide) (r_get hK 0 (by decide) (j := i116) (by omega) (by omega)) rfl rfl (Nat.le_of_ble_eq_true rfl) ⟨by omega, by omega⟩ dX12_clash_193 (fun _ _ h => False.elim h) (fun v36 σ' hp37 => ?_)
                                          obtain ⟨hp37, rfl⟩ := hp37
                                          cases (hp37 : _ = some (Value.ref (ad (14 + (i116)))))
                                          show V g κ 8 (0) (0) (t, rO g ad N S G136 σ0) 196 [(6, .int (nI (i136))), (5, .int (nI (i116))), (4, .int (nI (m9))), (3, .int (nI (i25))), (2, .int (nI (b9))), (0, .ref (ad (0))), (1, .int (a1))] [.ref (ad (14 + (i116)))]
                                          refine V_cast X (C := RX8) rfl cl_X12_54 (R_recv hK (q := 14 + (i116)) (rlv (by omega)) (rCell_part (by omega))) dX12_clash_196 ?_
                                          refine R_getf X fl_X12_63 hK (14 + (i116)) (rlv (by omega)) (rCell_part (by omega)) rfl dX12_clash_199 (V.topi (fun x38 ex38 => ?_))
                                          refine V_aload_n X dX12_clash_202 5 rfl ?_
                                          refine R_getf X fl_X12_10 hK (0) (rlv (by omega)) rfl rfl dX12_clash_203 ?_
                                          refine V_iload X dX12_clash_206 0 rfl ?_
                                          refine V_callV (rest := [.int (x38)]) X E.room ml_X12_97 in_Jx4a65c_get_915e3 (ci := 3) rfl se_Jx4a65c_get_915e3 (rO_list hK (i := 0) (by decide)) (by omega) (by decide) (r_get hK 0 (by decide) (j := i136) (by omega) (by omega)) rfl rfl (Nat.le_of_ble_eq_true rfl) ⟨by omega, by omega⟩ dX12_clash_208 (fun _ _ h => False.elim h) (fun v39 σ' hp40 => ?_)
                                          obtain ⟨hp40, rfl⟩ := hp40
                                          cases (hp40 : _ = some (Value.ref (ad (14 + (i136)))))
                                          show V g κ 8 (0) (0) (t, rO g ad N S G136 σ0) 211 [(6, .int (nI (i136))), (5, .int (nI (i116))), (4, .int (nI (m9))), (3, .int (nI (i25))), (2, .int (nI (b9))), (0, .ref (ad (0))), (1, .int (a1))] [.ref (ad (14 + (i136))), .int (x38)]
                                          refine V_cast X (C := RX8) rfl cl_X12_54 (R_recv hK (q := 14 + (i136)) (rlv (by omega)) (rCell_part (by omega))) dX12_clash_211 ?_
                                          refine R_getf X fl_X12_63 hK (14 + (i136)) (rlv (by omega)) (rCell_part (by omega)) rfl dX12_clash_214 (V.topi (fun x41 ex41 => ?_))
                                          refine V_iadd X dX12_clash_217 (V.topi (fun w42 ew42 => ?_))
                                          refine V_aload_n X dX12_clash_218 5 rfl ?_
                                          refine R_getf X fl_X12_19 hK (0) (rlv (by omega)) rfl rfl dX12_clash_219 ?_
                                          refine V_iload_n X dX12_clash_222 4 rfl ?_
                                          refine V_callV (rest := [.int (w42)]) X E.room ml_X12_97 in_Jx4a65c_get_915e3 (ci := 3) rfl se_Jx4a65c_get_915e3 (rO_list hK (i := 2) (by decide)) (by omega) (by decide) (r_get hK 2 (by decide) (j := b9) (by omega) (by omega)) rfl rfl (Nat.le_of_ble_eq_true rfl) ⟨by omega, by omega⟩ dX12_clash_223 (fun _ _ h => False.elim h) (fun v43 σ' hp44 => ?_)
                                          obtain ⟨hp44, rfl⟩ := hp44
                                          cases (hp44 : _ = some (Value.ref (ad (26 + (b9)))))
                                          show V g κ 8 (0) (0) (t, rO g ad N S G136 σ0) 226 [(6, .int (nI (i136))), (5, .int (nI (i116))), (4, .int (nI (m9))), (3, .int (nI (i25))), (2, .int (nI (b9))), (0, .ref (ad (0))), (1, .int (a1))] [.ref (ad (26 + (b9))), .int (w42)]
                                          refine V_cast X (C := RX10) rfl cl_X12_85 (R_recv hK (q := 26 + (b9)) (rlv (by omega)) (rCell_scene (by omega))) dX12_clash_226 ?_
                                          refine R_getf X fl_X12_90 hK (26 + (b9)) (rlv (by omega)) (rCell_scene (by omega)) rfl dX12_clash_229 (V.topi (fun x45 ex45 => ?_))
                                          refine V_icmple X (tgt := 239) dX12_clash_232 (by decide) (fun h46 => ?_) (fun h46 => ?_)
                                          · -- 232 true
                                            have hc : rCh F i116 + rCh F i136 ≤ rPa F b9 := by
                                              unfold rCh rPa
                                              rw [← hJ136 (14 + i116) 2 (s13_f (by omega)), ← hJ136 (14 + i136) 2 (s13_f (by omega)), ← hJ136 (26 + b9) 1 (s13_f (by omega)), ← ex38, ← ex41, ← ex45, ← ew42]; exact h46
                                            refine V_iconst (v := nI 0) X dX12_clash_239 (by decide) ?_
                                            refine V_istore X [(7, .int (nI (0))), (6, .int (nI (i136))), (5, .int (nI (i116))), (4, .int (nI (m9))), (3, .int (nI (i25))), (2, .int (nI (b9))), (0, .ref (ad (0))), (1, .int (a1))] dX12_clash_240 (by decide) rfl ?_
                                            refine V_aload_n X dX12_clash_242 6 rfl ?_
                                            refine R_getf X fl_X12_35 hK (0) (rlv (by omega)) rfl rfl dX12_clash_243 ?_
                                            refine V_iload X dX12_clash_246 2 rfl ?_
                                            refine V_dup2 X dX12_clash_248 rfl rfl ?_
                                            refine R_iald X hK (13) (by omega) (i116) rfl (by omega) dX12_clash_249 ?_
                                            refine V.topi (fun x47 ex47 => ?_)
                                            refine V_iload X dX12_clash_250 0 rfl ?_
                                            refine V_ifeqN X (by omega) (tgt := 262) dX12_clash_252 (by decide) (fun h48 => ?_) (fun h48 => absurd h48 (by omega))
                                            refine V_iconst (v := nI 0) X dX12_clash_262 (by decide) ?_
                                            refine V_ior X dX12_clash_263 (V.topi (fun w49 ew49 => ?_))
                                            refine R_iast X hK (13) (by omega) (i116) rfl (by omega) dX12_clash_264 (fun F50 hF50 => ?_)
                                            have hJF50 := (hJ136 : cRw s13 F G136).set hF50 rfl
                                            refine V_aload_n X dX12_clash_265 6 rfl ?_
                                            refine R_getf X fl_X12_35 hK (0) (rlv (by omega)) rfl rfl dX12_clash_266 ?_
                                            refine V_iload X dX12_clash_269 1 rfl ?_
                                            refine V_dup2 X dX12_clash_271 rfl rfl ?_
                                            refine R_iald X hK (13) (by omega) (i136) rfl (by omega) dX12_clash_272 ?_
                                            refine V.topi (fun x51 ex51 => ?_)
                                            refine V_iload X dX12_clash_273 0 rfl ?_
                                            refine V_ifeqN X (by omega) (tgt := 285) dX12_clash_275 (by decide) (fun h52 => ?_) (fun h52 => absurd h52 (by omega))
                                            refine V_iconst (v := nI 0) X dX12_clash_285 (by decide) ?_
                                            refine V_ior X dX12_clash_286 (V.topi (fun w53 ew53 => ?_))
                                            refine R_iast X hK (13) (by omega) (i136) rfl (by omega) dX12_clash_287 (fun F54 hF54 => ?_)
                                            have hJF54 := (hJF50 : cRw s13 F F50).set hF54 rfl
                                            have hnT : ¬ (mTb (rSp F) (rCh F) (rPa F) (N 0) (N 2) (nI b9) (nI m9)) i116 i136 := by
                                              rintro ⟨b, hb, e, h⟩
                                              have : b9 = b := (nI_eq (by omega) (by omega)).mp e
                                              subst this
                                              exact h.2.2.2.2.2 hc
                                            have hvF54 := mI_no0 (c' := F50 13) (c2 := F54 13) hv136_0 hnT (by rw [hF50, fset_eq, ew49, ex47]) (fun p hp => by rw [hF50, fset_ne (Or.inr hp)]) (by rw [hF54, fset_eq, ew53, ex51]) (fun p hp => by rw [hF54, fset_ne (Or.inr hp)])
                                            refine V_iinc X (nI (i136 + 1)) [(6, .int (nI (i136 + 1))), (7, .int (nI (0))), (5, .int (nI (i116))), (4, .int (nI (m9))), (3, .int (nI (i25))), (2, .int (nI (b9))), (0, .ref (ad (0))), (1, .int (a1))] dX12_clash_288 1 rfl (zinc _) (by decide) rfl ?_
                                            refine V_goto (tgt := 136) X dX12_clash_291 (by decide) ?_
                                            exact V.sub [0, 2, 3, 4, 5, 6, 7] rfl (ih136 _ (by omega) (i136 + 1) F54 rfl (by omega) hJF54 (hvF54))
                                          · -- 232 false
                                            have hc : ¬ rCh F i116 + rCh F i136 ≤ rPa F b9 := by
                                              unfold rCh rPa
                                              rw [← hJ136 (14 + i116) 2 (s13_f (by omega)), ← hJ136 (14 + i136) 2 (s13_f (by omega)), ← hJ136 (26 + b9) 1 (s13_f (by omega)), ← ex38, ← ex41, ← ex45, ← ew42]; exact h46
                                            refine V_iconst (v := nI 1) X dX12_clash_235 (by decide) ?_
                                            refine V_goto (tgt := 240) X dX12_clash_236 (by decide) ?_
                                            refine V_istore X [(7, .int (nI (1))), (6, .int (nI (i136))), (5, .int (nI (i116))), (4, .int (nI (m9))), (3, .int (nI (i25))), (2, .int (nI (b9))), (0, .ref (ad (0))), (1, .int (a1))] dX12_clash_240 (by decide) rfl ?_
                                            refine V_aload_n X dX12_clash_242 6 rfl ?_
                                            refine R_getf X fl_X12_35 hK (0) (rlv (by omega)) rfl rfl dX12_clash_243 ?_
                                            refine V_iload X dX12_clash_246 2 rfl ?_
                                            refine V_dup2 X dX12_clash_248 rfl rfl ?_
                                            refine R_iald X hK (13) (by omega) (i116) rfl (by omega) dX12_clash_249 ?_
                                            refine V.topi (fun x55 ex55 => ?_)
                                            refine V_iload X dX12_clash_250 0 rfl ?_
                                            refine V_ifeqN X (by omega) (tgt := 262) dX12_clash_252 (by decide) (fun h56 => absurd h56 (by omega)) (fun h56 => ?_)
                                            refine V_iconst (v := nI 1) X dX12_clash_255 (by decide) ?_
                                            refine V_iload X dX12_clash_256 1 rfl ?_
                                            refine V_ishl1 X (by omega) dX12_clash_258 ?_
                                            refine V_goto (tgt := 263) X dX12_clash_259 (by decide) ?_
                                            refine V_ior X dX12_clash_263 (V.topi (fun w57 ew57 => ?_))
                                            refine R_iast X hK (13) (by omega) (i116) rfl (by omega) dX12_clash_264 (fun F58 hF58 => ?_)
                                            have hJF58 := (hJ136 : cRw s13 F G136).set hF58 rfl
                                            refine V_aload_n X dX12_clash_265 6 rfl ?_
                                            refine R_getf X fl_X12_35 hK (0) (rlv (by omega)) rfl rfl dX12_clash_266 ?_
                                            refine V_iload X dX12_clash_269 1 rfl ?_
                                            refine V_dup2 X dX12_clash_271 rfl rfl ?_
                                            refine R_iald X hK (13) (by omega) (i136) rfl (by omega) dX12_clash_272 ?_
                                            refine V.topi (fun x59 ex59 => ?_)
                                            refine V_iload X dX12_clash_273 0 rfl ?_
                                            refine V_ifeqN X (by omega) (tgt := 285) dX12_clash_275 (by decide) (fun h60 => absurd h60 (by omega)) (fun h60 => ?_)
                                            refine V_iconst (v := nI 1) X dX12_clash_278 (by decide) ?_
                                            refine V_iload X dX12_clash_279 2 rfl ?_
                                            refine V_ishl1 X (by omega) dX12_clash_281 ?_
                                            refine V_goto (tgt := 286) X dX12_clash_282 (by decide) ?_
                                            refine V_ior X dX12_clash_286 (V.topi (fun w61 ew61 => ?_))
                                            refine R_iast X hK (13) (by omega) (i136) rfl (by omega) dX12_clash_287 (fun F62 hF62 => ?_)
                                            have hJF62 := (hJF58 : cRw s13 F F58).set hF62 rfl
                                            have zs : zIn (rSp F b9) (nI i116) := by show zIn (F (26 + b9) 0) (nI i116); rw [em31]; exact z32
                                            have hvF62 := mI_yes (c' := F58 13) (c2 := F62 13) hv136_0 (by omega) (by omega) hne ⟨b9, hb9, rfl, by omega, by omega, hne, zs, z34, hc⟩ (by rw [hF58, fset_eq, ew57, ex55]) (fun p hp => by rw [hF58, fset_ne (Or.inr hp)]) (by rw [hF62, fset_eq, ew61, ex59]) (fun p hp => by rw [hF62, fset_ne (Or.inr hp)])
                                            refine V_iinc X (nI (i136 + 1)) [(6, .int (nI (i136 + 1))), (7, .int (nI (1))), (5, .int (nI (i116))), (4, .int (nI (m9))), (3, .int (nI (i25))), (2, .int (nI (b9))), (0, .ref (ad (0))), (1, .int (a1))] dX12_clash_288 1 rfl (zinc _) (by decide) rfl ?_
                                            refine V_goto (tgt := 136) X dX12_clash_291 (by decide) ?_
                                            exact V.sub [0, 2, 3, 4, 5, 6, 7] rfl (ih136 _ (by omega) (i136 + 1) F62 rfl (by omega) hJF62 (hvF62))
                                        · -- no
                                          show V g κ 8 (0) (0) (t, rO g ad N S G136 σ0) 184 [(6, .int (nI (i136))), (5, .int (nI (i116))), (4, .int (nI (m9))), (3, .int (nI (i25))), (2, .int (nI (b9))), (0, .ref (ad (0))), (1, .int (a1))] [.int (nI (0))]
                                          refine V_ifeqN X (by omega) (tgt := 239) dX12_clash_184 (by decide) (fun h63 => ?_) (fun h63 => absurd h63 (by omega))
                                          refine V_iconst (v := nI 0) X dX12_clash_239 (by decide) ?_
                                          refine V_istore X [(7, .int (nI (0))), (6, .int (nI (i136))), (5, .int (nI (i116))), (4, .int (nI (m9))), (3, .int (nI (i25))), (2, .int (nI (b9))), (0, .ref (ad (0))), (1, .int (a1))] dX12_clash_240 (by decide) rfl ?_
                                          refine V_aload_n X dX12_clash_242 6 rfl ?_
                                          refine R_getf X fl_X12_35 hK (0) (rlv (by omega)) rfl rfl dX12_clash_243 ?_
                                          refine V_iload X dX12_clash_246 2 rfl ?_
                                          refine V_dup2 X dX12_clash_248 rfl rfl ?_
                                          refine R_iald X hK (13) (by omega) (i116) rfl (by omega) dX12_clash_249 ?_
                                          refine V.topi (fun x64 ex64 => ?_)
                                          refine V_iload X dX12_clash_250 0 rfl ?_
                                          refine V_ifeqN X (by omega) (tgt := 262) dX12_clash_252 (by decide) (fun h65 => ?_) (fun h65 => absurd h65 (by omega))
                                          refine V_iconst (v := nI 0) X dX12_clash_262 (by decide) ?_
                                          refine V_ior X dX12_clash_263 (V.topi (fun w66 ew66 => ?_))
                                          refine R_iast X hK (13) (by omega) (i116) rfl (by omega) dX12_clash_264 (fun F67 hF67 => ?_)
                                          have hJF67 := (hJ136 : cRw s13 F G136).set hF67 rfl
                                          refine V_aload_n X dX12_clash_265 6 rfl ?_
                                          refine R_getf X fl_X12_35 hK (0) (rlv (by omega)) rfl rfl dX12_clash_266 ?_
                                          refine V_iload X dX12_clash_269 1 rfl ?_
                                          refine V_dup2 X dX12_clash_271 rfl rfl ?_
                                          refine R_iald X hK (13) (by omega) (i136) rfl (by omega) dX12_clash_272 ?_
                                          refine V.topi (fun x68 ex68 => ?_)
                                          refine V_iload X dX12_clash_273 0 rfl ?_
                                          refine V_ifeqN X (by omega) (tgt := 285) dX12_clash_275 (by decide) (fun h69 => ?_) (fun h69 => absurd h69 (by omega))
                                          refine V_iconst (v := nI 0) X dX12_clash_285 (by decide) ?_
                                          refine V_ior X dX12_clash_286 (V.topi (fun w70 ew70 => ?_))
                                          refine R_iast X hK (13) (by omega) (i136) rfl (by omega) dX12_clash_287 (fun F71 hF71 => ?_)
                                          have hJF71 := (hJF67 : cRw s13 F F67).set hF71 rfl
                                          have hnT : ¬ (mTb (rSp F) (rCh F) (rPa F) (N 0) (N 2) (nI b9) (nI m9)) i116 i136 := by
                                            rintro ⟨b, hb, e, h⟩
                                            have : b9 = b := (nI_eq (by omega) (by omega)).mp e
                                            subst this
                                            exact z34 h.2.2.2.2.1
                                          have hvF71 := mI_no0 (c' := F67 13) (c2 := F71 13) hv136_0 hnT (by rw [hF67, fset_eq, ew66, ex64]) (fun p hp => by rw [hF67, fset_ne (Or.inr hp)]) (by rw [hF71, fset_eq, ew70, ex68]) (fun p hp => by rw [hF71, fset_ne (Or.inr hp)])
                                          refine V_iinc X (nI (i136 + 1)) [(6, .int (nI (i136 + 1))), (7, .int (nI (0))), (5, .int (nI (i116))), (4, .int (nI (m9))), (3, .int (nI (i25))), (2, .int (nI (b9))), (0, .ref (ad (0))), (1, .int (a1))] dX12_clash_288 1 rfl (zinc _) (by decide) rfl ?_
                                          refine V_goto (tgt := 136) X dX12_clash_291 (by decide) ?_
                                          exact V.sub [0, 2, 3, 4, 5, 6, 7] rfl (ih136 _ (by omega) (i136 + 1) F71 rfl (by omega) hJF71 (hvF71))
                                      · -- no
                                        show V g κ 8 (0) (0) (t, rO g ad N S G136 σ0) 174 [(6, .int (nI (i136))), (5, .int (nI (i116))), (4, .int (nI (m9))), (3, .int (nI (i25))), (2, .int (nI (b9))), (0, .ref (ad (0))), (1, .int (a1))] [.int (nI (0))]
                                        refine V_ifeqN X (by omega) (tgt := 239) dX12_clash_174 (by decide) (fun h72 => ?_) (fun h72 => absurd h72 (by omega))
                                        refine V_iconst (v := nI 0) X dX12_clash_239 (by decide) ?_
                                        refine V_istore X [(7, .int (nI (0))), (6, .int (nI (i136))), (5, .int (nI (i116))), (4, .int (nI (m9))), (3, .int (nI (i25))), (2, .int (nI (b9))), (0, .ref (ad (0))), (1, .int (a1))] dX12_clash_240 (by decide) rfl ?_
                                        refine V_aload_n X dX12_clash_242 6 rfl ?_
                                        refine R_getf X fl_X12_35 hK (0) (rlv (by omega)) rfl rfl dX12_clash_243 ?_
                                        refine V_iload X dX12_clash_246 2 rfl ?_
                                        refine V_dup2 X dX12_clash_248 rfl rfl ?_
                                        refine R_iald X hK (13) (by omega) (i116) rfl (by omega) dX12_clash_249 ?_
                                        refine V.topi (fun x73 ex73 => ?_)
                                        refine V_iload X dX12_clash_250 0 rfl ?_
                                        refine V_ifeqN X (by omega) (tgt := 262) dX12_clash_252 (by decide) (fun h74 => ?_) (fun h74 => absurd h74 (by omega))
                                        refine V_iconst (v := nI 0) X dX12_clash_262 (by decide) ?_
                                        refine V_ior X dX12_clash_263 (V.topi (fun w75 ew75 => ?_))
                                        refine R_iast X hK (13) (by omega) (i116) rfl (by omega) dX12_clash_264 (fun F76 hF76 => ?_)
                                        have hJF76 := (hJ136 : cRw s13 F G136).set hF76 rfl
                                        refine V_aload_n X dX12_clash_265 6 rfl ?_
                                        refine R_getf X fl_X12_35 hK (0) (rlv (by omega)) rfl rfl dX12_clash_266 ?_
                                        refine V_iload X dX12_clash_269 1 rfl ?_
                                        refine V_dup2 X dX12_clash_271 rfl rfl ?_
                                        refine R_iald X hK (13) (by omega) (i136) rfl (by omega) dX12_clash_272 ?_
                                        refine V.topi (fun x77 ex77 => ?_)
                                        refine V_iload X dX12_clash_273 0 rfl ?_
                                        refine V_ifeqN X (by omega) (tgt := 285) dX12_clash_275 (by decide) (fun h78 => ?_) (fun h78 => absurd h78 (by omega))
                                        refine V_iconst (v := nI 0) X dX12_clash_285 (by decide) ?_
                                        refine V_ior X dX12_clash_286 (V.topi (fun w79 ew79 => ?_))
                                        refine R_iast X hK (13) (by omega) (i136) rfl (by omega) dX12_clash_287 (fun F80 hF80 => ?_)
                                        have hJF80 := (hJF76 : cRw s13 F F76).set hF80 rfl
                                        have hnT : ¬ (mTb (rSp F) (rCh F) (rPa F) (N 0) (N 2) (nI b9) (nI m9)) i116 i136 := by
                                          rintro ⟨b, hb, e, h⟩
                                          have : b9 = b := (nI_eq (by omega) (by omega)).mp e
                                          subst this
                                          exact z32 (by have h9 := h.2.2.2.1; unfold rSp at h9; rw [em31] at h9; exact h9)
                                        have hvF80 := mI_no0 (c' := F76 13) (c2 := F80 13) hv136_0 hnT (by rw [hF76, fset_eq, ew75, ex73]) (fun p hp => by rw [hF76, fset_ne (Or.inr hp)]) (by rw [hF80, fset_eq, ew79, ex77]) (fun p hp => by rw [hF80, fset_ne (Or.inr hp)])
                                        refine V_iinc X (nI (i136 + 1)) [(6, .int (nI (i136 + 1))), (7, .int (nI (0))), (5, .int (nI (i116))), (4, .int (nI (m9))), (3, .int (nI (i25))), (2, .int (nI (b9))), (0, .ref (ad (0))), (1, .int (a1))] dX12_clash_288 1 rfl (zinc _) (by decide) rfl ?_
                                        refine V_goto (tgt := 136) X dX12_clash_291 (by decide) ?_
                                        exact V.sub [0, 2, 3, 4, 5, 6, 7] rfl (ih136 _ (by omega) (i136 + 1) F80 rfl (by omega) hJF80 (hvF80))
                              exact L136 _ (0) G116 rfl (by omega) hJ116 (hv116_0)
                      exact L116 _ (0) G66 rfl (by omega) hJ66 (mI_0 (mJ_end hv66_0 (show i66 = N 0 by omega) (fun p q h => h.1)))
                    · -- 75 false
                      refine V_iload X dX12_clash_78 1 rfl ?_
                      refine V_iload X dX12_clash_80 0 rfl ?_
                      refine V_callS (rest := []) X E.room ml_X12_159 st_X12_isIn (by omega) (by decide) (k_X12_isIn (σ := (t, rO g ad N S G66 σ0)) (nI (m9)) (nI (i66))) rfl rfl (Nat.le_of_ble_eq_true rfl) ⟨by omega, by omega⟩ dX12_clash_82 (fun _ _ h => False.elim h) (fun v82 σ' hp82 => ?_)
                      obtain ⟨hp82, rfl⟩ := hp82
                      rcases hp82 with ⟨rfl, z81⟩ | ⟨rfl, z81⟩
                      · -- yes
                        show V g κ 8 (0) (0) (t, rO g ad N S G66 σ0) 85 [(5, .int (nI (i66))), (4, .int (nI (m9))), (3, .int (nI (i25))), (2, .int (x25_2)), (0, .ref (ad (0))), (1, .int (a1))] [.int (nI (1))]
                        refine V_ifeqN X (by omega) (tgt := 107) dX12_clash_85 (by decide) (fun h82 => absurd h82 (by omega)) (fun h82 => ?_)
                        refine V_aload_n X dX12_clash_88 4 rfl ?_
                        refine R_getf X fl_X12_35 hK (0) (rlv (by omega)) rfl rfl dX12_clash_89 ?_
                        refine V_iload X dX12_clash_92 0 rfl ?_
                        refine V_dup2 X dX12_clash_94 rfl rfl ?_
                        refine R_iald X hK (13) (by omega) (i66) rfl (by omega) dX12_clash_95 ?_
                        refine V.topi (fun x83 ex83 => ?_)
                        refine V_iload X dX12_clash_96 1 rfl ?_
                        refine V_iconst (v := nI 1) X dX12_clash_98 (by decide) ?_
                        refine V_iload X dX12_clash_99 0 rfl ?_
                        refine V_ishl1 X (by omega) dX12_clash_101 ?_
                        refine V_iconst (v := (-1)) X dX12_clash_102 (by decide) ?_
                        refine V_ixor X dX12_clash_103 (V.topi (fun w84 ew84 => ?_))
                        refine V_iand X dX12_clash_104 (V.topi (fun w85 ew85 => ?_))
                        refine V_ior X dX12_clash_105 (V.topi (fun w86 ew86 => ?_))
                        refine R_iast X hK (13) (by omega) (i66) rfl (by omega) dX12_clash_106 (fun F87 hF87 => ?_)
                        have hJF87 := (hJ66 : cRw s13 F G66).set hF87 rfl
                        have hyF87 : zMk w85 (mTog (N 0) (nI m9) i66) := by rw [ew85, ew84]; exact ((zMk_selfP b0 hm9).rm (by omega)).cg (fun q => ⟨fun z => ⟨by omega, z.1.1, z.2, z81, z.1.2⟩, fun z => ⟨⟨z.2.1, z.2.2.2.2⟩, z.2.2.1⟩⟩)
                        have hvF87 := mJ_yes (c' := F87 13) hv66_0 (by omega) hyF87 (by rw [hF87, fset_eq, ew86, ex83]) (fun p hp => by rw [hF87, fset_ne (Or.inr hp)])
                        refine V_iinc X (nI (i66 + 1)) [(5, .int (nI (i66 + 1))), (4, .int (nI (m9))), (3, .int (nI (i25))), (2, .int (x25_2)), (0, .ref (ad (0))), (1, .int (a1))] dX12_clash_107 0 rfl (zinc _) (by decide) rfl ?_
                        refine V_goto (tgt := 66) X dX12_clash_110 (by decide) ?_
                        exact V.sub [0, 1, 2, 3, 4, 5] rfl (ih66 _ (by omega) (i66 + 1) F87 rfl (by omega) hJF87 (hvF87))
                      · -- no
                        show V g κ 8 (0) (0) (t, rO g ad N S G66 σ0) 85 [(5, .int (nI (i66))), (4, .int (nI (m9))), (3, .int (nI (i25))), (2, .int (x25_2)), (0, .ref (ad (0))), (1, .int (a1))] [.int (nI (0))]
                        refine V_ifeqN X (by omega) (tgt := 107) dX12_clash_85 (by decide) (fun h88 => ?_) (fun h88 => absurd h88 (by omega))
                        refine V_iinc X (nI (i66 + 1)) [(5, .int (nI (i66 + 1))), (4, .int (nI (m9))), (3, .int (nI (i25))), (2, .int (x25_2)), (0, .ref (ad (0))), (1, .int (a1))] dX12_clash_107 0 rfl (zinc _) (by decide) rfl ?_
                        refine V_goto (tgt := 66) X dX12_clash_110 (by decide) ?_
                        exact V.sub [0, 1, 2, 3, 4, 5] rfl (ih66 _ (by omega) (i66 + 1) G66 rfl (by omega) hJ66 (mJ_no hv66_0 (fun q h => z81 h.2.2.2.1)))
                exact L66 _ (0) G25 rfl (by omega) hJ25 (mJ_0 hv25_1)
              · -- no
                show V g κ 8 (0) (0) (t, rO g ad N S G25 σ0) 41 [(3, .int (nI (i25))), (2, .int (x25_2)), (0, .ref (ad (0))), (1, .int (a1))] [.int (nI (0))]
                refine V_ifneN X (by omega) (tgt := 47) dX12_clash_41 (by decide) (fun h89 => absurd h89 (by omega)) (fun h89 => ?_)
                refine V_goto (tgt := 302) X dX12_clash_44 (by decide) ?_
                refine V_iinc X (nI (i25 + 1)) [(3, .int (nI (i25 + 1))), (2, .int (x25_2)), (0, .ref (ad (0))), (1, .int (a1))] dX12_clash_302 0 rfl (zinc _) (by decide) rfl ?_
                refine V_goto (tgt := 25) X dX12_clash_305 (by decide) ?_
                exact V.sub [0, 1, 2, 3] rfl (ih25 _ (by omega) (i25 + 1) (x25_2) G25 rfl (by omega) hJ25 ((hv25_0.imp (fun y => ⟨y.1, mBn_s y.2 z5⟩) (fun ⟨b, y1, y2, y3⟩ => ⟨b, y1, y2, mBf_s y3 z5⟩))) (mCl_no hv25_1 z5))
        exact L25 _ (0) (-1) G2 rfl (by omega) hJ2 (Or.inl ⟨rfl, mBn_0⟩) (mCl_0 (fun p hp => hv2_0 p (by omega)))
      · -- 5 false
        refine V_aload_n X dX12_clash_8 1 rfl ?_
        refine R_getf X fl_X12_35 hK (0) (rlv (by omega)) rfl rfl dX12_clash_9 ?_
        refine V_iload_n X dX12_clash_12 0 rfl ?_
        refine V_iconst (v := nI 0) X dX12_clash_13 (by decide) ?_
        refine R_iast X hK (13) (by omega) (i2) rfl (by omega) dX12_clash_14 (fun F90 hF90 => ?_)
        have hJF90 := (hJ2 : cRw s13 F G2).set hF90 rfl
        have hvF90 : ∀ p, p < i2 + 1 → F90 13 p = nI 0 := fun p hp => by
          by_cases e : p = i2
          · rw [e, hF90, fset_eq]
          · rw [hF90, fset_ne (Or.inr e)]; exact hv2_0 p (by omega)
        refine V_iinc X (nI (i2 + 1)) [(2, .int (nI (i2 + 1))), (0, .ref (ad (0))), (1, .int (a1))] dX12_clash_15 0 rfl (zinc _) (by decide) rfl ?_
        refine V_goto (tgt := 2) X dX12_clash_18 (by decide) ?_
        exact V.sub [0, 1, 2] rfl (ih2 _ (by omega) (i2 + 1) F90 rfl (by omega) hJF90 (hvF90))
  exact L2 _ (0) F rfl (by omega) cRw.rfl' (fun p hp => absurd hp (Nat.not_lt_zero p))
set_option maxRecDepth 100000 in
set_option maxHeartbeats 4000000 in
theorem k_X12_partsOf_x {g : zG} {t : Nat × Nat} {ad N : Nat → Nat} {S : Int64} {σ0 : Nat → Option va_E} {F : Nat → Nat → Int32} (hK : rK g ad N) (hI : rI N F) (a1 : Int32) : Ct g 13 yX12_partsOf cX12_partsOf 4 (some FieldType.int) 0 0 [.ref (ad (0)), .int (a1)] (t, rO g ad N S F σ0) (fun v σ' => (∃ m, v = some (.int (nI m)) ∧ m < 128 ∧ zMk (nI m) (mDu (rSp F) a1 (N 2))) ∧ σ' = (t, rO g ad N S F σ0)) zNo := by
  refine Ct.of (lv := [(0, .ref (ad (0))), (1, .int (a1))]) (by decide) (Nat.le_of_ble_eq_true rfl) rfl ?_
  intro κ X E B _
  have X : zX g κ RX12 cX12_partsOf 4 := X
  obtain ⟨b0, b1, b2, b3, b4⟩ := hI.bnd
  refine V_iconst (v := nI 0) X dX12_partsOf_0 (by decide) ?_
  refine V_istore_n X [(2, .int (nI (0))), (0, .ref (ad (0))), (1, .int (a1))] dX12_partsOf_1 (by decide) rfl ?_
  refine V_iconst (v := nI 0) X dX12_partsOf_2 (by decide) ?_
  refine V_istore_n X [(3, .int (nI (0))), (2, .int (nI (0))), (0, .ref (ad (0))), (1, .int (a1))] dX12_partsOf_3 (by decide) rfl ?_
  have L4 : ∀ (n4 : Nat) (i4 : Nat) (y4_2 : Nat), n4 = N 2 - i4 → i4 ≤ N 2 → y4_2 < 128 → (zMk (nI y4_2) (mDu (rSp F) a1 i4)) → V g κ 4 (0) (0) (t, rO g ad N S F σ0) 4 [(3, .int (nI (i4))), (2, .int (nI (y4_2))), (0, .ref (ad (0))), (1, .int (a1))] [] := by
    intro n4
    induction n4 using Nat.strongRecOn with
    | ind n4 ih4 =>
      intro i4 y4_2 hn4 hi4 hy4_2 hv4_0
      refine V_iload_n X dX12_partsOf_4 0 rfl ?_
      refine V_aload_n X dX12_partsOf_5 2 rfl ?_
      refine R_getf X fl_X12_19 hK (0) (rlv (by omega)) rfl rfl dX12_partsOf_6 ?_
      refine V_callV (rest := [.int (nI (i4))]) X E.room ml_X12_42 in_Jx4a65c_size_8abf5 (ci := 3) rfl se_Jx4a65c_size_8abf5 (rO_list hK (i := 2) (by decide)) (by omega) (by decide) (r_size hK 2 (by decide)) rfl rfl (Nat.le_of_ble_eq_true rfl) ⟨by omega, by omega⟩ dX12_partsOf_9 (fun _ _ h => False.elim h) (fun v1 σ' hp2 => ?_)
      obtain ⟨hp2, rfl⟩ := hp2
      cases (hp2 : _ = some (Value.int (nI (N 2))))
      show V g κ 4 (0) (0) (t, rO g ad N S F σ0) 12 [(3, .int (nI (i4))), (2, .int (nI (y4_2))), (0, .ref (ad (0))), (1, .int (a1))] [.int (nI (N 2)), .int (nI (i4))]
      refine V_icmpgeN X (by omega) (by omega) (tgt := 50) dX12_partsOf_12 (by decide) (fun h3 => ?_) (fun h3 => ?_)
      · -- 12 true
        refine V_iload_n X dX12_partsOf_50 1 rfl ?_
        exact V_iret X E (by omega) (by omega) ⟨⟨_, rfl, hy4_2, by rw [← show i4 = N 2 by omega]; exact hv4_0⟩, rfl⟩ dX12_partsOf_51
      · -- 12 false
        refine V_iload_n X dX12_partsOf_15 1 rfl ?_
        refine V_iload_n X dX12_partsOf_16 3 rfl ?_
        refine V_iload_n X dX12_partsOf_17 0 rfl ?_
        refine V_callS (rest := [.int (nI (y4_2))]) X E.room ml_X12_159 st_X12_isIn (by omega) (by decide) (k_X12_isIn (σ := (t, rO g ad N S F σ0)) (a1) (nI (i4))) rfl rfl (Nat.le_of_ble_eq_true rfl) ⟨by omega, by omega⟩ dX12_partsOf_18 (fun _ _ h => False.elim h) (fun v18 σ' hp18 => ?_)
        obtain ⟨hp18, rfl⟩ := hp18
        rcases hp18 with ⟨rfl, z4⟩ | ⟨rfl, z4⟩
        · -- yes
          show V g κ 4 (0) (0) (t, rO g ad N S F σ0) 21 [(3, .int (nI (i4))), (2, .int (nI (y4_2))), (0, .ref (ad (0))), (1, .int (a1))] [.int (nI (1)), .int (nI (y4_2))]
          refine V_ifeqN X (by omega) (tgt := 41) dX12_partsOf_21 (by decide) (fun h5 => absurd h5 (by omega)) (fun h5 => ?_)
          refine V_aload_n X dX12_partsOf_24 2 rfl ?_
          refine R_getf X fl_X12_19 hK (0) (rlv (by omega)) rfl rfl dX12_partsOf_25 ?_
          refine V_iload_n X dX12_partsOf_28 0 rfl ?_
          refine V_callV (rest := [.int (nI (y4_2))]) X E.room ml_X12_97 in_Jx4a65c_get_915e3 (ci := 3) rfl se_Jx4a65c_get_915e3 (rO_list hK (i := 2) (by decide)) (by omega) (by decide) (r_get hK 2 (by decide) (j := i4) (by omega) (by omega)) rfl rfl (Nat.le_of_ble_eq_true rfl) ⟨by omega, by omega⟩ dX12_partsOf_29 (fun _ _ h => False.elim h) (fun v6 σ' hp7 => ?_)
          obtain ⟨hp7, rfl⟩ := hp7
          cases (hp7 : _ = some (Value.ref (ad (26 + (i4)))))
          show V g κ 4 (0) (0) (t, rO g ad N S F σ0) 32 [(3, .int (nI (i4))), (2, .int (nI (y4_2))), (0, .ref (ad (0))), (1, .int (a1))] [.ref (ad (26 + (i4))), .int (nI (y4_2))]
          refine V_cast X (C := RX10) rfl cl_X12_85 (R_recv hK (q := 26 + (i4)) (rlv (by omega)) (rCell_scene (by omega))) dX12_partsOf_32 ?_
          obtain ⟨m8, hm8, em8⟩ := hI.sp (i4) (by omega)
          have gm8 : m8 < 128 := Nat.lt_of_lt_of_le hm8 (zp2 (n := 7) (by omega))
          refine R_getfN (z := nI (m8)) X fl_X12_88 hK (26 + (i4)) (rlv (by omega)) (rCell_scene (by omega)) rfl em8 dX12_partsOf_35 ?_
          refine V_goto (tgt := 42) X dX12_partsOf_38 (by decide) ?_
          refine V_iorN X dX12_partsOf_42 ?_
          refine V_istore_n X [(2, .int (nI ((y4_2) ||| (m8)))), (3, .int (nI (i4))), (0, .ref (ad (0))), (1, .int (a1))] dX12_partsOf_43 (by decide) rfl ?_
          refine V_iinc X (nI (i4 + 1)) [(3, .int (nI (i4 + 1))), (2, .int (nI ((y4_2) ||| (m8)))), (0, .ref (ad (0))), (1, .int (a1))] dX12_partsOf_44 1 rfl (zinc _) (by decide) rfl ?_
          refine V_goto (tgt := 4) X dX12_partsOf_47 (by decide) ?_
          exact V.sub [0, 1, 2, 3] rfl (ih4 _ (by omega) (i4 + 1) ((y4_2) ||| (m8)) rfl (by omega) (by first | exact Nat.or_lt_two_pow (n := 7) hy4_2 (by assumption) | exact Nat.or_lt_two_pow (n := 7) hy4_2 (by decide)) (by rw [← nI_orN]; exact mDu_yes hv4_0 z4 gm8 em8))
        · -- no
          show V g κ 4 (0) (0) (t, rO g ad N S F σ0) 21 [(3, .int (nI (i4))), (2, .int (nI (y4_2))), (0, .ref (ad (0))), (1, .int (a1))] [.int (nI (0)), .int (nI (y4_2))]
          refine V_ifeqN X (by omega) (tgt := 41) dX12_partsOf_21 (by decide) (fun h9 => ?_) (fun h9 => absurd h9 (by omega))
          refine V_iconst (v := nI 0) X dX12_partsOf_41 (by decide) ?_
          refine V_iorN X dX12_partsOf_42 ?_
          refine V_istore_n X [(2, .int (nI ((y4_2) ||| (0)))), (3, .int (nI (i4))), (0, .ref (ad (0))), (1, .int (a1))] dX12_partsOf_43 (by decide) rfl ?_
          refine V_iinc X (nI (i4 + 1)) [(3, .int (nI (i4 + 1))), (2, .int (nI ((y4_2) ||| (0)))), (0, .ref (ad (0))), (1, .int (a1))] dX12_partsOf_44 1 rfl (zinc _) (by decide) rfl ?_
          refine V_goto (tgt := 4) X dX12_partsOf_47 (by decide) ?_
          exact V.sub [0, 1, 2, 3] rfl (ih4 _ (by omega) (i4 + 1) ((y4_2) ||| (0)) rfl (by omega) (by first | exact Nat.or_lt_two_pow (n := 7) hy4_2 (by assumption) | exact Nat.or_lt_two_pow (n := 7) hy4_2 (by decide)) (by rw [Nat.or_zero]; exact mDu_no hv4_0 z4))
  exact L4 _ (0) (0) rfl (by omega) (by decide) (mDu_0)
set_option maxRecDepth 100000 in
set_option maxHeartbeats 4000000 in
theorem k_X12_needs_x {g : zG} {t : Nat × Nat} {ad N : Nat → Nat} {S : Int64} {σ0 : Nat → Option va_E} {F : Nat → Nat → Int32} (hK : rK g ad N) (hI : rI N F) (a1 : Int32) : Ct g 24 yX12_needs cX12_needs 4 (some FieldType.int) 0 0 [.ref (ad (0)), .int (a1)] (t, rO g ad N S F σ0) (fun v σ' => ∃ x : Int32, v = some (.int x) ∧ ∃ F' : Nat → Nat → Int32, σ' = (t, rO g ad N S F' σ0) ∧ rJ F F' ∧ F' 0 0 = F 0 0 ∧ rNd N F a1 x F') zNo := by
  refine Ct.of (lv := [(0, .ref (ad (0))), (1, .int (a1))]) (by decide) (Nat.le_of_ble_eq_true rfl) rfl ?_
  intro κ X E B _
  have X : zX g κ RX12 cX12_needs 4 := X
  obtain ⟨b0, b1, b2, b3, b4⟩ := hI.bnd
  refine V_aload_n X dX12_needs_0 0 rfl ?_
  refine V_iload_n X dX12_needs_1 1 rfl ?_
  refine V_callV (rest := []) X E.room ml_X12_175 in_X12_clash (ci := 16) rfl se_X12_clash (R_recv hK (q := 0) (rlv (by omega)) rfl) (by omega) (by decide) (k_X12_clash_x hK hI (a1)) rfl rfl (Nat.le_of_ble_eq_true rfl) ⟨by omega, by omega⟩ dX12_needs_2 (fun _ _ h => False.elim h) (fun v2 σ' hp2 => ?_)
  obtain ⟨hp2, F1, rfl, hJF1, hVF1⟩ := hp2
  have hKF1 : rJ F F1 := hJF1.rJ s13R
  have h00 : F1 0 0 = F 0 0 := hJF1 0 0 rfl
  cases (hp2 : _ = none)
  show V g κ 4 (0) (0) (t, rO g ad N S F1 σ0) 5 [(0, .ref (ad (0))), (1, .int (a1))] []
  refine V_aload_n X dX12_needs_5 0 rfl ?_
  refine V_iload_n X dX12_needs_6 1 rfl ?_
  refine V_callV (rest := []) X E.room ml_X12_179 in_X12_partsOf (ci := 16) rfl se_X12_partsOf (R_recv hK (q := 0) (rlv (by omega)) rfl) (by omega) (by decide) (k_X12_partsOf_x hK (hI.mv hKF1) (a1)) rfl rfl (Nat.le_of_ble_eq_true rfl) ⟨by omega, by omega⟩ dX12_needs_7 (fun _ _ h => False.elim h) (fun v7 σ' hp7 => ?_)
  obtain ⟨hp7, rfl⟩ := hp7
  obtain ⟨m2, rfl, gm2, hzm2⟩ := hp7
  show V g κ 4 (0) (0) (t, rO g ad N S F1 σ0) 10 [(0, .ref (ad (0))), (1, .int (a1))] [.int (nI (m2))]
  refine V_istore_n X [(2, .int (nI (m2))), (0, .ref (ad (0))), (1, .int (a1))] dX12_needs_10 (by decide) rfl ?_
  refine V_aload_n X dX12_needs_11 1 rfl ?_
  refine V_iconst (v := nI 0) X dX12_needs_12 (by decide) ?_
  refine V_iload_n X dX12_needs_13 0 rfl ?_
  refine V_iconst (v := nI 0) X dX12_needs_14 (by decide) ?_
  refine V_aload_n X dX12_needs_15 1 rfl ?_
  refine R_getf X fl_X12_16 hK (0) (rlv (by omega)) rfl rfl dX12_needs_16 ?_
  refine V_callV (rest := [.int (nI (0)), .int (nI (m2)), .int (nI (0)), .ref (ad (0))]) X E.room ml_X12_42 in_Jx4a65c_size_8abf5 (ci := 3) rfl se_Jx4a65c_size_8abf5 (rO_list hK (i := 1) (by decide)) (by omega) (by decide) (r_size hK 1 (by decide)) rfl rfl (Nat.le_of_ble_eq_true rfl) ⟨by omega, by omega⟩ dX12_needs_19 (fun _ _ h => False.elim h) (fun v3 σ' hp4 => ?_)
  obtain ⟨hp4, rfl⟩ := hp4
  cases (hp4 : _ = some (Value.int (nI (N 1))))
  show V g κ 4 (0) (0) (t, rO g ad N S F1 σ0) 22 [(2, .int (nI (m2))), (0, .ref (ad (0))), (1, .int (a1))] [.int (nI (N 1)), .int (nI (0)), .int (nI (m2)), .int (nI (0)), .ref (ad (0))]
  have hI9 : rI N F1 := hI.mv hKF1
  have hz9 : zMk (nI m2) (mDu (rSp F) a1 (N 2)) := by rw [← show rSp F1 = rSp F from funext fun s => hKF1 (26 + s) 0 (rsc_f (by omega))]; exact hzm2
  have hfit : ∀ k, k ≤ 5 → (fCan N F1 (nI m2) (nI k) (N 0) 0 (nI 0) (F1 12) ↔ (mFit (fun i p => i < N 1 ∧ zPl F i p) (mCl (rSp F) (rCh F) (rPa F) (N 0) a1 (N 2)) (mDu (rSp F) a1 (N 2)) k)) := fun k hk => by
    rw [← hKF1.pl]
    exact fCan_fit b0 b1 hk (fun _ _ h => h.symm) hVF1 (fun p hp => hz9.In (by omega)) (fun p hp => rDu_lt hI hp)
  have hfst : ∀ k, k ≤ 5 → ∀ fo : Nat → Int32, fFst N F1 (nI m2) (nI k) (N 0) 0 (nI 0) (F1 12) fo → ∃ h : Nat → Nat, mFirst (fun i p => i < N 1 ∧ zPl F i p) (mCl (rSp F) (rCh F) (rPa F) (N 0) a1 (N 2)) (dL (mDu (rSp F) a1 (N 2)) 7 0) (fun _ _ => False) k h ∧ ∀ p, p < N 0 → ((mDu (rSp F) a1 (N 2)) p → fo p = nI (h p)) ∧ (¬ (mDu (rSp F) a1 (N 2)) p → fo p = -1) := fun k hk fo hf => by
    rw [← hKF1.pl]
    exact fFst_first b0 b1 hk (fun _ _ h => h.symm) hVF1 (fun p hp => hz9.In (by omega)) (fun p hp => rDu_lt hI hp) hf
  refine V_callV (rest := []) X E.room ml_X12_166 in_X12_fills (ci := 16) rfl se_X12_fills (R_recv hK (q := 0) (rlv (by omega)) rfl) (by omega) (by decide) (k_X12_fills hK (N 0) hI9 0 (by omega) (nI (m2)) (nI (0)) (nI (N 1))) rfl rfl (Nat.le_of_ble_eq_true rfl) ⟨by omega, by omega⟩ dX12_needs_22 (fun _ _ h => False.elim h) (fun v22 σ' hp22 => ?_)
  obtain ⟨F5, rfl, hwF5, hpF5⟩ := hp22
  have hJF5 : zRw 0 F1 F5 := (zRw.rfl' : zRw 0 F1 F1).tr0 hwF5
  rcases hpF5 with ⟨rfl, cF5, cF5o, cF5f⟩ | ⟨rfl, cF5⟩
  · -- filled
    have hfF5 : (mFit (fun i p => i < N 1 ∧ zPl F i p) (mCl (rSp F) (rCh F) (rPa F) (N 0) a1 (N 2)) (mDu (rSp F) a1 (N 2)) (N 1)) := (hfit (N 1) (by omega)).mp (fCan_0 (zRw.rfl' : zRw 0 F1 F1).symm0 cF5)
    have hrF5 := hfst (N 1) (by omega) _ (fFst_0 (zRw.rfl' : zRw 0 F1 F1) cF5f)
    show V g κ 4 (0) (0) (t, rO g ad N S F5 σ0) 25 [(2, .int (nI (m2))), (0, .ref (ad (0))), (1, .int (a1))] [.int (nI (1))]
    refine V_ifneN X (by omega) (tgt := 30) dX12_needs_25 (by decide) (fun h6 => ?_) (fun h6 => absurd h6 (by omega))
    refine V_iconst (v := nI 0) X dX12_needs_30 (by decide) ?_
    refine V_istore_n X [(3, .int (nI (0))), (2, .int (nI (m2))), (0, .ref (ad (0))), (1, .int (a1))] dX12_needs_31 (by decide) rfl ?_
    have L32 : ∀ (n32 : Nat) (i32 : Nat) (G32 : Nat → Nat → Int32), n32 = N 1 - i32 → i32 ≤ N 1 → zRw 0 F1 G32 → ((∀ j, j < i32 → ¬ (mFit (fun i p => i < N 1 ∧ zPl F i p) (mCl (rSp F) (rCh F) (rPa F) (N 0) a1 (N 2)) (mDu (rSp F) a1 (N 2)) j))) → V g κ 4 (0) (0) (t, rO g ad N S G32 σ0) 32 [(3, .int (nI (i32))), (2, .int (nI (m2))), (0, .ref (ad (0))), (1, .int (a1))] [] := by
      intro n32
      induction n32 using Nat.strongRecOn with
      | ind n32 ih32 =>
        intro i32 G32 hn32 hi32 hJ32 hv32_0
        refine V_iload_n X dX12_needs_32 0 rfl ?_
        refine V_aload_n X dX12_needs_33 2 rfl ?_
        refine R_getf X fl_X12_16 hK (0) (rlv (by omega)) rfl rfl dX12_needs_34 ?_
        refine V_callV (rest := [.int (nI (i32))]) X E.room ml_X12_42 in_Jx4a65c_size_8abf5 (ci := 3) rfl se_Jx4a65c_size_8abf5 (rO_list hK (i := 1) (by decide)) (by omega) (by decide) (r_size hK 1 (by decide)) rfl rfl (Nat.le_of_ble_eq_true rfl) ⟨by omega, by omega⟩ dX12_needs_37 (fun _ _ h => False.elim h) (fun v7 σ' hp8 => ?_)
        obtain ⟨hp8, rfl⟩ := hp8
        cases (hp8 : _ = some (Value.int (nI (N 1))))
        show V g κ 4 (0) (0) (t, rO g ad N S G32 σ0) 40 [(3, .int (nI (i32))), (2, .int (nI (m2))), (0, .ref (ad (0))), (1, .int (a1))] [.int (nI (N 1)), .int (nI (i32))]
        refine V_icmpgeN X (by omega) (by omega) (tgt := 62) dX12_needs_40 (by decide) (fun h9 => ?_) (fun h9 => ?_)
        · -- 40 true
          refine V_aload_n X dX12_needs_62 2 rfl ?_
          refine V_iconst (v := nI 0) X dX12_needs_63 (by decide) ?_
          refine V_iload_n X dX12_needs_64 1 rfl ?_
          refine V_iconst (v := nI 0) X dX12_needs_65 (by decide) ?_
          refine V_aload_n X dX12_needs_66 2 rfl ?_
          refine R_getf X fl_X12_16 hK (0) (rlv (by omega)) rfl rfl dX12_needs_67 ?_
          refine V_callV (rest := [.int (nI (0)), .int (nI (m2)), .int (nI (0)), .ref (ad (0))]) X E.room ml_X12_42 in_Jx4a65c_size_8abf5 (ci := 3) rfl se_Jx4a65c_size_8abf5 (rO_list hK (i := 1) (by decide)) (by omega) (by decide) (r_size hK 1 (by decide)) rfl rfl (Nat.le_of_ble_eq_true rfl) ⟨by omega, by omega⟩ dX12_needs_70 (fun _ _ h => False.elim h) (fun v10 σ' hp11 => ?_)
          obtain ⟨hp11, rfl⟩ := hp11
          cases (hp11 : _ = some (Value.int (nI (N 1))))
          show V g κ 4 (0) (0) (t, rO g ad N S G32 σ0) 73 [(3, .int (nI (i32))), (2, .int (nI (m2))), (0, .ref (ad (0))), (1, .int (a1))] [.int (nI (N 1)), .int (nI (0)), .int (nI (m2)), .int (nI (0)), .ref (ad (0))]
          refine V_callV (rest := []) X E.room ml_X12_166 in_X12_fills (ci := 16) rfl se_X12_fills (R_recv hK (q := 0) (rlv (by omega)) rfl) (by omega) (by decide) (k_X12_fills hK (N 0) (hI9.mv (hJ32).j) 0 (by omega) (nI (m2)) (nI (0)) (nI (N 1))) rfl rfl (Nat.le_of_ble_eq_true rfl) ⟨by omega, by omega⟩ dX12_needs_73 (fun _ _ h => False.elim h) (fun v73 σ' hp73 => ?_)
          obtain ⟨F12, rfl, hwF12, hpF12⟩ := hp73
          have hJF12 : zRw 0 F1 F12 := (hJ32 : zRw 0 F1 G32).tr0 hwF12
          rcases hpF12 with ⟨rfl, cF12, cF12o, cF12f⟩ | ⟨rfl, cF12⟩
          · -- filled
            have hrF12 := hfst (N 1) (by omega) _ (fFst_0 (hJ32 : zRw 0 F1 G32) cF12f)
            show V g κ 4 (0) (0) (t, rO g ad N S F12 σ0) 76 [(3, .int (nI (i32))), (2, .int (nI (m2))), (0, .ref (ad (0))), (1, .int (a1))] [.int (nI (1))]
            refine V_pop X dX12_needs_76 rfl ?_
            refine V_aload_n X dX12_needs_77 2 rfl ?_
            refine R_getf X fl_X12_16 hK (0) (rlv (by omega)) rfl rfl dX12_needs_78 ?_
            refine V_callV (rest := []) X E.room ml_X12_42 in_Jx4a65c_size_8abf5 (ci := 3) rfl se_Jx4a65c_size_8abf5 (rO_list hK (i := 1) (by decide)) (by omega) (by decide) (r_size hK 1 (by decide)) rfl rfl (Nat.le_of_ble_eq_true rfl) ⟨by omega, by omega⟩ dX12_needs_81 (fun _ _ h => False.elim h) (fun v13 σ' hp14 => ?_)
            obtain ⟨hp14, rfl⟩ := hp14
            cases (hp14 : _ = some (Value.int (nI (N 1))))
            show V g κ 4 (0) (0) (t, rO g ad N S F12 σ0) 84 [(3, .int (nI (i32))), (2, .int (nI (m2))), (0, .ref (ad (0))), (1, .int (a1))] [.int (nI (N 1))]
            exact V_iret X E (by omega) (by omega) ⟨_, rfl, _, rfl, (hKF1 : rJ F F1).trans (hJF12).j, (congrFun ((hJF12).1 0 (by decide)) 0).trans h00, Or.inr ⟨N 1, by omega, rfl, fun j hj => hv32_0 j (by omega), hrF12⟩⟩ dX12_needs_84
          · exact absurd (fCan_0 (hJ32 : zRw 0 F1 G32) cF5) cF12
        · -- 40 false
          refine V_aload_n X dX12_needs_43 2 rfl ?_
          refine V_iconst (v := nI 0) X dX12_needs_44 (by decide) ?_
          refine V_iload_n X dX12_needs_45 1 rfl ?_
          refine V_iconst (v := nI 0) X dX12_needs_46 (by decide) ?_
          refine V_iload_n X dX12_needs_47 0 rfl ?_
          refine V_callV (rest := []) X E.room ml_X12_166 in_X12_fills (ci := 16) rfl se_X12_fills (R_recv hK (q := 0) (rlv (by omega)) rfl) (by omega) (by decide) (k_X12_fills hK (N 0) (hI9.mv (hJ32).j) 0 (by omega) (nI (m2)) (nI (0)) (nI (i32))) rfl rfl (Nat.le_of_ble_eq_true rfl) ⟨by omega, by omega⟩ dX12_needs_48 (fun _ _ h => False.elim h) (fun v48 σ' hp48 => ?_)
          obtain ⟨F15, rfl, hwF15, hpF15⟩ := hp48
          have hJF15 : zRw 0 F1 F15 := (hJ32 : zRw 0 F1 G32).tr0 hwF15
          rcases hpF15 with ⟨rfl, cF15, cF15o, cF15f⟩ | ⟨rfl, cF15⟩
          · -- filled
            have hfF15 : (mFit (fun i p => i < N 1 ∧ zPl F i p) (mCl (rSp F) (rCh F) (rPa F) (N 0) a1 (N 2)) (mDu (rSp F) a1 (N 2)) (i32)) := (hfit (i32) (by omega)).mp (fCan_0 (hJ32 : zRw 0 F1 G32).symm0 cF15)
            have hrF15 := hfst (i32) (by omega) _ (fFst_0 (hJ32 : zRw 0 F1 G32) cF15f)
            show V g κ 4 (0) (0) (t, rO g ad N S F15 σ0) 51 [(3, .int (nI (i32))), (2, .int (nI (m2))), (0, .ref (ad (0))), (1, .int (a1))] [.int (nI (1))]
            refine V_ifeqN X (by omega) (tgt := 56) dX12_needs_51 (by decide) (fun h16 => absurd h16 (by omega)) (fun h16 => ?_)
            refine V_iload_n X dX12_needs_54 0 rfl ?_
            exact V_iret X E (by omega) (by omega) ⟨_, rfl, _, rfl, (hKF1 : rJ F F1).trans (hJF15).j, (congrFun ((hJF15).1 0 (by decide)) 0).trans h00, Or.inr ⟨i32, by omega, rfl, hv32_0, hrF15⟩⟩ dX12_needs_55
          · -- not
            have hfF15 : ¬ (mFit (fun i p => i < N 1 ∧ zPl F i p) (mCl (rSp F) (rCh F) (rPa F) (N 0) a1 (N 2)) (mDu (rSp F) a1 (N 2)) (i32)) := fun q => cF15 (fCan_0 (hJ32 : zRw 0 F1 G32) ((hfit (i32) (by omega)).mpr q))
            show V g κ 4 (0) (0) (t, rO g ad N S F15 σ0) 51 [(3, .int (nI (i32))), (2, .int (nI (m2))), (0, .ref (ad (0))), (1, .int (a1))] [.int (nI (0))]
            refine V_ifeqN X (by omega) (tgt := 56) dX12_needs_51 (by decide) (fun h17 => ?_) (fun h17 => absurd h17 (by omega))
            refine V_iinc X (nI (i32 + 1)) [(3, .int (nI (i32 + 1))), (2, .int (nI (m2))), (0, .ref (ad (0))), (1, .int (a1))] dX12_needs_56 0 rfl (zinc _) (by decide) rfl ?_
            refine V_goto (tgt := 32) X dX12_needs_59 (by decide) ?_
            exact V.sub [0, 1, 2, 3] rfl (ih32 _ (by omega) (i32 + 1) F15 rfl (by omega) hJF15 (fun j hj => (Nat.lt_succ_iff_lt_or_eq.mp hj).elim (hv32_0 j) (fun e => by rw [e]; exact hfF15)))
    exact L32 _ (0) F5 rfl (by omega) hJF5 (fun j hj => absurd hj (Nat.not_lt_zero j))
  · -- not
    have hfF5 : ¬ (mFit (fun i p => i < N 1 ∧ zPl F i p) (mCl (rSp F) (rCh F) (rPa F) (N 0) a1 (N 2)) (mDu (rSp F) a1 (N 2)) (N 1)) := fun q => cF5 (fCan_0 (zRw.rfl' : zRw 0 F1 F1) ((hfit (N 1) (by omega)).mpr q))
    show V g κ 4 (0) (0) (t, rO g ad N S F5 σ0) 25 [(2, .int (nI (m2))), (0, .ref (ad (0))), (1, .int (a1))] [.int (nI (0))]
    refine V_ifneN X (by omega) (tgt := 30) dX12_needs_25 (by decide) (fun h18 => absurd h18 (by omega)) (fun h18 => ?_)
    refine V_iconst (v := (-1)) X dX12_needs_28 (by decide) ?_
    exact V_iret X E (by omega) (by omega) ⟨_, rfl, _, rfl, (hKF1 : rJ F F1).trans (hJF5).j, (congrFun ((hJF5).1 0 (by decide)) 0).trans h00, Or.inl ⟨rfl, fun q => hfF5 (mFit_top b1 (fun _ _ h => h.1) q)⟩⟩ dX12_needs_29
set_option maxRecDepth 100000 in
set_option maxHeartbeats 4000000 in
theorem k_X12_isCast {g : zG} {t : Nat × Nat} {ad N : Nat → Nat} {S : Int64} {σ0 : Nat → Option va_E} {F : Nat → Nat → Int32} (hK : rK g ad N) (hI : rI N F) : Ct g 25 yX12_isCast cX12_isCast 2 (some FieldType.boolean) 0 0 [.ref (ad (0))] (t, rO g ad N S F σ0) (fun v σ' => ∃ F' : Nat → Nat → Int32, σ' = (t, rO g ad N S F' σ0) ∧ rC F F' ∧ rI N F' ∧ rM N F F' ∧ F' 0 0 = F 0 0 ∧ ¬ F' 0 11 = 0 ∧ ((v = some (.int (nI 1)) ∧ ¬ F' 0 12 = -1 ∧ rCast N F') ∨ (v = some (.int (nI 0)) ∧ F' 0 12 = -1))) zNo := by
  refine Ct.of (lv := [(0, .ref (ad (0)))]) (by decide) (Nat.le_of_ble_eq_true rfl) rfl ?_
  intro κ X E B _
  have X : zX g κ RX12 cX12_isCast 2 := X
  obtain ⟨b0, b1, b2, b3, b4⟩ := hI.bnd
  refine V_aload_n X dX12_isCast_0 0 rfl ?_
  refine R_getf X fl_X12_70 hK (0) (rlv (by omega)) rfl rfl dX12_isCast_1 (V.topi (fun x1 ex1 => ?_))
  refine V_ifne X (tgt := 55) dX12_isCast_4 (by decide) (fun h2 => ?_) (fun h2 => ?_)
  · -- 4 true
    refine V_aload_n X dX12_isCast_55 0 rfl ?_
    refine R_getf X fl_X12_188 hK (0) (rlv (by omega)) rfl rfl dX12_isCast_56 (V.topi (fun x3 ex3 => ?_))
    refine V_iconst (v := (-1)) X dX12_isCast_59 (by decide) ?_
    refine V_icmpeq X (tgt := 67) dX12_isCast_60 (by decide) (fun h4 => ?_) (fun h4 => ?_)
    · -- 60 true
      refine V_iconst (v := nI 0) X dX12_isCast_67 (by decide) ?_
      exact V_zret X E (by first | rfl | decide | exact zbool (by assumption)) (by omega) (by omega) ⟨_, rfl, rC.rfl', hI, rM.rfl', rfl, by rw [← ex1]; exact h2, Or.inr ⟨rfl, ex3.symm.trans h4⟩⟩ dX12_isCast_68
    · -- 60 false
      refine V_iconst (v := nI 1) X dX12_isCast_63 (by decide) ?_
      refine V_goto (tgt := 68) X dX12_isCast_64 (by decide) ?_
      exact V_zret X E (by first | rfl | decide | exact zbool (by assumption)) (by omega) (by omega) ⟨_, rfl, rC.rfl', hI, rM.rfl', rfl, by rw [← ex1]; exact h2, Or.inl ⟨rfl, fun q => h4 (ex3.trans q), hI.2.2.2 (by rw [← ex1]; exact h2) (fun q => h4 (ex3.trans q))⟩⟩ dX12_isCast_68
  · -- 4 false
    refine V_aload_n X dX12_isCast_7 0 rfl ?_
    refine V_aload_n X dX12_isCast_8 0 rfl ?_
    refine V_aload_n X dX12_isCast_9 0 rfl ?_
    refine V_callV (rest := [.ref (ad (0)), .ref (ad (0))]) X E.room ml_X12_182 in_X12_all (ci := 16) rfl se_X12_all (R_recv hK (q := 0) (rlv (by omega)) rfl) (by omega) (by decide) (k_X12_all hK hI) rfl rfl (Nat.le_of_ble_eq_true rfl) ⟨by omega, by omega⟩ dX12_isCast_10 (fun _ _ h => False.elim h) (fun v10 σ' hp10 => ?_)
    obtain ⟨hp10, rfl⟩ := hp10
    cases (hp10 : _ = some (Value.int (nI (2 ^ N 2 - 1))))
    show V g κ 2 (0) (0) (t, rO g ad N S F σ0) 13 [(0, .ref (ad (0)))] [.int (nI (2 ^ N 2 - 1)), .ref (ad (0)), .ref (ad (0))]
    refine V_callV (rest := [.ref (ad (0))]) X E.room ml_X12_185 in_X12_needs (ci := 16) rfl se_X12_needs (R_recv hK (q := 0) (rlv (by omega)) rfl) (by omega) (by decide) (k_X12_needs_x hK hI (nI (2 ^ N 2 - 1))) rfl rfl (Nat.le_of_ble_eq_true rfl) ⟨by omega, by omega⟩ dX12_isCast_13 (fun _ _ h => False.elim h) (fun v13 σ' hp13 => ?_)
    obtain ⟨r6, rfl, F5, rfl, hJF5, h0F5, hnd⟩ := hp13
    show V g κ 2 (0) (0) (t, rO g ad N S F5 σ0) 16 [(0, .ref (ad (0)))] [.int (r6), .ref (ad (0))]
    refine R_putf X fl_X12_188 zt_X12 hK (0) (rlv (by omega)) (by omega) rfl (Nat.le_of_ble_eq_true rfl) rfl rfl rfl rfl rfl dX12_isCast_16 (fun F7 hF7 => ?_)
    have uF7 : F5 0 11 = 0 := (hJF5 0 11 rfl).trans (by rw [← ex1]; exact h2)
    have hIF7 : rI N F7 := (hI.mv hJF5).dk hF7 uF7 (Or.inr ⟨rfl, rfl⟩)
    have vF7 : F7 0 11 = 0 := by rw [hF7, fset_ne (Or.inr (by decide))]; exact uF7
    refine V_iconst (v := nI 0) X dX12_isCast_19 (by decide) ?_
    refine V_istore_n X [(1, .int (nI (0))), (0, .ref (ad (0)))] dX12_isCast_20 (by decide) rfl ?_
    have L21 : ∀ (n21 : Nat) (i21 : Nat) (G21 : Nat → Nat → Int32), n21 = N 0 - i21 → i21 ≤ N 0 → zCs F7 G21 → (∀ p, p < i21 → G21 11 p = F7 12 p) → V g κ 2 (0) (0) (t, rO g ad N S G21 σ0) 21 [(1, .int (nI (i21))), (0, .ref (ad (0)))] [] := by
      intro n21
      induction n21 using Nat.strongRecOn with
      | ind n21 ih21 =>
        intro i21 G21 hn21 hi21 hJ21 hv21_0
        refine V_iload_n X dX12_isCast_21 0 rfl ?_
        refine V_aload_n X dX12_isCast_22 1 rfl ?_
        refine R_getf X fl_X12_10 hK (0) (rlv (by omega)) rfl rfl dX12_isCast_23 ?_
        refine V_callV (rest := [.int (nI (i21))]) X E.room ml_X12_42 in_Jx4a65c_size_8abf5 (ci := 3) rfl se_Jx4a65c_size_8abf5 (rO_list hK (i := 0) (by decide)) (by omega) (by decide) (r_size hK 0 (by decide)) rfl rfl (Nat.le_of_ble_eq_true rfl) ⟨by omega, by omega⟩ dX12_isCast_26 (fun _ _ h => False.elim h) (fun v8 σ' hp9 => ?_)
        obtain ⟨hp9, rfl⟩ := hp9
        cases (hp9 : _ = some (Value.int (nI (N 0))))
        show V g κ 2 (0) (0) (t, rO g ad N S G21 σ0) 29 [(1, .int (nI (i21))), (0, .ref (ad (0)))] [.int (nI (N 0)), .int (nI (i21))]
        refine V_icmpgeN X (by omega) (by omega) (tgt := 50) dX12_isCast_29 (by decide) (fun h10 => ?_) (fun h10 => ?_)
        · -- 29 true
          refine V_aload_n X dX12_isCast_50 1 rfl ?_
          refine V_iconst (v := nI 1) X dX12_isCast_51 (by decide) ?_
          refine R_putf X fl_X12_70 zt_X12 hK (0) (rlv (by omega)) (by omega) rfl (Nat.le_of_ble_eq_true rfl) rfl rfl rfl rfl rfl dX12_isCast_52 (fun F11 hF11 => ?_)
          have hIG : rI N G21 := hIF7.dkr vF7 hJ21
          have hL : ∀ k j, k ≠ 11 → (k ≠ 0 ∨ (j ≠ 11 ∧ j ≠ 12)) → F11 k j = F5 k j := fun k j q1 q2 => by rw [hF11, fset_ne (by omega), congrFun ((hJ21 : zCs F7 G21) k q1) j, hF7, fset_ne (by omega)]
          have eL : F11 0 12 = r6 := by rw [hF11, fset_ne (Or.inr (by decide)), congrFun ((hJ21 : zCs F7 G21) 0 (by decide)) 12, hF7, fset_eq]
          have hkL : F11 0 11 = nI 1 := by rw [hF11, fset_eq]
          have hcL : ∀ p, p < N 0 → F11 11 p = F5 12 p := fun p hp => by rw [hF11, fset_ne (Or.inl (by decide)), hv21_0 p (by omega), hF7, fset_ne (Or.inl (by decide))]
          have tL : ∀ k j, 14 ≤ k → F11 k j = F k j := fun k j q => (hL k j (by omega) (by omega)).trans (hJF5 k j (rsc_f (by omega)))
          obtain ⟨hh, hb9, hr9⟩ := rNd_best b0 b1 hnd
          have hbL : rBs N F11 r6 hh := rBs_mv b0 b1 b2 (fun k j q _ _ => tL k j q) hb9
          have hrL : ¬ r6 = -1 → ∀ p, p < N 0 → (rDu N F11 p → F11 11 p = nI (hh p)) ∧ (¬ rDu N F11 p → F11 11 p = -1) := fun q p hp => by rw [hcL p hp, rDu_mv b2 (fun k j q _ _ => tL k j q) p]; exact hr9 q p hp
          have hkn : rKn N F11 := Or.inr ⟨b0, b1, b2, hh, by rw [eL]; exact hbL, by rw [eL]; exact hrL⟩
          have hCL : ¬ r6 = -1 → rCast N F11 := fun q => rCast_of (F := F11) hbL q (hrL q) (fun s hs => by rw [tL (26 + s) 0 (by omega)]; exact hI.sp s hs) b2 b0
          have hIL : rI N F11 := hIG.known hF11 (fun q => (hCL (by rw [← eL, hF11, fset_ne (Or.inr (by decide))]; exact q)).mv (fun p => by rw [hF11, fset_ne (Or.inl (by decide))]) (fun s _ => by rw [hF11, fset_ne (Or.inl (by omega))]))
          have rL : rC F F11 := fun k j q1 q2 q3 => by rw [hL k j q1 q3]; exact hJF5 k j q2
          have mL : rM N F F11 := ⟨fun k j q => rL k j (by unfold rcr at q; omega) (rsc_f (by unfold rcr at q; omega)) (by unfold rcr at q; omega), fun _ => hkn⟩
          have zL : F11 0 0 = F 0 0 := (hL 0 0 (by decide) (by decide)).trans h0F5
          refine V_aload_n X dX12_isCast_55 1 rfl ?_
          refine R_getf X fl_X12_188 hK (0) (rlv (by omega)) rfl rfl dX12_isCast_56 (V.topi (fun x12 ex12 => ?_))
          refine V_iconst (v := (-1)) X dX12_isCast_59 (by decide) ?_
          refine V_icmpeq X (tgt := 67) dX12_isCast_60 (by decide) (fun h13 => ?_) (fun h13 => ?_)
          · -- 60 true
            refine V_iconst (v := nI 0) X dX12_isCast_67 (by decide) ?_
            exact V_zret X E (by first | rfl | decide | exact zbool (by assumption)) (by omega) (by omega) ⟨_, rfl, rL, hIL, mL, zL, by rw [hkL]; decide, Or.inr ⟨rfl, ex12.symm.trans h13⟩⟩ dX12_isCast_68
          · -- 60 false
            refine V_iconst (v := nI 1) X dX12_isCast_63 (by decide) ?_
            refine V_goto (tgt := 68) X dX12_isCast_64 (by decide) ?_
            exact V_zret X E (by first | rfl | decide | exact zbool (by assumption)) (by omega) (by omega) ⟨_, rfl, rL, hIL, mL, zL, by rw [hkL]; decide, Or.inl ⟨rfl, fun q => h13 (ex12.trans q), hCL (fun q => h13 (ex12.trans (eL.trans q)))⟩⟩ dX12_isCast_68
        · -- 29 false
          refine V_aload_n X dX12_isCast_32 1 rfl ?_
          refine R_getf X fl_X12_28 hK (0) (rlv (by omega)) rfl rfl dX12_isCast_33 ?_
          refine V_iload_n X dX12_isCast_36 0 rfl ?_
          refine V_aload_n X dX12_isCast_37 1 rfl ?_
          refine R_getf X fl_X12_32 hK (0) (rlv (by omega)) rfl rfl dX12_isCast_38 ?_
          refine V_iload_n X dX12_isCast_41 0 rfl ?_
          refine R_iald X hK (12) (by omega) (i21) rfl (by omega) dX12_isCast_42 ?_
          refine V.topi (fun x14 ex14 => ?_)
          have fx14 : x14 = F7 12 (i21) := ex14.trans (congrFun ((hJ21 : zCs F7 G21) 12 (by decide)) _)
          refine R_iast X hK (11) (by omega) (i21) rfl (by omega) dX12_isCast_43 (fun F15 hF15 => ?_)
          have hJF15 : zCs F7 F15 := (hJ21 : zCs F7 G21).set hF15
          refine V_iinc X (nI (i21 + 1)) [(1, .int (nI (i21 + 1))), (0, .ref (ad (0)))] dX12_isCast_44 0 rfl (zinc _) (by decide) rfl ?_
          refine V_goto (tgt := 21) X dX12_isCast_47 (by decide) ?_
          exact V.sub [0, 1] rfl (ih21 _ (by omega) (i21 + 1) F15 rfl (by omega) hJF15 (fun p hp => by by_cases e : p = i21; (subst e; rw [hF15, fset_eq]; exact fx14); (rw [hF15, fset_ne (Or.inr e)]; exact hv21_0 p (by omega))))
    exact L21 _ (0) F7 rfl (by omega) zCs.rfl' (fun p hp => absurd hp (Nat.not_lt_zero p))
