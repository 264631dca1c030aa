/-! ===== cast, isSound, add, digest of the reference ===== -/
section IT9
variable {g : zG} {t : Nat × Nat} {ad N : Nat → Nat} {S : Int64} {G : Nat → Nat → Int32} {σ0 : Nat → Option va_E}
theorem r_hasNextM (hK : rK g ad N) (i : Nat) (hi : i < 5) {md : Int32} (hm : G (1 + i) 0 = md) {It c : Nat} {lr : Int32} (hA : ∀ k, rLive N k = true → ad k ≠ It) (hc : c ≤ N i) (hN : N i ≤ 10) : Ct g 10 yJx35411_hasNext_aae02 cJx35411_hasNext_aae02 1 (some .boolean) 0 0 [.ref It] (t, rO g ad N S G (zIt σ0 It c lr md (ad (1 + i)))) (fun v σ' => ((v = some (.int (nI 1)) ∧ c < N i) ∨ (v = some (.int (nI 0)) ∧ c = N i)) ∧ σ' = (t, rO g ad N S G (zIt σ0 It c lr md (ad (1 + i))))) zNo := by
  subst hm
  exact r_hasNext hK i hi hA hc hN
theorem r_nextM (hK : rK g ad N) (i : Nat) (hi : i < 5) {md : Int32} (hm : G (1 + i) 0 = md) {It c : Nat} {lr : Int32} (hA : ∀ k, rLive N k = true → ad k ≠ It) (gI : g.2.1.size ≤ It) (hc : c < N i) (hN : N i ≤ 10) : Ct g 11 yJx35411_next_0502b cJx35411_next_0502b 3 (some (.object "java/lang/Object")) 0 0 [.ref It] (t, rO g ad N S G (zIt σ0 It c lr md (ad (1 + i)))) (fun v σ' => v = some (.ref (ad (rB i + c))) ∧ σ' = (t, rO g ad N S G (zIt σ0 It (c + 1) (nI c) md (ad (1 + i))))) zNo := by
  subst hm
  exact r_next hK i hi hA gI hc hN
end IT9
def qSum (g : zG) (t : Nat × Nat) (ad N : Nat → Nat) (F : Nat → Nat → Int32) (σ0 : Nat → Option va_E) : Option Value → zS → Prop := fun v σ' => v = none ∧ ∃ S', σ' = (t, rO g ad N S' F σ0)
def qDig (g : zG) (ad N : Nat → Nat) (F : Nat → Nat → Int32) (σ0 : Nat → Option va_E) : Option Value → zS → Prop := fun v σ' => (∃ x, v = some (.long x)) ∧ ∃ (t' : Nat × Nat) (S' : Int64) (F' : Nat → Nat → Int32), σ' = (t', rO g ad N S' F' σ0) ∧ rM N F F' ∧ rI N F'
set_option maxRecDepth 100000 in
set_option maxHeartbeats 4000000 in
theorem k_X12_cast {g : zG} {t : Nat × Nat} {ad N : Nat → Nat} {S : Int64} {σ0 : Nat → Option va_E} {F : Nat → Nat → Int32} (hK : rK g ad N) (hI : rI N F)  : Ct g 27 yX12_cast cX12_cast 1 (some (FieldType.object "java/lang/String")) 4 31 [.ref (ad (0))] (t, rO g ad N S F σ0) (qStr g ad N S F σ0) zNo := by
  refine Ct.of (lv := [(0, .ref (ad (0)))]) (by decide) (Nat.le_of_ble_eq_true rfl) rfl ?_
  intro κ X E B _
  have X : zX g κ RX12 cX12_cast 1 := X
  obtain ⟨b0, b1, b2, b3, b4⟩ := hI.bnd
  refine V_aload_n X dX12_cast_0 0 rfl ?_
  refine V_iconst (v := nI 0) X dX12_cast_1 (by decide) ?_
  refine R_putf X fl_X12_38 zt_X12 hK (0) (rlv (by omega)) (by omega) rfl (Nat.le_of_ble_eq_true rfl) rfl rfl rfl rfl rfl dX12_cast_2 (fun F1 hF1 => ?_)
  have hJF1 := (rM.rfl' : rM N F F).set hF1 (by omega)
  have hIF1 := hI.st hF1 (by omega)
  refine V_aload_n X dX12_cast_5 0 rfl ?_
  refine V_callV (rest := []) X E.room ml_X12_313 in_X12_castNow (ci := 16) rfl se_X12_castNow (R_recv hK (q := 0) (rlv (by omega)) rfl) (by omega) (by decide) (k_X12_castNow hK hIF1) rfl rfl (Nat.le_of_ble_eq_true rfl) ⟨by omega, by omega⟩ dX12_cast_6 (fun _ _ h => False.elim h) (fun v6 σ' hp6 => ?_)
  obtain ⟨t3, F2, hJF2, hIF2, hp6⟩ := hp6
  have hKF2 : rM N F F2 := (hJF1 : rM N F F1).trans hJF2
  rcases hp6 with ⟨rfl, rfl⟩ | ⟨Sx, nx, fw, hnx, rfl, rfl, fS, fW⟩
  · -- none
    show V g κ 1 (0 + 4) (0 + 31) (t3, rO g ad N S F2 σ0) 9 [(0, .ref (ad (0)))] [.ref (g.2.2.2 7)]
    exact V_aret X E (Or.inl ⟨_, rfl⟩) (Or.inr ⟨_, rfl⟩) (by omega) (by omega) ⟨_, _, hKF2, hIF2, Or.inl ⟨rfl, rfl⟩⟩ dX12_cast_9
  · -- a string
    show V g κ 1 (0 + 4) (0 + 31) (t3, rO g ad N S F2 (zSx g σ0 Sx nx fw)) 9 [(0, .ref (ad (0)))] [.ref (Sx)]
    exact V_aret X E (Or.inl ⟨_, rfl⟩) (Or.inr ⟨_, rfl⟩) (by omega) (by omega) ⟨_, _, hKF2, hIF2, Or.inr ⟨_, _, _, hnx, rfl, rfl, fS, fW⟩⟩ dX12_cast_9
set_option maxRecDepth 100000 in
set_option maxHeartbeats 4000000 in
theorem k_X12_isSoundNow {g : zG} {t : Nat × Nat} {ad N : Nat → Nat} {S : Int64} {σ0 : Nat → Option va_E} {F : Nat → Nat → Int32} (hK : rK g ad N) (hI : rI N F)  : Ct g 27 yX12_isSoundNow cX12_isSoundNow 4 (some FieldType.boolean) 51 252 [.ref (ad (0))] (t, rO g ad N S F σ0) (qN pB g ad N S F σ0) zNo := by
  refine Ct.of (lv := [(0, .ref (ad (0)))]) (by decide) (Nat.le_of_ble_eq_true rfl) rfl ?_
  intro κ X E B _
  have X : zX g κ RX12 cX12_isSoundNow 4 := X
  obtain ⟨b0, b1, b2, b3, b4⟩ := hI.bnd
  refine V_aload_n X dX12_isSoundNow_0 0 rfl ?_
  refine R_getf X fl_X12_19 hK (0) (rlv (by omega)) rfl rfl dX12_isSoundNow_1 ?_
  refine V.fr (fun hfra1 => ?_)
  obtain ⟨hAa1, hsa1, gAa1, hfa1⟩ := zFresh hK hfra1
  refine V_callV (rest := []) X E.room ml_X12_101 in_Jx4a65c_iterator_32c93 (ci := 3) rfl se_Jx4a65c_iterator_32c93 (rO_list hK (i := 2) (by decide)) (by omega) (by decide) (r_iter hK 2 (by decide) gAa1 hAa1) rfl rfl (Nat.le_of_ble_eq_true rfl) ⟨by omega, by omega⟩ dX12_isSoundNow_4 (fun _ _ h => False.elim h) (fun v4 σ' hp4 => ?_)
  obtain ⟨hp4, rfl⟩ := hp4
  cases (hp4 : _ = some (Value.ref t.1))
  show V g κ 4 (0 + 1) (0 + 4) ((t.1 + 1, t.2 + 4), rO g ad N S F (zIt σ0 t.1 (0) (-1) (F 3 0) (ad 3))) 7 [(0, .ref (ad (0)))] [.ref (t.1)]
  show V g κ 4 (0 + 1) (0 + 4) ((t.1 + 1, t.2 + 4), rO g ad N S F (zIt σ0 t.1 (0) (-1) (F 3 0) (ad 3))) 7 [(0, .ref (ad (0)))] [.ref (t.1)]
  refine V_astore_n X [(1, .ref (t.1)), (0, .ref (ad (0)))] dX12_isSoundNow_7 (by decide) rfl ?_
  have L8 : ∀ (n8 : Nat) (i8 : Nat) (t8 : Nat × Nat) (lr8 : Int32), n8 = N 2 - i8 → i8 ≤ N 2 → (F 3 0 = F 3 0) → V g κ 4 (0 + 1 + 8 * i8) (0 + 4 + 40 * i8) (t8, rO g ad N S F (zIt σ0 t.1 (i8) (lr8) (F 3 0) (ad 3))) 8 [(1, .ref (t.1)), (0, .ref (ad (0)))] [] := by
    intro n8
    induction n8 using Nat.strongRecOn with
    | ind n8 ih8 =>
      intro i8 t8 lr8 hn8 hi8 hv8_0
      refine V_aload_n X dX12_isSoundNow_8 0 rfl ?_
      refine V_callF (rest := []) X E.room mf_X12_105 (zFwH X) rfl (C_it hAa1) (by omega) (by decide) (r_hasNextM hK 2 (by decide) hv8_0 (lr := lr8) hAa1 (by omega) (by omega)) rfl rfl (Nat.le_of_ble_eq_true rfl) ⟨by omega, by omega⟩ dX12_isSoundNow_9 (fun _ _ h => False.elim h) (fun v2 σ' hp3 => ?_)
      obtain ⟨hp3, rfl⟩ := hp3
      rcases hp3 with ⟨rfl, z4⟩ | ⟨rfl, z4⟩
      · -- more
        show V g κ 4 (0 + 1 + 8 * i8) (0 + 4 + 40 * i8) (t8, rO g ad N S F (zIt σ0 t.1 (i8) (lr8) (F 3 0) (ad 3))) 14 [(1, .ref (t.1)), (0, .ref (ad (0)))] [.int (nI (1))]
        refine V_ifeqN X (by omega) (tgt := 63) dX12_isSoundNow_14 (by decide) (fun h5 => absurd h5 (by omega)) (fun h5 => ?_)
        refine V_aload_n X dX12_isSoundNow_17 0 rfl ?_
        refine V_callF (rest := []) X E.room mf_X12_111 (zFwN X) rfl (C_it hAa1) (by omega) (by decide) (r_nextM hK 2 (by decide) hv8_0 (lr := lr8) hAa1 gAa1 (by omega) (by omega)) rfl rfl (Nat.le_of_ble_eq_true rfl) ⟨by omega, by omega⟩ dX12_isSoundNow_18 (fun _ _ h => False.elim h) (fun v6 σ' hp7 => ?_)
        obtain ⟨hp7, rfl⟩ := hp7
        cases (hp7 : _ = some (Value.ref (ad (26 + (i8)))))
        show V g κ 4 (0 + 1 + 8 * i8) (0 + 4 + 40 * i8) (t8, rO g ad N S F (zIt σ0 t.1 (i8 + 1) (nI (i8)) (F 3 0) (ad 3))) 23 [(1, .ref (t.1)), (0, .ref (ad (0)))] [.ref (ad (26 + (i8)))]
        refine V_cast X (C := RX10) rfl cl_X12_85 (R_recv hK (q := 26 + (i8)) (rlv (by omega)) (rCell_scene (by omega))) dX12_isSoundNow_23 ?_
        refine V_astore_n X [(2, .ref (ad (26 + (i8)))), (1, .ref (t.1)), (0, .ref (ad (0)))] dX12_isSoundNow_26 (by decide) rfl ?_
        refine V_aload_n X dX12_isSoundNow_27 2 rfl ?_
        refine V_aload_n X dX12_isSoundNow_28 0 rfl ?_
        obtain ⟨m8, hm8, em8⟩ := hI.sp (i8) (by omega)
        have gm8 : m8 < 128 := Nat.lt_of_lt_of_le hm8 (zp2 (n := 7) (by omega))
        refine R_getfN (z := nI (m8)) X fl_X12_88 hK (26 + (i8)) (rlv (by omega)) (rCell_scene (by omega)) rfl em8 dX12_isSoundNow_29 ?_
        refine V_callV (rest := []) X E.room ml_X12_270 in_X12_filled (ci := 16) rfl se_X12_filled (R_recv hK (q := 0) (rlv (by omega)) rfl) (by omega) (by decide) (k_X12_filled hK hI (nI (m8))) rfl rfl (Nat.le_of_ble_eq_true rfl) ⟨by omega, by omega⟩ dX12_isSoundNow_32 (fun _ _ h => False.elim h) (fun v32 σ' hp32 => ?_)
        obtain ⟨hp32, t9, rfl⟩ := hp32
        obtain ⟨r10, rfl⟩ := hp32
        show V g κ 4 (0 + 1 + 8 * i8 + 8) (0 + 4 + 40 * i8 + 40) (t9, rO g ad N S F (zIt σ0 t.1 (i8 + 1) (nI (i8)) (F 3 0) (ad 3))) 35 [(2, .ref (ad (26 + (i8)))), (1, .ref (t.1)), (0, .ref (ad (0)))] [.int (r10)]
        refine V_aload_n X dX12_isSoundNow_35 2 rfl ?_
        refine V_aload_n X dX12_isSoundNow_36 2 rfl ?_
        refine V_aload_n X dX12_isSoundNow_37 0 rfl ?_
        obtain ⟨m11, hm11, em11⟩ := hI.sp (i8) (by omega)
        have gm11 : m11 < 128 := Nat.lt_of_lt_of_le hm11 (zp2 (n := 7) (by omega))
        refine R_getfN (z := nI (m11)) X fl_X12_88 hK (26 + (i8)) (rlv (by omega)) (rCell_scene (by omega)) rfl em11 dX12_isSoundNow_38 ?_
        refine V_callV (rest := [.ref (ad (0)), .int (r10)]) X E.room ml_X12_273 in_X12_lack (ci := 16) rfl se_X12_lack (R_recv hK (q := 0) (rlv (by omega)) rfl) (by omega) (by decide) (k_X12_lack hK hI (m11) (by omega)) rfl rfl (Nat.le_of_ble_eq_true rfl) ⟨by omega, by omega⟩ dX12_isSoundNow_41 (fun _ _ h => False.elim h) (fun v41 σ' hp41 => ?_)
        obtain ⟨hp41, rfl⟩ := hp41
        obtain ⟨r12, rfl⟩ := hp41
        show V g κ 4 (0 + 1 + 8 * i8 + 8) (0 + 4 + 40 * i8 + 40) (t9, rO g ad N S F (zIt σ0 t.1 (i8 + 1) (nI (i8)) (F 3 0) (ad 3))) 44 [(2, .ref (ad (26 + (i8)))), (1, .ref (t.1)), (0, .ref (ad (0)))] [.int (r12), .ref (ad (0)), .int (r10)]
        refine V_callV (rest := [.int (r10)]) X E.room ml_X12_197 in_X12_excess (ci := 16) rfl se_X12_excess (R_recv hK (q := 0) (rlv (by omega)) rfl) (by omega) (by decide) (k_X12_excess hK hI (r12)) rfl rfl (Nat.le_of_ble_eq_true rfl) ⟨by omega, by omega⟩ dX12_isSoundNow_44 (fun _ _ h => False.elim h) (fun v44 σ' hp44 => ?_)
        obtain ⟨hp44, rfl⟩ := hp44
        obtain ⟨r13, rfl⟩ := hp44
        show V g κ 4 (0 + 1 + 8 * i8 + 8) (0 + 4 + 40 * i8 + 40) (t9, rO g ad N S F (zIt σ0 t.1 (i8 + 1) (nI (i8)) (F 3 0) (ad 3))) 47 [(2, .ref (ad (26 + (i8)))), (1, .ref (t.1)), (0, .ref (ad (0)))] [.int (r13), .int (r10)]
        refine V_iadd X dX12_isSoundNow_47 (V.topi (fun w14 ew14 => ?_))
        refine V_aload_n X dX12_isSoundNow_48 0 rfl ?_
        obtain ⟨m15, hm15, em15⟩ := hI.sp (i8) (by omega)
        have gm15 : m15 < 128 := Nat.lt_of_lt_of_le hm15 (zp2 (n := 7) (by omega))
        refine R_getfN (z := nI (m15)) X fl_X12_88 hK (26 + (i8)) (rlv (by omega)) (rCell_scene (by omega)) rfl em15 dX12_isSoundNow_49 ?_
        refine V_callS (rest := [.int (w14)]) X E.room ml_X12_170 st_J6_bitCount_0f7a4 (by omega) (by decide) (k_J6_bitCount_0f7a4 (σ := (t9, rO g ad N S F (zIt σ0 t.1 (i8 + 1) (nI (i8)) (F 3 0) (ad 3)))) (nI (m15))) rfl rfl (Nat.le_of_ble_eq_true rfl) ⟨by omega, by omega⟩ dX12_isSoundNow_52 (fun _ _ h => False.elim h) (fun v52 σ' hp52 => ?_)
        obtain ⟨hp52, rfl⟩ := hp52
        cases (hp52 : _ = some (Value.int (zbc (nI (m15)))))
        show V g κ 4 (0 + 1 + 8 * i8 + 8) (0 + 4 + 40 * i8 + 40) (t9, rO g ad N S F (zIt σ0 t.1 (i8 + 1) (nI (i8)) (F 3 0) (ad 3))) 55 [(2, .ref (ad (26 + (i8)))), (1, .ref (t.1)), (0, .ref (ad (0)))] [.int (zbc (nI (m15))), .int (w14)]
        refine V_icmpeq X (tgt := 60) dX12_isSoundNow_55 (by decide) (fun h16 => ?_) (fun h16 => ?_)
        · -- 55 true
          refine V_goto (tgt := 8) X dX12_isSoundNow_60 (by decide) ?_
          exact V.sub [1, 2] rfl (V.widen (by omega) (by omega) (ih8 _ (by omega) (i8 + 1) (t9) (nI (i8)) rfl (by omega) (hv8_0)))
        · -- 55 false
          refine V_iconst (v := nI 0) X dX12_isSoundNow_58 (by decide) ?_
          refine V.weak (f' := rO g ad N S F σ0) (rO_sub (zup_sub hsa1)) ?_
          show V g κ 4 (0 + 1 + 8 * i8 + 8) (0 + 4 + 40 * i8 + 40) (t9, rO g ad N S F σ0) 59 [(2, .ref (ad (26 + (i8)))), (1, .ref (t.1)), (0, .ref (ad (0)))] [.int (nI (0))]
          exact V_zret X E (zbool z01_0) (by omega) (by omega) ⟨⟨_, rfl, z01_0⟩, ⟨_, _, rfl, rM.rfl', hI⟩⟩ dX12_isSoundNow_59
      · -- no more
        show V g κ 4 (0 + 1 + 8 * i8) (0 + 4 + 40 * i8) (t8, rO g ad N S F (zIt σ0 t.1 (i8) (lr8) (F 3 0) (ad 3))) 14 [(1, .ref (t.1)), (0, .ref (ad (0)))] [.int (nI (0))]
        refine V_ifeqN X (by omega) (tgt := 63) dX12_isSoundNow_14 (by decide) (fun h17 => ?_) (fun h17 => absurd h17 (by omega))
        refine V.weak (f' := rO g ad N S F σ0) (rO_sub (zup_sub hsa1)) ?_
        show V g κ 4 (0 + 1 + 8 * i8) (0 + 4 + 40 * i8) (t8, rO g ad N S F σ0) 63 [(1, .ref (t.1)), (0, .ref (ad (0)))] []
        refine V_aload_n X dX12_isSoundNow_63 1 rfl ?_
        refine R_getf X fl_X12_16 hK (0) (rlv (by omega)) rfl rfl dX12_isSoundNow_64 ?_
        refine V.fr (fun hfra18 => ?_)
        obtain ⟨hAa18, hsa18, gAa18, hfa18⟩ := zFresh hK hfra18
        refine V_callV (rest := []) X E.room ml_X12_101 in_Jx4a65c_iterator_32c93 (ci := 3) rfl se_Jx4a65c_iterator_32c93 (rO_list hK (i := 1) (by decide)) (by omega) (by decide) (r_iter hK 1 (by decide) gAa18 hAa18) rfl rfl (Nat.le_of_ble_eq_true rfl) ⟨by omega, by omega⟩ dX12_isSoundNow_67 (fun _ _ h => False.elim h) (fun v67 σ' hp67 => ?_)
        obtain ⟨hp67, rfl⟩ := hp67
        cases (hp67 : _ = some (Value.ref t8.1))
        show V g κ 4 (0 + 1 + 8 * i8 + 1) (0 + 4 + 40 * i8 + 4) ((t8.1 + 1, t8.2 + 4), rO g ad N S F (zIt σ0 t8.1 (0) (-1) (F 2 0) (ad 2))) 70 [(1, .ref (t.1)), (0, .ref (ad (0)))] [.ref (t8.1)]
        show V g κ 4 (0 + 1 + 8 * i8 + 1) (0 + 4 + 40 * i8 + 4) ((t8.1 + 1, t8.2 + 4), rO g ad N S F (zIt σ0 t8.1 (0) (-1) (F 2 0) (ad 2))) 70 [(1, .ref (t.1)), (0, .ref (ad (0)))] [.ref (t8.1)]
        refine V_astore_n X [(1, .ref (t8.1)), (0, .ref (ad (0)))] dX12_isSoundNow_70 (by decide) rfl ?_
        have L71 : ∀ (n71 : Nat) (i71 : Nat) (lr71 : Int32), n71 = N 1 - i71 → i71 ≤ N 1 → V g κ 4 (0 + 1 + 8 * i8 + 1) (0 + 4 + 40 * i8 + 4) ((t8.1 + 1, t8.2 + 4), rO g ad N S F (zIt σ0 t8.1 (i71) (lr71) (F 2 0) (ad 2))) 71 [(1, .ref (t8.1)), (0, .ref (ad (0)))] [] := by
          intro n71
          induction n71 using Nat.strongRecOn with
          | ind n71 ih71 =>
            intro i71 lr71 hn71 hi71
            refine V_aload_n X dX12_isSoundNow_71 0 rfl ?_
            refine V_callF (rest := []) X E.room mf_X12_105 (zFwH X) rfl (C_it hAa18) (by omega) (by decide) (r_hasNextM hK 1 (by decide) rfl (lr := lr71) hAa18 (by omega) (by omega)) rfl rfl (Nat.le_of_ble_eq_true rfl) ⟨by omega, by omega⟩ dX12_isSoundNow_72 (fun _ _ h => False.elim h) (fun v19 σ' hp20 => ?_)
            obtain ⟨hp20, rfl⟩ := hp20
            rcases hp20 with ⟨rfl, z21⟩ | ⟨rfl, z21⟩
            · -- more
              show V g κ 4 (0 + 1 + 8 * i8 + 1) (0 + 4 + 40 * i8 + 4) ((t8.1 + 1, t8.2 + 4), rO g ad N S F (zIt σ0 t8.1 (i71) (lr71) (F 2 0) (ad 2))) 77 [(1, .ref (t8.1)), (0, .ref (ad (0)))] [.int (nI (1))]
              refine V_ifeqN X (by omega) (tgt := 102) dX12_isSoundNow_77 (by decide) (fun h22 => absurd h22 (by omega)) (fun h22 => ?_)
              refine V_aload_n X dX12_isSoundNow_80 0 rfl ?_
              refine V_callF (rest := []) X E.room mf_X12_111 (zFwN X) rfl (C_it hAa18) (by omega) (by decide) (r_nextM hK 1 (by decide) rfl (lr := lr71) hAa18 gAa18 (by omega) (by omega)) rfl rfl (Nat.le_of_ble_eq_true rfl) ⟨by omega, by omega⟩ dX12_isSoundNow_81 (fun _ _ h => False.elim h) (fun v23 σ' hp24 => ?_)
              obtain ⟨hp24, rfl⟩ := hp24
              cases (hp24 : _ = some (Value.ref (ad (21 + (i71)))))
              show V g κ 4 (0 + 1 + 8 * i8 + 1) (0 + 4 + 40 * i8 + 4) ((t8.1 + 1, t8.2 + 4), rO g ad N S F (zIt σ0 t8.1 (i71 + 1) (nI (i71)) (F 2 0) (ad 2))) 86 [(1, .ref (t8.1)), (0, .ref (ad (0)))] [.ref (ad (21 + (i71)))]
              refine V_cast X (C := RX9) rfl cl_X12_74 (R_recv hK (q := 21 + (i71)) (rlv (by omega)) (rCell_player (by omega))) dX12_isSoundNow_86 ?_
              refine V_astore_n X [(2, .ref (ad (21 + (i71)))), (1, .ref (t8.1)), (0, .ref (ad (0)))] dX12_isSoundNow_89 (by decide) rfl ?_
              refine V_aload_n X dX12_isSoundNow_90 0 rfl ?_
              refine R_getf X fl_X12_141 hK (21 + (i71)) (rlv (by omega)) (rCell_player (by omega)) rfl dX12_isSoundNow_91 (V.topi (fun x25 ex25 => ?_))
              refine V_ifge X (tgt := 99) dX12_isSoundNow_94 (by decide) (fun h26 => ?_) (fun h26 => ?_)
              · -- 94 true
                refine V_goto (tgt := 71) X dX12_isSoundNow_99 (by decide) ?_
                exact V.sub [1, 2] rfl (ih71 _ (by omega) (i71 + 1) (nI (i71)) rfl (by omega))
              · -- 94 false
                refine V_iconst (v := nI 0) X dX12_isSoundNow_97 (by decide) ?_
                refine V.weak (f' := rO g ad N S F σ0) (rO_sub (zup_sub hsa18)) ?_
                show V g κ 4 (0 + 1 + 8 * i8 + 1) (0 + 4 + 40 * i8 + 4) ((t8.1 + 1, t8.2 + 4), rO g ad N S F σ0) 98 [(2, .ref (ad (21 + (i71)))), (1, .ref (t8.1)), (0, .ref (ad (0)))] [.int (nI (0))]
                exact V_zret X E (zbool z01_0) (by omega) (by omega) ⟨⟨_, rfl, z01_0⟩, ⟨_, _, rfl, rM.rfl', hI⟩⟩ dX12_isSoundNow_98
            · -- no more
              show V g κ 4 (0 + 1 + 8 * i8 + 1) (0 + 4 + 40 * i8 + 4) ((t8.1 + 1, t8.2 + 4), rO g ad N S F (zIt σ0 t8.1 (i71) (lr71) (F 2 0) (ad 2))) 77 [(1, .ref (t8.1)), (0, .ref (ad (0)))] [.int (nI (0))]
              refine V_ifeqN X (by omega) (tgt := 102) dX12_isSoundNow_77 (by decide) (fun h27 => ?_) (fun h27 => absurd h27 (by omega))
              refine V.weak (f' := rO g ad N S F σ0) (rO_sub (zup_sub hsa18)) ?_
              show V g κ 4 (0 + 1 + 8 * i8 + 1) (0 + 4 + 40 * i8 + 4) ((t8.1 + 1, t8.2 + 4), rO g ad N S F σ0) 102 [(1, .ref (t8.1)), (0, .ref (ad (0)))] []
              refine V_aload_n X dX12_isSoundNow_102 1 rfl ?_
              refine V_callV (rest := []) X E.room ml_X12_294 in_X12_purses (ci := 16) rfl se_X12_purses (R_recv hK (q := 0) (rlv (by omega)) rfl) (by omega) (by decide) (k_X12_purses hK hI) rfl rfl (Nat.le_of_ble_eq_true rfl) ⟨by omega, by omega⟩ dX12_isSoundNow_103 (fun _ _ h => False.elim h) (fun v103 σ' hp103 => ?_)
              obtain ⟨hp103, t28, rfl⟩ := hp103
              obtain ⟨r29, rfl⟩ := hp103
              show V g κ 4 (0 + 1 + 8 * i8 + 1 + 1) (0 + 4 + 40 * i8 + 4 + 4) (t28, rO g ad N S F σ0) 106 [(1, .ref (t8.1)), (0, .ref (ad (0)))] [.int (r29)]
              refine V_aload_n X dX12_isSoundNow_106 1 rfl ?_
              refine R_getf X fl_X12_138 hK (0) (rlv (by omega)) rfl rfl dX12_isSoundNow_107 (V.topi (fun x30 ex30 => ?_))
              refine V_aload_n X dX12_isSoundNow_110 1 rfl ?_
              refine R_getf X fl_X12_144 hK (0) (rlv (by omega)) rfl rfl dX12_isSoundNow_111 (V.topi (fun x31 ex31 => ?_))
              refine V_isub X dX12_isSoundNow_114 (V.topi (fun w32 ew32 => ?_))
              refine V_icmpeq X (tgt := 120) dX12_isSoundNow_115 (by decide) (fun h33 => ?_) (fun h33 => ?_)
              · -- 115 true
                refine V_aload_n X dX12_isSoundNow_120 1 rfl ?_
                refine V_callV (rest := []) X E.room ml_X12_291 in_X12_cutScenes (ci := 16) rfl se_X12_cutScenes (R_recv hK (q := 0) (rlv (by omega)) rfl) (by omega) (by decide) (k_X12_cutScenes hK hI) rfl rfl (Nat.le_of_ble_eq_true rfl) ⟨by omega, by omega⟩ dX12_isSoundNow_121 (fun _ _ h => False.elim h) (fun v121 σ' hp121 => ?_)
                obtain ⟨hp121, F34, rfl, hJF34⟩ := hp121
                have hIF34 := hI.mv hJF34
                have hKF34 : rM N F F34 := (rM.rfl' : rM N F F).trans hJF34.m
                obtain ⟨r35, rfl⟩ := hp121
                show V g κ 4 (0 + 1 + 8 * i8 + 1 + 1) (0 + 4 + 40 * i8 + 4 + 4) (t28, rO g ad N S F34 σ0) 124 [(1, .ref (t8.1)), (0, .ref (ad (0)))] [.int (r35)]
                refine V_ifeq X (tgt := 131) dX12_isSoundNow_124 (by decide) (fun h36 => ?_) (fun h36 => ?_)
                · -- 124 true
                  refine V_iconst (v := nI 0) X dX12_isSoundNow_131 (by decide) ?_
                  refine V_istore_n X [(1, .int (nI (0))), (0, .ref (ad (0)))] dX12_isSoundNow_132 (by decide) rfl ?_
                  refine V_aload_n X dX12_isSoundNow_133 1 rfl ?_
                  refine V_callV (rest := []) X E.room ml_X12_219 in_X12_isCast (ci := 16) rfl se_X12_isCast (R_recv hK (q := 0) (rlv (by omega)) rfl) (by omega) (by decide) (k_X12_isCast hK hIF34) rfl rfl (Nat.le_of_ble_eq_true rfl) ⟨by omega, by omega⟩ dX12_isSoundNow_134 (fun _ _ h => False.elim h) (fun v134 σ' hp134 => ?_)
                  obtain ⟨F37, rfl, hCF37, hIF37, hMF37, hZF37, hkF37, hp134⟩ := hp134
                  have hKF37 : rM N F F37 := (hKF34 : rM N F F34).trans hMF37
                  rcases hp134 with ⟨rfl, hn134, hc134⟩ | ⟨rfl, hn134⟩
                  · -- a cast
                    show V g κ 4 (0 + 1 + 8 * i8 + 1 + 1) (0 + 4 + 40 * i8 + 4 + 4) (t28, rO g ad N S F37 σ0) 137 [(1, .int (nI (0))), (0, .ref (ad (0)))] [.int (nI (1))]
                    refine V_ifneN X (by omega) (tgt := 142) dX12_isSoundNow_137 (by decide) (fun h38 => ?_) (fun h38 => absurd h38 (by omega))
                    refine V_aload_n X dX12_isSoundNow_142 1 rfl ?_
                    refine V_aload_n X dX12_isSoundNow_143 1 rfl ?_
                    refine V_callV (rest := [.ref (ad (0))]) X E.room ml_X12_182 in_X12_all (ci := 16) rfl se_X12_all (R_recv hK (q := 0) (rlv (by omega)) rfl) (by omega) (by decide) (k_X12_all hK hIF37) rfl rfl (Nat.le_of_ble_eq_true rfl) ⟨by omega, by omega⟩ dX12_isSoundNow_144 (fun _ _ h => False.elim h) (fun v144 σ' hp144 => ?_)
                    obtain ⟨hp144, rfl⟩ := hp144
                    cases (hp144 : _ = some (Value.int (nI (2 ^ N 2 - 1))))
                    show V g κ 4 (0 + 1 + 8 * i8 + 1 + 1) (0 + 4 + 40 * i8 + 4 + 4) (t28, rO g ad N S F37 σ0) 147 [(1, .int (nI (0))), (0, .ref (ad (0)))] [.int (nI (2 ^ N 2 - 1)), .ref (ad (0))]
                    refine V_callV (rest := []) X E.room ml_X12_175 in_X12_clash (ci := 16) rfl se_X12_clash (R_recv hK (q := 0) (rlv (by omega)) rfl) (by omega) (by decide) (k_X12_clash hK hIF37 (nI (2 ^ N 2 - 1))) rfl rfl (Nat.le_of_ble_eq_true rfl) ⟨by omega, by omega⟩ dX12_isSoundNow_147 (fun _ _ h => False.elim h) (fun v147 σ' hp147 => ?_)
                    obtain ⟨hp147, F39, rfl, hJF39⟩ := hp147
                    have hIF39 := hIF37.mv hJF39
                    have hKF39 : rM N F F39 := (hKF37 : rM N F F37).trans hJF39.m
                    cases (hp147 : _ = none)
                    show V g κ 4 (0 + 1 + 8 * i8 + 1 + 1) (0 + 4 + 40 * i8 + 4 + 4) (t28, rO g ad N S F39 σ0) 150 [(1, .int (nI (0))), (0, .ref (ad (0)))] []
                    refine V_iconst (v := nI 0) X dX12_isSoundNow_150 (by decide) ?_
                    refine V_istore_n X [(2, .int (nI (0))), (1, .int (nI (0))), (0, .ref (ad (0)))] dX12_isSoundNow_151 (by decide) rfl ?_
                    have L152 : ∀ (n152 : Nat) (i152 : Nat), n152 = N 0 - i152 → i152 ≤ N 0 → V g κ 4 (0 + 1 + 8 * i8 + 1 + 1) (0 + 4 + 40 * i8 + 4 + 4) (t28, rO g ad N S F39 σ0) 152 [(2, .int (nI (i152))), (1, .int (nI (0))), (0, .ref (ad (0)))] [] := by
                      intro n152
                      induction n152 using Nat.strongRecOn with
                      | ind n152 ih152 =>
                        intro i152 hn152 hi152
                        refine V_iload_n X dX12_isSoundNow_152 0 rfl ?_
                        refine V_aload_n X dX12_isSoundNow_153 2 rfl ?_
                        refine R_getf X fl_X12_10 hK (0) (rlv (by omega)) rfl rfl dX12_isSoundNow_154 ?_
                        refine V_callV (rest := [.int (nI (i152))]) X E.room ml_X12_42 in_Jx4a65c_size_8abf5 (ci := 3) rfl se_Jx4a65c_size_8abf5 (rO_list hK (i := 0) (by decide)) (by omega) (by decide) (r_size hK 0 (by decide)) rfl rfl (Nat.le_of_ble_eq_true rfl) ⟨by omega, by omega⟩ dX12_isSoundNow_157 (fun _ _ h => False.elim h) (fun v40 σ' hp41 => ?_)
                        obtain ⟨hp41, rfl⟩ := hp41
                        cases (hp41 : _ = some (Value.int (nI (N 0))))
                        show V g κ 4 (0 + 1 + 8 * i8 + 1 + 1) (0 + 4 + 40 * i8 + 4 + 4) (t28, rO g ad N S F39 σ0) 160 [(2, .int (nI (i152))), (1, .int (nI (0))), (0, .ref (ad (0)))] [.int (nI (N 0)), .int (nI (i152))]
                        refine V_icmpgeN X (by omega) (by omega) (tgt := 222) dX12_isSoundNow_160 (by decide) (fun h42 => ?_) (fun h42 => ?_)
                        · -- 160 true
                          refine V_iload_n X dX12_isSoundNow_222 1 rfl ?_
                          refine V_ifneN X (by omega) (tgt := 230) dX12_isSoundNow_223 (by decide) (fun h43 => absurd h43 (by omega)) (fun h43 => ?_)
                          refine V_iconst (v := nI 1) X dX12_isSoundNow_226 (by decide) ?_
                          refine V_goto (tgt := 231) X dX12_isSoundNow_227 (by decide) ?_
                          exact V_zret X E (zbool z01_1) (by omega) (by omega) ⟨⟨_, rfl, z01_1⟩, ⟨_, _, rfl, hKF39, hIF39⟩⟩ dX12_isSoundNow_231
                        · -- 160 false
                          refine V_iconst (v := nI 0) X dX12_isSoundNow_163 (by decide) ?_
                          refine V_istore_n X [(3, .int (nI (0))), (2, .int (nI (i152))), (1, .int (nI (0))), (0, .ref (ad (0)))] dX12_isSoundNow_164 (by decide) rfl ?_
                          have L165 : ∀ (n165 : Nat) (i165 : Nat), n165 = i152 - i165 → i165 ≤ i152 → V g κ 4 (0 + 1 + 8 * i8 + 1 + 1) (0 + 4 + 40 * i8 + 4 + 4) (t28, rO g ad N S F39 σ0) 165 [(3, .int (nI (i165))), (2, .int (nI (i152))), (1, .int (nI (0))), (0, .ref (ad (0)))] [] := by
                            intro n165
                            induction n165 using Nat.strongRecOn with
                            | ind n165 ih165 =>
                              intro i165 hn165 hi165
                              refine V_iload_n X dX12_isSoundNow_165 0 rfl ?_
                              refine V_iload_n X dX12_isSoundNow_166 1 rfl ?_
                              refine V_icmpgeN X (by omega) (by omega) (tgt := 216) dX12_isSoundNow_167 (by decide) (fun h44 => ?_) (fun h44 => ?_)
                              · -- 167 true
                                refine V_iinc X (nI (i152 + 1)) [(2, .int (nI (i152 + 1))), (3, .int (nI (i165))), (1, .int (nI (0))), (0, .ref (ad (0)))] dX12_isSoundNow_216 1 rfl (zinc _) (by decide) rfl ?_
                                refine V_goto (tgt := 152) X dX12_isSoundNow_219 (by decide) ?_
                                exact V.sub [0, 2, 3] rfl (ih152 _ (by omega) (i152 + 1) rfl (by omega))
                              · -- 167 false
                                refine V_aload_n X dX12_isSoundNow_170 3 rfl ?_
                                refine R_getf X fl_X12_28 hK (0) (rlv (by omega)) rfl rfl dX12_isSoundNow_171 ?_
                                refine V_iload_n X dX12_isSoundNow_174 1 rfl ?_
                                refine R_iald X hK (11) (by omega) (i152) rfl (by omega) dX12_isSoundNow_175 ?_
                                refine V.topi (fun x45 ex45 => ?_)
                                refine V_iconst (v := (-1)) X dX12_isSoundNow_176 (by decide) ?_
                                refine V_icmpeq X (tgt := 210) dX12_isSoundNow_177 (by decide) (fun h46 => ?_) (fun h46 => ?_)
                                · -- 177 true
                                  refine V_iinc X (nI (i165 + 1)) [(3, .int (nI (i165 + 1))), (2, .int (nI (i152))), (1, .int (nI (0))), (0, .ref (ad (0)))] dX12_isSoundNow_210 0 rfl (zinc _) (by decide) rfl ?_
                                  refine V_goto (tgt := 165) X dX12_isSoundNow_213 (by decide) ?_
                                  exact V.sub [0, 1, 2, 3] rfl (ih165 _ (by omega) (i165 + 1) rfl (by omega))
                                · -- 177 false
                                  refine V_aload_n X dX12_isSoundNow_180 3 rfl ?_
                                  refine R_getf X fl_X12_28 hK (0) (rlv (by omega)) rfl rfl dX12_isSoundNow_181 ?_
                                  refine V_iload_n X dX12_isSoundNow_184 1 rfl ?_
                                  refine R_iald X hK (11) (by omega) (i152) rfl (by omega) dX12_isSoundNow_185 ?_
                                  refine V.topi (fun x47 ex47 => ?_)
                                  refine V_aload_n X dX12_isSoundNow_186 3 rfl ?_
                                  refine R_getf X fl_X12_28 hK (0) (rlv (by omega)) rfl rfl dX12_isSoundNow_187 ?_
                                  refine V_iload_n X dX12_isSoundNow_190 0 rfl ?_
                                  refine R_iald X hK (11) (by omega) (i165) rfl (by omega) dX12_isSoundNow_191 ?_
                                  refine V.topi (fun x48 ex48 => ?_)
                                  refine V_icmpne X (tgt := 210) dX12_isSoundNow_192 (by decide) (fun h49 => ?_) (fun h49 => ?_)
                                  · -- 192 true
                                    refine V_iinc X (nI (i165 + 1)) [(3, .int (nI (i165 + 1))), (2, .int (nI (i152))), (1, .int (nI (0))), (0, .ref (ad (0)))] dX12_isSoundNow_210 0 rfl (zinc _) (by decide) rfl ?_
                                    refine V_goto (tgt := 165) X dX12_isSoundNow_213 (by decide) ?_
                                    exact V.sub [0, 1, 2, 3] rfl (ih165 _ (by omega) (i165 + 1) rfl (by omega))
                                  · -- 192 false
                                    refine V_aload_n X dX12_isSoundNow_195 3 rfl ?_
                                    refine R_getf X fl_X12_35 hK (0) (rlv (by omega)) rfl rfl dX12_isSoundNow_196 ?_
                                    refine V_iload_n X dX12_isSoundNow_199 1 rfl ?_
                                    refine R_iald X hK (13) (by omega) (i152) rfl (by omega) dX12_isSoundNow_200 ?_
                                    refine V.topi (fun x50 ex50 => ?_)
                                    refine V_iload_n X dX12_isSoundNow_201 0 rfl ?_
                                    refine V_callS (rest := []) X E.room ml_X12_159 st_X12_isIn (by omega) (by decide) (k_X12_isIn (σ := (t28, rO g ad N S F39 σ0)) (x50) (nI (i165))) rfl rfl (Nat.le_of_ble_eq_true rfl) ⟨by omega, by omega⟩ dX12_isSoundNow_202 (fun _ _ h => False.elim h) (fun v202 σ' hp202 => ?_)
                                    obtain ⟨hp202, rfl⟩ := hp202
                                    rcases hp202 with ⟨rfl, z51⟩ | ⟨rfl, z51⟩
                                    · -- yes
                                      show V g κ 4 (0 + 1 + 8 * i8 + 1 + 1) (0 + 4 + 40 * i8 + 4 + 4) (t28, rO g ad N S F39 σ0) 205 [(3, .int (nI (i165))), (2, .int (nI (i152))), (1, .int (nI (0))), (0, .ref (ad (0)))] [.int (nI (1))]
                                      refine V_ifeqN X (by omega) (tgt := 210) dX12_isSoundNow_205 (by decide) (fun h52 => absurd h52 (by omega)) (fun h52 => ?_)
                                      refine V_iconst (v := nI 0) X dX12_isSoundNow_208 (by decide) ?_
                                      exact V_zret X E (zbool z01_0) (by omega) (by omega) ⟨⟨_, rfl, z01_0⟩, ⟨_, _, rfl, hKF39, hIF39⟩⟩ dX12_isSoundNow_209
                                    · -- no
                                      show V g κ 4 (0 + 1 + 8 * i8 + 1 + 1) (0 + 4 + 40 * i8 + 4 + 4) (t28, rO g ad N S F39 σ0) 205 [(3, .int (nI (i165))), (2, .int (nI (i152))), (1, .int (nI (0))), (0, .ref (ad (0)))] [.int (nI (0))]
                                      refine V_ifeqN X (by omega) (tgt := 210) dX12_isSoundNow_205 (by decide) (fun h53 => ?_) (fun h53 => absurd h53 (by omega))
                                      refine V_iinc X (nI (i165 + 1)) [(3, .int (nI (i165 + 1))), (2, .int (nI (i152))), (1, .int (nI (0))), (0, .ref (ad (0)))] dX12_isSoundNow_210 0 rfl (zinc _) (by decide) rfl ?_
                                      refine V_goto (tgt := 165) X dX12_isSoundNow_213 (by decide) ?_
                                      exact V.sub [0, 1, 2, 3] rfl (ih165 _ (by omega) (i165 + 1) rfl (by omega))
                          exact L165 _ (0) rfl (by omega)
                    exact L152 _ (0) rfl (by omega)
                  · -- none
                    show V g κ 4 (0 + 1 + 8 * i8 + 1 + 1) (0 + 4 + 40 * i8 + 4 + 4) (t28, rO g ad N S F37 σ0) 137 [(1, .int (nI (0))), (0, .ref (ad (0)))] [.int (nI (0))]
                    refine V_ifneN X (by omega) (tgt := 142) dX12_isSoundNow_137 (by decide) (fun h54 => absurd h54 (by omega)) (fun h54 => ?_)
                    refine V_iload_n X dX12_isSoundNow_140 0 rfl ?_
                    exact V_zret X E (zbool z01_0) (by omega) (by omega) ⟨⟨_, rfl, z01_0⟩, ⟨_, _, rfl, hKF37, hIF37⟩⟩ dX12_isSoundNow_141
                · -- 124 false
                  refine V_iconst (v := nI 1) X dX12_isSoundNow_127 (by decide) ?_
                  refine V_goto (tgt := 132) X dX12_isSoundNow_128 (by decide) ?_
                  refine V_istore_n X [(1, .int (nI (1))), (0, .ref (ad (0)))] dX12_isSoundNow_132 (by decide) rfl ?_
                  refine V_aload_n X dX12_isSoundNow_133 1 rfl ?_
                  refine V_callV (rest := []) X E.room ml_X12_219 in_X12_isCast (ci := 16) rfl se_X12_isCast (R_recv hK (q := 0) (rlv (by omega)) rfl) (by omega) (by decide) (k_X12_isCast hK hIF34) rfl rfl (Nat.le_of_ble_eq_true rfl) ⟨by omega, by omega⟩ dX12_isSoundNow_134 (fun _ _ h => False.elim h) (fun v134 σ' hp134 => ?_)
                  obtain ⟨F55, rfl, hCF55, hIF55, hMF55, hZF55, hkF55, hp134⟩ := hp134
                  have hKF55 : rM N F F55 := (hKF34 : rM N F F34).trans hMF55
                  rcases hp134 with ⟨rfl, hn134, hc134⟩ | ⟨rfl, hn134⟩
                  · -- a cast
                    show V g κ 4 (0 + 1 + 8 * i8 + 1 + 1) (0 + 4 + 40 * i8 + 4 + 4) (t28, rO g ad N S F55 σ0) 137 [(1, .int (nI (1))), (0, .ref (ad (0)))] [.int (nI (1))]
                    refine V_ifneN X (by omega) (tgt := 142) dX12_isSoundNow_137 (by decide) (fun h56 => ?_) (fun h56 => absurd h56 (by omega))
                    refine V_aload_n X dX12_isSoundNow_142 1 rfl ?_
                    refine V_aload_n X dX12_isSoundNow_143 1 rfl ?_
                    refine V_callV (rest := [.ref (ad (0))]) X E.room ml_X12_182 in_X12_all (ci := 16) rfl se_X12_all (R_recv hK (q := 0) (rlv (by omega)) rfl) (by omega) (by decide) (k_X12_all hK hIF55) rfl rfl (Nat.le_of_ble_eq_true rfl) ⟨by omega, by omega⟩ dX12_isSoundNow_144 (fun _ _ h => False.elim h) (fun v144 σ' hp144 => ?_)
                    obtain ⟨hp144, rfl⟩ := hp144
                    cases (hp144 : _ = some (Value.int (nI (2 ^ N 2 - 1))))
                    show V g κ 4 (0 + 1 + 8 * i8 + 1 + 1) (0 + 4 + 40 * i8 + 4 + 4) (t28, rO g ad N S F55 σ0) 147 [(1, .int (nI (1))), (0, .ref (ad (0)))] [.int (nI (2 ^ N 2 - 1)), .ref (ad (0))]
                    refine V_callV (rest := []) X E.room ml_X12_175 in_X12_clash (ci := 16) rfl se_X12_clash (R_recv hK (q := 0) (rlv (by omega)) rfl) (by omega) (by decide) (k_X12_clash hK hIF55 (nI (2 ^ N 2 - 1))) rfl rfl (Nat.le_of_ble_eq_true rfl) ⟨by omega, by omega⟩ dX12_isSoundNow_147 (fun _ _ h => False.elim h) (fun v147 σ' hp147 => ?_)
                    obtain ⟨hp147, F57, rfl, hJF57⟩ := hp147
                    have hIF57 := hIF55.mv hJF57
                    have hKF57 : rM N F F57 := (hKF55 : rM N F F55).trans hJF57.m
                    cases (hp147 : _ = none)
                    show V g κ 4 (0 + 1 + 8 * i8 + 1 + 1) (0 + 4 + 40 * i8 + 4 + 4) (t28, rO g ad N S F57 σ0) 150 [(1, .int (nI (1))), (0, .ref (ad (0)))] []
                    refine V_iconst (v := nI 0) X dX12_isSoundNow_150 (by decide) ?_
                    refine V_istore_n X [(2, .int (nI (0))), (1, .int (nI (1))), (0, .ref (ad (0)))] dX12_isSoundNow_151 (by decide) rfl ?_
                    have L152 : ∀ (n152 : Nat) (i152 : Nat), n152 = N 0 - i152 → i152 ≤ N 0 → V g κ 4 (0 + 1 + 8 * i8 + 1 + 1) (0 + 4 + 40 * i8 + 4 + 4) (t28, rO g ad N S F57 σ0) 152 [(2, .int (nI (i152))), (1, .int (nI (1))), (0, .ref (ad (0)))] [] := by
                      intro n152
                      induction n152 using Nat.strongRecOn with
                      | ind n152 ih152 =>
                        intro i152 hn152 hi152
                        refine V_iload_n X dX12_isSoundNow_152 0 rfl ?_
                        refine V_aload_n X dX12_isSoundNow_153 2 rfl ?_
                        refine R_getf X fl_X12_10 hK (0) (rlv (by omega)) rfl rfl dX12_isSoundNow_154 ?_
                        refine V_callV (rest := [.int (nI (i152))]) X E.room ml_X12_42 in_Jx4a65c_size_8abf5 (ci := 3) rfl se_Jx4a65c_size_8abf5 (rO_list hK (i := 0) (by decide)) (by omega) (by decide) (r_size hK 0 (by decide)) rfl rfl (Nat.le_of_ble_eq_true rfl) ⟨by omega, by omega⟩ dX12_isSoundNow_157 (fun _ _ h => False.elim h) (fun v58 σ' hp59 => ?_)
                        obtain ⟨hp59, rfl⟩ := hp59
                        cases (hp59 : _ = some (Value.int (nI (N 0))))
                        show V g κ 4 (0 + 1 + 8 * i8 + 1 + 1) (0 + 4 + 40 * i8 + 4 + 4) (t28, rO g ad N S F57 σ0) 160 [(2, .int (nI (i152))), (1, .int (nI (1))), (0, .ref (ad (0)))] [.int (nI (N 0)), .int (nI (i152))]
                        refine V_icmpgeN X (by omega) (by omega) (tgt := 222) dX12_isSoundNow_160 (by decide) (fun h60 => ?_) (fun h60 => ?_)
                        · -- 160 true
                          refine V_iload_n X dX12_isSoundNow_222 1 rfl ?_
                          refine V_ifneN X (by omega) (tgt := 230) dX12_isSoundNow_223 (by decide) (fun h61 => ?_) (fun h61 => absurd h61 (by omega))
                          refine V_iconst (v := nI 0) X dX12_isSoundNow_230 (by decide) ?_
                          exact V_zret X E (zbool z01_0) (by omega) (by omega) ⟨⟨_, rfl, z01_0⟩, ⟨_, _, rfl, hKF57, hIF57⟩⟩ dX12_isSoundNow_231
                        · -- 160 false
                          refine V_iconst (v := nI 0) X dX12_isSoundNow_163 (by decide) ?_
                          refine V_istore_n X [(3, .int (nI (0))), (2, .int (nI (i152))), (1, .int (nI (1))), (0, .ref (ad (0)))] dX12_isSoundNow_164 (by decide) rfl ?_
                          have L165 : ∀ (n165 : Nat) (i165 : Nat), n165 = i152 - i165 → i165 ≤ i152 → V g κ 4 (0 + 1 + 8 * i8 + 1 + 1) (0 + 4 + 40 * i8 + 4 + 4) (t28, rO g ad N S F57 σ0) 165 [(3, .int (nI (i165))), (2, .int (nI (i152))), (1, .int (nI (1))), (0, .ref (ad (0)))] [] := by
                            intro n165
                            induction n165 using Nat.strongRecOn with
                            | ind n165 ih165 =>
                              intro i165 hn165 hi165
                              refine V_iload_n X dX12_isSoundNow_165 0 rfl ?_
                              refine V_iload_n X dX12_isSoundNow_166 1 rfl ?_
                              refine V_icmpgeN X (by omega) (by omega) (tgt := 216) dX12_isSoundNow_167 (by decide) (fun h62 => ?_) (fun h62 => ?_)
                              · -- 167 true
                                refine V_iinc X (nI (i152 + 1)) [(2, .int (nI (i152 + 1))), (3, .int (nI (i165))), (1, .int (nI (1))), (0, .ref (ad (0)))] dX12_isSoundNow_216 1 rfl (zinc _) (by decide) rfl ?_
                                refine V_goto (tgt := 152) X dX12_isSoundNow_219 (by decide) ?_
                                exact V.sub [0, 2, 3] rfl (ih152 _ (by omega) (i152 + 1) rfl (by omega))
                              · -- 167 false
                                refine V_aload_n X dX12_isSoundNow_170 3 rfl ?_
                                refine R_getf X fl_X12_28 hK (0) (rlv (by omega)) rfl rfl dX12_isSoundNow_171 ?_
                                refine V_iload_n X dX12_isSoundNow_174 1 rfl ?_
                                refine R_iald X hK (11) (by omega) (i152) rfl (by omega) dX12_isSoundNow_175 ?_
                                refine V.topi (fun x63 ex63 => ?_)
                                refine V_iconst (v := (-1)) X dX12_isSoundNow_176 (by decide) ?_
                                refine V_icmpeq X (tgt := 210) dX12_isSoundNow_177 (by decide) (fun h64 => ?_) (fun h64 => ?_)
                                · -- 177 true
                                  refine V_iinc X (nI (i165 + 1)) [(3, .int (nI (i165 + 1))), (2, .int (nI (i152))), (1, .int (nI (1))), (0, .ref (ad (0)))] dX12_isSoundNow_210 0 rfl (zinc _) (by decide) rfl ?_
                                  refine V_goto (tgt := 165) X dX12_isSoundNow_213 (by decide) ?_
                                  exact V.sub [0, 1, 2, 3] rfl (ih165 _ (by omega) (i165 + 1) rfl (by omega))
                                · -- 177 false
                                  refine V_aload_n X dX12_isSoundNow_180 3 rfl ?_
                                  refine R_getf X fl_X12_28 hK (0) (rlv (by omega)) rfl rfl dX12_isSoundNow_181 ?_
                                  refine V_iload_n X dX12_isSoundNow_184 1 rfl ?_
                                  refine R_iald X hK (11) (by omega) (i152) rfl (by omega) dX12_isSoundNow_185 ?_
                                  refine V.topi (fun x65 ex65 => ?_)
                                  refine V_aload_n X dX12_isSoundNow_186 3 rfl ?_
                                  refine R_getf X fl_X12_28 hK (0) (rlv (by omega)) rfl rfl dX12_isSoundNow_187 ?_
                                  refine V_iload_n X dX12_isSoundNow_190 0 rfl ?_
                                  refine R_iald X hK (11) (by omega) (i165) rfl (by omega) dX12_isSoundNow_191 ?_
                                  refine V.topi (fun x66 ex66 => ?_)
                                  refine V_icmpne X (tgt := 210) dX12_isSoundNow_192 (by decide) (fun h67 => ?_) (fun h67 => ?_)
                                  · -- 192 true
                                    refine V_iinc X (nI (i165 + 1)) [(3, .int (nI (i165 + 1))), (2, .int (nI (i152))), (1, .int (nI (1))), (0, .ref (ad (0)))] dX12_isSoundNow_210 0 rfl (zinc _) (by decide) rfl ?_
                                    refine V_goto (tgt := 165) X dX12_isSoundNow_213 (by decide) ?_
                                    exact V.sub [0, 1, 2, 3] rfl (ih165 _ (by omega) (i165 + 1) rfl (by omega))
                                  · -- 192 false
                                    refine V_aload_n X dX12_isSoundNow_195 3 rfl ?_
                                    refine R_getf X fl_X12_35 hK (0) (rlv (by omega)) rfl rfl dX12_isSoundNow_196 ?_
                                    refine V_iload_n X dX12_isSoundNow_199 1 rfl ?_
                                    refine R_iald X hK (13) (by omega) (i152) rfl (by omega) dX12_isSoundNow_200 ?_
                                    refine V.topi (fun x68 ex68 => ?_)
                                    refine V_iload_n X dX12_isSoundNow_201 0 rfl ?_
                                    refine V_callS (rest := []) X E.room ml_X12_159 st_X12_isIn (by omega) (by decide) (k_X12_isIn (σ := (t28, rO g ad N S F57 σ0)) (x68) (nI (i165))) rfl rfl (Nat.le_of_ble_eq_true rfl) ⟨by omega, by omega⟩ dX12_isSoundNow_202 (fun _ _ h => False.elim h) (fun v202 σ' hp202 => ?_)
                                    obtain ⟨hp202, rfl⟩ := hp202
                                    rcases hp202 with ⟨rfl, z69⟩ | ⟨rfl, z69⟩
                                    · -- yes
                                      show V g κ 4 (0 + 1 + 8 * i8 + 1 + 1) (0 + 4 + 40 * i8 + 4 + 4) (t28, rO g ad N S F57 σ0) 205 [(3, .int (nI (i165))), (2, .int (nI (i152))), (1, .int (nI (1))), (0, .ref (ad (0)))] [.int (nI (1))]
                                      refine V_ifeqN X (by omega) (tgt := 210) dX12_isSoundNow_205 (by decide) (fun h70 => absurd h70 (by omega)) (fun h70 => ?_)
                                      refine V_iconst (v := nI 0) X dX12_isSoundNow_208 (by decide) ?_
                                      exact V_zret X E (zbool z01_0) (by omega) (by omega) ⟨⟨_, rfl, z01_0⟩, ⟨_, _, rfl, hKF57, hIF57⟩⟩ dX12_isSoundNow_209
                                    · -- no
                                      show V g κ 4 (0 + 1 + 8 * i8 + 1 + 1) (0 + 4 + 40 * i8 + 4 + 4) (t28, rO g ad N S F57 σ0) 205 [(3, .int (nI (i165))), (2, .int (nI (i152))), (1, .int (nI (1))), (0, .ref (ad (0)))] [.int (nI (0))]
                                      refine V_ifeqN X (by omega) (tgt := 210) dX12_isSoundNow_205 (by decide) (fun h71 => ?_) (fun h71 => absurd h71 (by omega))
                                      refine V_iinc X (nI (i165 + 1)) [(3, .int (nI (i165 + 1))), (2, .int (nI (i152))), (1, .int (nI (1))), (0, .ref (ad (0)))] dX12_isSoundNow_210 0 rfl (zinc _) (by decide) rfl ?_
                                      refine V_goto (tgt := 165) X dX12_isSoundNow_213 (by decide) ?_
                                      exact V.sub [0, 1, 2, 3] rfl (ih165 _ (by omega) (i165 + 1) rfl (by omega))
                          exact L165 _ (0) rfl (by omega)
                    exact L152 _ (0) rfl (by omega)
                  · -- none
                    show V g κ 4 (0 + 1 + 8 * i8 + 1 + 1) (0 + 4 + 40 * i8 + 4 + 4) (t28, rO g ad N S F55 σ0) 137 [(1, .int (nI (1))), (0, .ref (ad (0)))] [.int (nI (0))]
                    refine V_ifneN X (by omega) (tgt := 142) dX12_isSoundNow_137 (by decide) (fun h72 => absurd h72 (by omega)) (fun h72 => ?_)
                    refine V_iload_n X dX12_isSoundNow_140 0 rfl ?_
                    exact V_zret X E (zbool z01_1) (by omega) (by omega) ⟨⟨_, rfl, z01_1⟩, ⟨_, _, rfl, hKF55, hIF55⟩⟩ dX12_isSoundNow_141
              · -- 115 false
                refine V_iconst (v := nI 0) X dX12_isSoundNow_118 (by decide) ?_
                exact V_zret X E (zbool z01_0) (by omega) (by omega) ⟨⟨_, rfl, z01_0⟩, ⟨_, _, rfl, rM.rfl', hI⟩⟩ dX12_isSoundNow_119
        exact L71 _ (0) (-1) rfl (by omega)
  exact L8 _ (0) ((t.1 + 1, t.2 + 4)) (-1) rfl (by omega) (rfl)
set_option maxRecDepth 100000 in
set_option maxHeartbeats 4000000 in
theorem k_X12_isSound {g : zG} {t : Nat × Nat} {ad N : Nat → Nat} {S : Int64} {σ0 : Nat → Option va_E} {F : Nat → Nat → Int32} (hK : rK g ad N) (hI : rI N F)  : Ct g 28 yX12_isSound cX12_isSound 1 (some FieldType.boolean) 51 252 [.ref (ad (0))] (t, rO g ad N S F σ0) (qN pB g ad N S F σ0) zNo := by
  refine Ct.of (lv := [(0, .ref (ad (0)))]) (by decide) (Nat.le_of_ble_eq_true rfl) rfl ?_
  intro κ X E B _
  have X : zX g κ RX12 cX12_isSound 1 := X
  obtain ⟨b0, b1, b2, b3, b4⟩ := hI.bnd
  refine V_aload_n X dX12_isSound_0 0 rfl ?_
  refine V_iconst (v := nI 0) X dX12_isSound_1 (by decide) ?_
  refine R_putf X fl_X12_38 zt_X12 hK (0) (rlv (by omega)) (by omega) rfl (Nat.le_of_ble_eq_true rfl) rfl rfl rfl rfl rfl dX12_isSound_2 (fun F1 hF1 => ?_)
  have hJF1 := (rM.rfl' : rM N F F).set hF1 (by omega)
  have hIF1 := hI.st hF1 (by omega)
  refine V_aload_n X dX12_isSound_5 0 rfl ?_
  refine V_callV (rest := []) X E.room ml_X12_322 in_X12_isSoundNow (ci := 16) rfl se_X12_isSoundNow (R_recv hK (q := 0) (rlv (by omega)) rfl) (by omega) (by decide) (k_X12_isSoundNow hK hIF1) rfl rfl (Nat.le_of_ble_eq_true rfl) ⟨by omega, by omega⟩ dX12_isSound_6 (fun _ _ h => False.elim h) (fun v6 σ' hp6 => ?_)
  obtain ⟨hp6, t3, F2, rfl, hJF2, hIF2⟩ := hp6
  have hKF2 : rM N F F2 := (hJF1 : rM N F F1).trans hJF2
  obtain ⟨r4, rfl, hr4⟩ := hp6
  show V g κ 1 (0 + 51) (0 + 252) (t3, rO g ad N S F2 σ0) 9 [(0, .ref (ad (0)))] [.int (r4)]
  exact V_zret X E (zbool hr4) (by omega) (by omega) ⟨⟨_, rfl, hr4⟩, ⟨_, _, rfl, hKF2, hIF2⟩⟩ dX12_isSound_9
