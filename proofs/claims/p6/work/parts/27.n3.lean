set_option maxRecDepth 100000 in
set_option maxHeartbeats 4000000 in
theorem k_X12_partsOf {g : zG} {t : Nat × Nat} {ad N : Nat → Nat} {S : Int64} {σ0 : Nat → Option va_E} {F : Nat → Nat → Int32} (hK : rK g ad N) (hI : rI N F)  (a1 : Int32) : Ct g 13 yX12_partsOf cX12_partsOf 4 (some FieldType.int) 0 0 [.ref (ad (0)), .int (a1)] (t, rO g ad N S F σ0) (fun v σ' => (∃ m, v = some (.int (nI m)) ∧ pOf N F a1 (N 2) m) ∧ σ' = (t, rO g ad N S F σ0)) zNo := by
  refine Ct.of (lv := [(0, .ref (ad (0))), (1, .int (a1))]) (by decide) (Nat.le_of_ble_eq_true rfl) rfl ?_
  intro κ X E B _
  have X : zX g κ RX12 cX12_partsOf 4 := X
  obtain ⟨b0, b1, b2, b3, b4⟩ := hI.bnd
  refine V_iconst (v := nI 0) X dX12_partsOf_0 (by decide) ?_
  refine V_istore_n X [(2, .int (nI (0))), (0, .ref (ad (0))), (1, .int (a1))] dX12_partsOf_1 (by decide) rfl ?_
  refine V_iconst (v := nI 0) X dX12_partsOf_2 (by decide) ?_
  refine V_istore_n X [(3, .int (nI (0))), (2, .int (nI (0))), (0, .ref (ad (0))), (1, .int (a1))] dX12_partsOf_3 (by decide) rfl ?_
  have L4 : ∀ (n4 : Nat) (i4 : Nat) (y4_2 : Nat), n4 = N 2 - i4 → i4 ≤ N 2 → pOf N F a1 i4 y4_2 → V g κ 4 (0) (0) (t, rO g ad N S F σ0) 4 [(3, .int (nI (i4))), (2, .int (nI (y4_2))), (0, .ref (ad (0))), (1, .int (a1))] [] := by
    intro n4
    induction n4 using Nat.strongRecOn with
    | ind n4 ih4 =>
      intro i4 y4_2 hn4 hi4 hy4_2
      refine V_iload_n X dX12_partsOf_4 0 rfl ?_
      refine V_aload_n X dX12_partsOf_5 2 rfl ?_
      refine R_getf X fl_X12_19 hK (0) (rlv (by omega)) rfl rfl dX12_partsOf_6 ?_
      refine V_callV (rest := [.int (nI (i4))]) X E.room ml_X12_42 in_Jx4a65c_size_8abf5 (ci := 3) rfl se_Jx4a65c_size_8abf5 (rO_list hK (i := 2) (by decide)) (by omega) (by decide) (r_size hK 2 (by decide)) rfl rfl (Nat.le_of_ble_eq_true rfl) ⟨by omega, by omega⟩ dX12_partsOf_9 (fun _ _ h => False.elim h) (fun v1 σ' hp2 => ?_)
      obtain ⟨hp2, rfl⟩ := hp2
      cases (hp2 : _ = some (Value.int (nI (N 2))))
      show V g κ 4 (0) (0) (t, rO g ad N S F σ0) 12 [(3, .int (nI (i4))), (2, .int (nI (y4_2))), (0, .ref (ad (0))), (1, .int (a1))] [.int (nI (N 2)), .int (nI (i4))]
      refine V_icmpgeN X (by omega) (by omega) (tgt := 50) dX12_partsOf_12 (by decide) (fun h3 => ?_) (fun h3 => ?_)
      · -- 12 true
        refine V_iload_n X dX12_partsOf_50 1 rfl ?_
        exact V_iret X E (by omega) (by omega) ⟨⟨_, rfl, by have e : i4 = N 2 := (by omega); rw [← e]; exact hy4_2⟩, rfl⟩ dX12_partsOf_51
      · -- 12 false
        refine V_iload_n X dX12_partsOf_15 1 rfl ?_
        refine V_iload_n X dX12_partsOf_16 3 rfl ?_
        refine V_iload_n X dX12_partsOf_17 0 rfl ?_
        refine V_callS (rest := [.int (nI (y4_2))]) X E.room ml_X12_159 st_X12_isIn (by omega) (by decide) (k_X12_isIn (σ := (t, rO g ad N S F σ0)) (a1) (nI (i4))) rfl rfl (Nat.le_of_ble_eq_true rfl) ⟨by omega, by omega⟩ dX12_partsOf_18 (fun _ _ h => False.elim h) (fun v18 σ' hp18 => ?_)
        obtain ⟨hp18, rfl⟩ := hp18
        rcases hp18 with ⟨rfl, z4⟩ | ⟨rfl, z4⟩
        · -- yes
          show V g κ 4 (0) (0) (t, rO g ad N S F σ0) 21 [(3, .int (nI (i4))), (2, .int (nI (y4_2))), (0, .ref (ad (0))), (1, .int (a1))] [.int (nI (1)), .int (nI (y4_2))]
          refine V_ifeqN X (by omega) (tgt := 41) dX12_partsOf_21 (by decide) (fun h5 => absurd h5 (by omega)) (fun h5 => ?_)
          refine V_aload_n X dX12_partsOf_24 2 rfl ?_
          refine R_getf X fl_X12_19 hK (0) (rlv (by omega)) rfl rfl dX12_partsOf_25 ?_
          refine V_iload_n X dX12_partsOf_28 0 rfl ?_
          refine V_callV (rest := [.int (nI (y4_2))]) X E.room ml_X12_97 in_Jx4a65c_get_915e3 (ci := 3) rfl se_Jx4a65c_get_915e3 (rO_list hK (i := 2) (by decide)) (by omega) (by decide) (r_get hK 2 (by decide) (j := i4) (by omega) (by omega)) rfl rfl (Nat.le_of_ble_eq_true rfl) ⟨by omega, by omega⟩ dX12_partsOf_29 (fun _ _ h => False.elim h) (fun v6 σ' hp7 => ?_)
          obtain ⟨hp7, rfl⟩ := hp7
          cases (hp7 : _ = some (Value.ref (ad (26 + (i4)))))
          show V g κ 4 (0) (0) (t, rO g ad N S F σ0) 32 [(3, .int (nI (i4))), (2, .int (nI (y4_2))), (0, .ref (ad (0))), (1, .int (a1))] [.ref (ad (26 + (i4))), .int (nI (y4_2))]
          refine V_cast X (C := RX10) rfl cl_X12_85 (R_recv hK (q := 26 + (i4)) (rlv (by omega)) (rCell_scene (by omega))) dX12_partsOf_32 ?_
          obtain ⟨m8, hm8, em8⟩ := hI.sp (i4) (by omega)
          have gm8 : m8 < 128 := Nat.lt_of_lt_of_le hm8 (zp2 (n := 7) (by omega))
          refine R_getfN (z := nI (m8)) X fl_X12_88 hK (26 + (i4)) (rlv (by omega)) (rCell_scene (by omega)) rfl em8 dX12_partsOf_35 ?_
          refine V_goto (tgt := 42) X dX12_partsOf_38 (by decide) ?_
          refine V_iorN X dX12_partsOf_42 ?_
          refine V_istore_n X [(2, .int (nI ((y4_2) ||| (m8)))), (3, .int (nI (i4))), (0, .ref (ad (0))), (1, .int (a1))] dX12_partsOf_43 (by decide) rfl ?_
          refine V_iinc X (nI (i4 + 1)) [(3, .int (nI (i4 + 1))), (2, .int (nI ((y4_2) ||| (m8)))), (0, .ref (ad (0))), (1, .int (a1))] dX12_partsOf_44 1 rfl (zinc _) (by decide) rfl ?_
          refine V_goto (tgt := 4) X dX12_partsOf_47 (by decide) ?_
          exact V.sub [0, 1, 2, 3] rfl (ih4 _ (by omega) (i4 + 1) ((y4_2) ||| (m8)) rfl (by omega) (hy4_2.yes hm8 gm8 em8))
        · -- no
          show V g κ 4 (0) (0) (t, rO g ad N S F σ0) 21 [(3, .int (nI (i4))), (2, .int (nI (y4_2))), (0, .ref (ad (0))), (1, .int (a1))] [.int (nI (0)), .int (nI (y4_2))]
          refine V_ifeqN X (by omega) (tgt := 41) dX12_partsOf_21 (by decide) (fun h9 => ?_) (fun h9 => absurd h9 (by omega))
          refine V_iconst (v := nI 0) X dX12_partsOf_41 (by decide) ?_
          refine V_iorN X dX12_partsOf_42 ?_
          refine V_istore_n X [(2, .int (nI ((y4_2) ||| (0)))), (3, .int (nI (i4))), (0, .ref (ad (0))), (1, .int (a1))] dX12_partsOf_43 (by decide) rfl ?_
          refine V_iinc X (nI (i4 + 1)) [(3, .int (nI (i4 + 1))), (2, .int (nI ((y4_2) ||| (0)))), (0, .ref (ad (0))), (1, .int (a1))] dX12_partsOf_44 1 rfl (zinc _) (by decide) rfl ?_
          refine V_goto (tgt := 4) X dX12_partsOf_47 (by decide) ?_
          exact V.sub [0, 1, 2, 3] rfl (ih4 _ (by omega) (i4 + 1) ((y4_2) ||| (0)) rfl (by omega) (hy4_2.no z4))
  exact L4 _ (0) (0) rfl (by omega) (pOf.zero)
