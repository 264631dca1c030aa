theorem zfitb {x : Int32} (h : x = 0 ∨ x = 1) : fits .boolean (.int x) = true := by
  rcases h with rfl | rfl <;> rfl
/-- a coat that can be pawned; one that can be redeemed -/
def rNp (F : Nat → Nat → Int32) (a1 : Int32) : Prop := ∃ c, c < 6 ∧ a1 = nI c ∧ F (32 + c) 3 = 0
def rNr (F : Nat → Nat → Int32) (a1 a2 : Int32) : Prop := ∃ c p, c < 6 ∧ p < 5 ∧ a1 = nI c ∧ a2 = nI p ∧ ¬ F (32 + c) 3 = 0 ∧ rCo F c ≤ F (21 + p) 4
section PW
variable {F F1 F2 F3 F4 : Nat → Nat → Int32} {c p : Nat} {c0 x1 x2 x3 x4 x5 w w1 w2 : Int32}
theorem rPw_end (hc : c < 6) (hp : p < 5) (h1 : F1 = fset F 0 0 c0) (h2 : F2 = fset F1 (32 + c) 3 (nI 1)) (e1 : x1 = F2 0 6) (e2 : x2 = F2 (32 + c) 2) (ew1 : w1 = x1 + x2) (h3 : F3 = fset F2 0 6 w1) (e3 : x3 = F3 (21 + p) 4) (e4 : x4 = F3 (32 + c) 2) (ew2 : w2 = x3 + x4) (h4 : F4 = fset F3 (21 + p) 4 w2) (e5 : x5 = F4 (21 + p) 4) : x5 = F (21 + p) 4 + F (32 + c) 2 ∧ rE (rPw F c p) F4 := by
  have q1 : x1 = F 0 6 := by rw [e1, h2, fset_ne (by omega), h1, fset_ne (by omega)]
  have q2 : x2 = F (32 + c) 2 := by rw [e2, h2, fset_ne (by omega), h1, fset_ne (by omega)]
  have q3 : x3 = F (21 + p) 4 := by rw [e3, h3, fset_ne (by omega), h2, fset_ne (by omega), h1, fset_ne (by omega)]
  have q4 : x4 = F (32 + c) 2 := by rw [e4, h3, fset_ne (by omega), h2, fset_ne (by omega), h1, fset_ne (by omega)]
  refine ⟨by rw [e5, h4, fset_eq, ew2, q3, q4], ?_⟩
  rw [h4, h3, h2, ew1, ew2, q1, q2, q3, q4]
  exact (((rE.rfl' : rE F F).set h1 (by omega)).fs.fs).fs
theorem rRd_end (hc : c < 6) (hp : p < 5) (h1 : F1 = fset F 0 0 c0) (hw : w = rCo F1 c) (h2 : F2 = fset F1 (32 + c) 3 (nI 0)) (e1 : x1 = F2 0 7) (ew1 : w1 = x1 + w) (h3 : F3 = fset F2 0 7 w1) (e3 : x3 = F3 (21 + p) 4) (ew2 : w2 = x3 - w) (h4 : F4 = fset F3 (21 + p) 4 w2) (e5 : x5 = F4 (21 + p) 4) : x5 = F (21 + p) 4 - rCo F c ∧ rE (rRd F c p) F4 := by
  have q0 : w = rCo F c := by
    rw [hw]
    unfold rCo
    rw [h1, fset_ne (by omega)]
  have q1 : x1 = F 0 7 := by rw [e1, h2, fset_ne (by omega), h1, fset_ne (by omega)]
  have q3 : x3 = F (21 + p) 4 := by rw [e3, h3, fset_ne (by omega), h2, fset_ne (by omega), h1, fset_ne (by omega)]
  refine ⟨by rw [e5, h4, fset_eq, ew2, q3, q0], ?_⟩
  rw [h4, h3, h2, ew1, ew2, q1, q3, q0]
  exact (((rE.rfl' : rE F F).set h1 (by omega)).fs.fs).fs
end PW
/-- the same but for purses -/
def rW (N : Nat → Nat) (F0 F : Nat → Nat → Int32) : Prop := (∀ k j : Nat, ((14 ≤ k ∧ k < 21) ∨ (21 ≤ k ∧ k < 26 ∧ j < 4) ∨ (26 ≤ k ∧ k < 43) ∨ (k = 0 ∧ 6 ≤ j ∧ j ≤ 9)) → F k j = F0 k j) ∧ (rKn N F0 → rKn N F)
section RW
variable {N : Nat → Nat} {F G H : Nat → Nat → Int32} {b x : Int32} {h : Nat → Nat} {k j q : Nat}
theorem rW.of (hM : rM N F G) : rW N F G := ⟨fun k j q => hM.1 k j (by unfold rcr; omega), hM.2⟩
theorem rW.m (hW : rW N F G) (hM : rM N G H) : rW N F H := ⟨fun k j q => (hM.1 k j (by unfold rcr; omega)).trans (hW.1 k j q), fun z => hM.2 (hW.2 z)⟩
theorem rW.set (hW : rW N F G) (hF : H = fset G k j x) (hk : 21 ≤ k ∧ k < 26) (hj : j = 4) : rW N F H := by
  have e : ∀ a c : Nat, ¬ (a = k ∧ c = j) → H a c = G a c := fun a c n => by rw [hF, fset_ne (by omega)]
  exact ⟨fun a c q => (e a c (by omega)).trans (hW.1 a c q), fun z => (hW.2 z).mv fun a c q => e a c (by omega)⟩
theorem rW.bs (hW : rW N F G) (bn : N 0 ≤ 7 ∧ N 1 ≤ 5 ∧ N 2 ≤ 6 ∧ N 3 ≤ 6 ∧ N 4 ≤ 5) (hb : rBs N F b h) : rBs N G b h := rBs_mv bn.1 bn.2.1 bn.2.2.1 (fun a c q1 q2 q3 => hW.1 a c (by omega)) hb
theorem rW.ac (hW : rW N F G) (bn : N 0 ≤ 7 ∧ N 1 ≤ 5 ∧ N 2 ≤ 6 ∧ N 3 ≤ 6 ∧ N 4 ≤ 5) : zAc (rDu N G) b h q ↔ zAc (rDu N F) b h q := and_congr_right fun _ => exists_congr fun p => and_congr_left fun _ => rDu_mv bn.2.2.1 (fun a c q1 q2 q3 => hW.1 a c (by omega)) p
theorem rNt_end {F1 F2 F3 : Nat → Nat → Int32} {t : Nat} {x1 x2 x3 w1 w2 w3 : Int32} (hKn : rKn N F) (hb : rBs N F b h) (hW : rW N F G) (ha : ∀ q, q < N 1 → G (21 + q) 4 = F (21 + q) 4 + zPo (fun i => F (21 + i) 2) (zAc (rDu N F) b h) (N 1) (F (38 + t) 2) q) (h1 : F1 = fset G 0 6 w1) (h2 : F2 = fset F1 (38 + t) 2 w2) (h3 : F3 = fset F2 0 8 w3) (ew1 : w1 = x1 + x2) (e1 : x1 = G 0 6) (e2 : x2 = F (38 + t) 2) (ew2 : w2 = x2 / nI 2) (ew3 : w3 = x3 + nI 1) (e3 : x3 = F2 0 8) (ht : t < 5) : rNt N F t F3 := by
  have q3 : x3 = F 0 8 := by rw [e3, h2, fset_ne (by omega), h1, fset_ne (by omega)]; exact hW.1 0 8 (by omega)
  refine ⟨b, h, hb, G, hW.1, hW.2 hKn, ha, ?_⟩
  rw [h3, h2, h1, ew1, ew2, ew3, q3, e1, e2, hW.1 0 6 (by omega)]
end RW
set_option maxRecDepth 100000 in
set_option maxHeartbeats 4000000 in
theorem k_X12_pause {g : zG} {t : Nat × Nat} {ad N : Nat → Nat} {S : Int64} {σ0 : Nat → Option va_E} {F : Nat → Nat → Int32} (hK : rK g ad N) (hI : rI N F)  (a1 : Int32) (a2 : Int32) : Ct g 13 yX12_pause cX12_pause 4 (some FieldType.int) 0 0 [.ref (ad (0)), .int (a1), .int (a2)] (t, rO g ad N S F σ0) (qEx g ad N S σ0 (fun x F' => zR2 (F' 0 0) (zlt (N 2) a1) (zin 0 9 a2) (rM N F F') (∃ s : Nat, a1 = nI s ∧ s < N 2 ∧ x = F (26 + s) 1 ∧ rM N (fset (fset F (26 + s) 1 a2) 0 11 (nI 0)) F'))) zNo := by
  refine Ct.of (lv := [(0, .ref (ad (0))), (1, .int (a1)), (2, .int (a2))]) (by decide) (Nat.le_of_ble_eq_true rfl) rfl ?_
  intro κ X E B _
  have X : zX g κ RX12 cX12_pause 4 := X
  obtain ⟨b0, b1, b2, b3, b4⟩ := hI.bnd
  refine V_aload_n X dX12_pause_0 0 rfl ?_
  refine V_iconst (v := nI 0) X dX12_pause_1 (by decide) ?_
  refine R_putf X fl_X12_38 zt_X12 hK (0) (rlv (by omega)) (by omega) rfl (Nat.le_of_ble_eq_true rfl) rfl rfl rfl rfl rfl dX12_pause_2 (fun F1 hF1 => ?_)
  have hJF1 := (rE.rfl' : rE F F).set hF1 (by omega)
  have hIF1 := hI.st hF1 (by omega)
  refine V_aload_n X dX12_pause_5 0 rfl ?_
  refine V_iload_n X dX12_pause_6 1 rfl ?_
  refine V_callV (rest := []) X E.room ml_X12_93 in_X12_isScene (ci := 16) rfl se_X12_isScene (R_recv hK (q := 0) (rlv (by omega)) rfl) (by omega) (by decide) (k_X12_isScene hK hIF1 (a1)) rfl rfl (Nat.le_of_ble_eq_true rfl) ⟨by omega, by omega⟩ dX12_pause_7 (fun _ _ h => False.elim h) (fun v7 σ' hp7 => ?_)
  obtain ⟨hp7, rfl⟩ := hp7
  rcases hp7 with ⟨rfl, z2⟩ | ⟨rfl, z2⟩
  · -- yes
    obtain ⟨j3, ej3, uj3⟩ := id z2
    subst ej3
    show V g κ 4 (0) (0) (t, rO g ad N S F1 σ0) 10 [(0, .ref (ad (0))), (1, .int (nI (j3))), (2, .int (a2))] [.int (nI (1))]
    refine V_ifneN X (by omega) (tgt := 19) dX12_pause_10 (by decide) (fun h4 => ?_) (fun h4 => absurd h4 (by omega))
    refine V_iload_n X dX12_pause_19 2 rfl ?_
    refine V_iconst (v := nI 0) X dX12_pause_20 (by decide) ?_
    refine V_bipush (v := nI 9) X dX12_pause_21 (by decide) ?_
    refine V_callS (rest := []) X E.room ml_X12_46 st_X12_is (by omega) (by decide) (k_X12_is (σ := (t, rO g ad N S F1 σ0)) (a2) (nI (0)) (nI (9))) rfl rfl (Nat.le_of_ble_eq_true rfl) ⟨by omega, by omega⟩ dX12_pause_23 (fun _ _ h => False.elim h) (fun v23 σ' hp23 => ?_)
    obtain ⟨hp23, rfl⟩ := hp23
    rcases hp23 with ⟨rfl, z5⟩ | ⟨rfl, z5⟩
    · -- yes
      obtain ⟨j6, ej6, -, uj6⟩ := zin_of (Int32.not_lt.mpr z5.1) z5.2 (by decide) (by decide)
      subst ej6
      show V g κ 4 (0) (0) (t, rO g ad N S F1 σ0) 26 [(0, .ref (ad (0))), (1, .int (nI (j3))), (2, .int (nI (j6)))] [.int (nI (1))]
      refine V_ifneN X (by omega) (tgt := 35) dX12_pause_26 (by decide) (fun h7 => ?_) (fun h7 => absurd h7 (by omega))
      refine V_aload_n X dX12_pause_35 0 rfl ?_
      refine R_getf X fl_X12_19 hK (0) (rlv (by omega)) rfl rfl dX12_pause_36 ?_
      refine V_iload_n X dX12_pause_39 1 rfl ?_
      refine V_callV (rest := []) X E.room ml_X12_97 in_Jx4a65c_get_915e3 (ci := 3) rfl se_Jx4a65c_get_915e3 (rO_list hK (i := 2) (by decide)) (by omega) (by decide) (r_get hK 2 (by decide) (j := j3) (by omega) (by omega)) rfl rfl (Nat.le_of_ble_eq_true rfl) ⟨by omega, by omega⟩ dX12_pause_40 (fun _ _ h => False.elim h) (fun v8 σ' hp9 => ?_)
      obtain ⟨hp9, rfl⟩ := hp9
      cases (hp9 : _ = some (Value.ref (ad (26 + (j3)))))
      show V g κ 4 (0) (0) (t, rO g ad N S F1 σ0) 43 [(0, .ref (ad (0))), (1, .int (nI (j3))), (2, .int (nI (j6)))] [.ref (ad (26 + (j3)))]
      refine V_cast X (C := RX10) rfl cl_X12_85 (R_recv hK (q := 26 + (j3)) (rlv (by omega)) (rCell_scene (by omega))) dX12_pause_43 ?_
      refine R_getf X fl_X12_90 hK (26 + (j3)) (rlv (by omega)) (rCell_scene (by omega)) rfl dX12_pause_46 (V.topi (fun x10 ex10 => ?_))
      refine V_istore_n X [(3, .int (x10)), (0, .ref (ad (0))), (1, .int (nI (j3))), (2, .int (nI (j6)))] dX12_pause_49 (by decide) rfl ?_
      refine V_aload_n X dX12_pause_50 1 rfl ?_
      refine R_getf X fl_X12_19 hK (0) (rlv (by omega)) rfl rfl dX12_pause_51 ?_
      refine V_iload_n X dX12_pause_54 2 rfl ?_
      refine V_callV (rest := []) X E.room ml_X12_97 in_Jx4a65c_get_915e3 (ci := 3) rfl se_Jx4a65c_get_915e3 (rO_list hK (i := 2) (by decide)) (by omega) (by decide) (r_get hK 2 (by decide) (j := j3) (by omega) (by omega)) rfl rfl (Nat.le_of_ble_eq_true rfl) ⟨by omega, by omega⟩ dX12_pause_55 (fun _ _ h => False.elim h) (fun v11 σ' hp12 => ?_)
      obtain ⟨hp12, rfl⟩ := hp12
      cases (hp12 : _ = some (Value.ref (ad (26 + (j3)))))
      show V g κ 4 (0) (0) (t, rO g ad N S F1 σ0) 58 [(3, .int (x10)), (0, .ref (ad (0))), (1, .int (nI (j3))), (2, .int (nI (j6)))] [.ref (ad (26 + (j3)))]
      refine V_cast X (C := RX10) rfl cl_X12_85 (R_recv hK (q := 26 + (j3)) (rlv (by omega)) (rCell_scene (by omega))) dX12_pause_58 ?_
      refine V_iload_n X dX12_pause_61 3 rfl ?_
      refine R_putf X fl_X12_90 zt_X10 hK (26 + (j3)) (rlv (by omega)) (by omega) (rCell_scene (by omega)) (Nat.le_of_ble_eq_true rfl) rfl rfl rfl rfl ((rCell_scene (by omega)).trans rfl) dX12_pause_62 (fun F13 hF13 => ?_)
      have hJF13 : rE (fset F (26 + (j3)) 1 (nI (j6))) F13 := by rw [hF13]; exact (hJF1 : rE F F1).fs
      have hIF13 := hIF1.st hF13 (by omega)
      refine V_aload_n X dX12_pause_65 1 rfl ?_
      refine V_iconst (v := nI 0) X dX12_pause_66 (by decide) ?_
      refine R_putf X fl_X12_70 zt_X12 hK (0) (rlv (by omega)) (by omega) rfl (Nat.le_of_ble_eq_true rfl) rfl rfl rfl rfl rfl dX12_pause_67 (fun F14 hF14 => ?_)
      have hJF14 : rE (fset (fset F (26 + (j3)) 1 (nI (j6))) (0) 11 (nI (0))) F14 := by rw [hF14]; exact (hJF13 : rE (fset F (26 + (j3)) 1 (nI (j6))) F13).fs
      have hIF14 := hIF13.unk hF14 (by decide)
      refine V_iload_n X dX12_pause_70 0 rfl ?_
      exact V_iret X E (by omega) (by omega) ⟨_, rfl, _, _, rfl, hIF14, Or.inr (Or.inr ⟨(by rw [hF14, fset_ne (by omega)]; exact (by rw [hF13, fset_ne (by omega)]; exact (by rw [hF1, fset_eq]))), ⟨_, rfl, by omega⟩, zin_ok (by assumption) (by decide) (by decide), _, rfl, by omega, ex10.trans (by rw [hF1, fset_ne (by omega)]), hJF14.m⟩)⟩ dX12_pause_71
    · -- no
      show V g κ 4 (0) (0) (t, rO g ad N S F1 σ0) 26 [(0, .ref (ad (0))), (1, .int (nI (j3))), (2, .int (a2))] [.int (nI (0))]
      refine V_ifneN X (by omega) (tgt := 35) dX12_pause_26 (by decide) (fun h15 => absurd h15 (by omega)) (fun h15 => ?_)
      refine V_aload_n X dX12_pause_29 0 rfl ?_
      refine V_iconst (v := nI 2) X dX12_pause_30 (by decide) ?_
      refine V_callV (rest := []) X E.room ml_X12_50 in_X12_refuse (ci := 16) rfl se_X12_refuse (R_recv hK (q := 0) (rlv (by omega)) rfl) (by omega) (by decide) (k_X12_refuse hK hIF1 (nI (2))) rfl rfl (Nat.le_of_ble_eq_true rfl) ⟨by omega, by omega⟩ dX12_pause_31 (fun _ _ h => False.elim h) (fun v31 σ' hp31 => ?_)
      obtain ⟨hp31, F16, rfl, hF16⟩ := hp31
      have hKF16 : rE F F16 := (hJF1 : rE F F1).set hF16 (by omega)
      have hIF16 := hIF1.st hF16 (by omega)
      cases (hp31 : _ = some (Value.int (nI (0))))
      show V g κ 4 (0) (0) (t, rO g ad N S F16 σ0) 34 [(0, .ref (ad (0))), (1, .int (nI (j3))), (2, .int (a2))] [.int (nI (0))]
      exact V_iret X E (by omega) (by omega) ⟨_, rfl, _, _, rfl, hIF16, Or.inr (Or.inl ⟨(by rw [hF16, fset_eq]), ⟨_, rfl, by omega⟩, fun q => absurd (zin_no (by decide) (by decide) q) (by assumption), hKF16.m⟩)⟩ dX12_pause_34
  · -- no
    show V g κ 4 (0) (0) (t, rO g ad N S F1 σ0) 10 [(0, .ref (ad (0))), (1, .int (a1)), (2, .int (a2))] [.int (nI (0))]
    refine V_ifneN X (by omega) (tgt := 19) dX12_pause_10 (by decide) (fun h17 => absurd h17 (by omega)) (fun h17 => ?_)
    refine V_aload_n X dX12_pause_13 0 rfl ?_
    refine V_iconst (v := nI 1) X dX12_pause_14 (by decide) ?_
    refine V_callV (rest := []) X E.room ml_X12_50 in_X12_refuse (ci := 16) rfl se_X12_refuse (R_recv hK (q := 0) (rlv (by omega)) rfl) (by omega) (by decide) (k_X12_refuse hK hIF1 (nI (1))) rfl rfl (Nat.le_of_ble_eq_true rfl) ⟨by omega, by omega⟩ dX12_pause_15 (fun _ _ h => False.elim h) (fun v15 σ' hp15 => ?_)
    obtain ⟨hp15, F18, rfl, hF18⟩ := hp15
    have hKF18 : rE F F18 := (hJF1 : rE F F1).set hF18 (by omega)
    have hIF18 := hIF1.st hF18 (by omega)
    cases (hp15 : _ = some (Value.int (nI (0))))
    show V g κ 4 (0) (0) (t, rO g ad N S F18 σ0) 18 [(0, .ref (ad (0))), (1, .int (a1)), (2, .int (a2))] [.int (nI (0))]
    exact V_iret X E (by omega) (by omega) ⟨_, rfl, _, _, rfl, hIF18, Or.inl ⟨(by rw [hF18, fset_eq]), by assumption, hKF18.m⟩⟩ dX12_pause_18
set_option maxRecDepth 100000 in
set_option maxHeartbeats 4000000 in
theorem k_X12_sick {g : zG} {t : Nat × Nat} {ad N : Nat → Nat} {S : Int64} {σ0 : Nat → Option va_E} {F : Nat → Nat → Int32} (hK : rK g ad N) (hI : rI N F)  (a1 : Int32) (a2 : Int32) (ha2 : a2 = 0 ∨ a2 = 1) : Ct g 13 yX12_sick cX12_sick 3 (some FieldType.int) 1 4 [.ref (ad (0)), .int (a1), .int (a2)] (t, rO g ad N S F σ0) (qEx g ad N S σ0 (fun x F' => zR2 (F' 0 0) (zlt (N 1) a1) True (rM N F F') (∃ p : Nat, a1 = nI p ∧ p < N 1 ∧ x = nI (zwl F' (N 1)) ∧ rM N (fset (fset F (21 + p) 3 a2) 0 11 (nI 0)) F'))) zNo := by
  refine Ct.of (lv := [(0, .ref (ad (0))), (1, .int (a1)), (2, .int (a2))]) (by decide) (Nat.le_of_ble_eq_true rfl) rfl ?_
  intro κ X E B _
  have X : zX g κ RX12 cX12_sick 3 := X
  obtain ⟨b0, b1, b2, b3, b4⟩ := hI.bnd
  refine V_aload_n X dX12_sick_0 0 rfl ?_
  refine V_iconst (v := nI 0) X dX12_sick_1 (by decide) ?_
  refine R_putf X fl_X12_38 zt_X12 hK (0) (rlv (by omega)) (by omega) rfl (Nat.le_of_ble_eq_true rfl) rfl rfl rfl rfl rfl dX12_sick_2 (fun F1 hF1 => ?_)
  have hJF1 := (rE.rfl' : rE F F).set hF1 (by omega)
  have hIF1 := hI.st hF1 (by omega)
  refine V_aload_n X dX12_sick_5 0 rfl ?_
  refine V_iload_n X dX12_sick_6 1 rfl ?_
  refine V_callV (rest := []) X E.room ml_X12_118 in_X12_isPlayer (ci := 16) rfl se_X12_isPlayer (R_recv hK (q := 0) (rlv (by omega)) rfl) (by omega) (by decide) (k_X12_isPlayer hK hIF1 (a1)) rfl rfl (Nat.le_of_ble_eq_true rfl) ⟨by omega, by omega⟩ dX12_sick_7 (fun _ _ h => False.elim h) (fun v7 σ' hp7 => ?_)
  obtain ⟨hp7, rfl⟩ := hp7
  rcases hp7 with ⟨rfl, z2⟩ | ⟨rfl, z2⟩
  · -- yes
    obtain ⟨j3, ej3, uj3⟩ := id z2
    subst ej3
    show V g κ 3 (0) (0) (t, rO g ad N S F1 σ0) 10 [(0, .ref (ad (0))), (1, .int (nI (j3))), (2, .int (a2))] [.int (nI (1))]
    refine V_ifneN X (by omega) (tgt := 19) dX12_sick_10 (by decide) (fun h4 => ?_) (fun h4 => absurd h4 (by omega))
    refine V_aload_n X dX12_sick_19 0 rfl ?_
    refine R_getf X fl_X12_16 hK (0) (rlv (by omega)) rfl rfl dX12_sick_20 ?_
    refine V_iload_n X dX12_sick_23 1 rfl ?_
    refine V_callV (rest := []) X E.room ml_X12_97 in_Jx4a65c_get_915e3 (ci := 3) rfl se_Jx4a65c_get_915e3 (rO_list hK (i := 1) (by decide)) (by omega) (by decide) (r_get hK 1 (by decide) (j := j3) (by omega) (by omega)) rfl rfl (Nat.le_of_ble_eq_true rfl) ⟨by omega, by omega⟩ dX12_sick_24 (fun _ _ h => False.elim h) (fun v5 σ' hp6 => ?_)
    obtain ⟨hp6, rfl⟩ := hp6
    cases (hp6 : _ = some (Value.ref (ad (21 + (j3)))))
    show V g κ 3 (0) (0) (t, rO g ad N S F1 σ0) 27 [(0, .ref (ad (0))), (1, .int (nI (j3))), (2, .int (a2))] [.ref (ad (21 + (j3)))]
    refine V_cast X (C := RX9) rfl cl_X12_74 (R_recv hK (q := 21 + (j3)) (rlv (by omega)) (rCell_player (by omega))) dX12_sick_27 ?_
    refine V_iload_n X dX12_sick_30 2 rfl ?_
    refine R_putf X fl_X12_115 zt_X9 hK (21 + (j3)) (rlv (by omega)) (by omega) (rCell_player (by omega)) (Nat.le_of_ble_eq_true rfl) rfl rfl (zbool ha2) (zfitb ha2) ((rCell_player (by omega)).trans rfl) dX12_sick_31 (fun F7 hF7 => ?_)
    have hJF7 : rE (fset F (21 + (j3)) 3 (a2)) F7 := by rw [hF7]; exact (hJF1 : rE F F1).fs
    have hIF7 := hIF1.sk (i := j3) hF7 (ha2)
    refine V_aload_n X dX12_sick_34 0 rfl ?_
    refine V_iconst (v := nI 0) X dX12_sick_35 (by decide) ?_
    refine R_putf X fl_X12_70 zt_X12 hK (0) (rlv (by omega)) (by omega) rfl (Nat.le_of_ble_eq_true rfl) rfl rfl rfl rfl rfl dX12_sick_36 (fun F8 hF8 => ?_)
    have hJF8 : rE (fset (fset F (21 + (j3)) 3 (a2)) (0) 11 (nI (0))) F8 := by rw [hF8]; exact (hJF7 : rE (fset F (21 + (j3)) 3 (a2)) F7).fs
    have hIF8 := hIF7.unk hF8 (by decide)
    refine V_aload_n X dX12_sick_39 0 rfl ?_
    refine V_callV (rest := []) X E.room ml_X12_121 in_X12_well (ci := 16) rfl se_X12_well (R_recv hK (q := 0) (rlv (by omega)) rfl) (by omega) (by decide) (k_X12_well hK hIF8) rfl rfl (Nat.le_of_ble_eq_true rfl) ⟨by omega, by omega⟩ dX12_sick_40 (fun _ _ h => False.elim h) (fun v40 σ' hp40 => ?_)
    obtain ⟨hp40, t9, rfl⟩ := hp40
    cases (hp40 : _ = some (Value.int (nI (zwl F8 (N 1)))))
    show V g κ 3 (0 + 1) (0 + 4) (t9, rO g ad N S F8 σ0) 43 [(0, .ref (ad (0))), (1, .int (nI (j3))), (2, .int (a2))] [.int (nI (zwl F8 (N 1)))]
    exact V_iret X E (by omega) (by omega) ⟨_, rfl, _, _, rfl, hIF8, Or.inr (Or.inr ⟨(by rw [hF8, fset_ne (by omega)]; exact (by rw [hF7, fset_ne (by omega)]; exact (by rw [hF1, fset_eq]))), ⟨_, rfl, by omega⟩, trivial, _, rfl, by omega, rfl, hJF8.m⟩)⟩ dX12_sick_43
  · -- no
    show V g κ 3 (0) (0) (t, rO g ad N S F1 σ0) 10 [(0, .ref (ad (0))), (1, .int (a1)), (2, .int (a2))] [.int (nI (0))]
    refine V_ifneN X (by omega) (tgt := 19) dX12_sick_10 (by decide) (fun h10 => absurd h10 (by omega)) (fun h10 => ?_)
    refine V_aload_n X dX12_sick_13 0 rfl ?_
    refine V_iconst (v := nI 1) X dX12_sick_14 (by decide) ?_
    refine V_callV (rest := []) X E.room ml_X12_50 in_X12_refuse (ci := 16) rfl se_X12_refuse (R_recv hK (q := 0) (rlv (by omega)) rfl) (by omega) (by decide) (k_X12_refuse hK hIF1 (nI (1))) rfl rfl (Nat.le_of_ble_eq_true rfl) ⟨by omega, by omega⟩ dX12_sick_15 (fun _ _ h => False.elim h) (fun v15 σ' hp15 => ?_)
    obtain ⟨hp15, F11, rfl, hF11⟩ := hp15
    have hKF11 : rE F F11 := (hJF1 : rE F F1).set hF11 (by omega)
    have hIF11 := hIF1.st hF11 (by omega)
    cases (hp15 : _ = some (Value.int (nI (0))))
    show V g κ 3 (0) (0) (t, rO g ad N S F11 σ0) 18 [(0, .ref (ad (0))), (1, .int (a1)), (2, .int (a2))] [.int (nI (0))]
    exact V_iret X E (by omega) (by omega) ⟨_, rfl, _, _, rfl, hIF11, Or.inl ⟨(by rw [hF11, fset_eq]), by assumption, hKF11.m⟩⟩ dX12_sick_18
set_option maxRecDepth 100000 in
set_option maxHeartbeats 4000000 in
theorem k_X12_pawn {g : zG} {t : Nat × Nat} {ad N : Nat → Nat} {S : Int64} {σ0 : Nat → Option va_E} {F : Nat → Nat → Int32} (hK : rK g ad N) (hI : rI N F)  (a1 : Int32) (a2 : Int32) : Ct g 13 yX12_pawn cX12_pawn 4 (some FieldType.int) 0 0 [.ref (ad (0)), .int (a1), .int (a2)] (t, rO g ad N S F σ0) (qEx g ad N S σ0 (fun x F' => zR2 (F' 0 0) (zlt (N 3) a1 ∧ zlt (N 1) a2) (rNp F a1) (rM N F F') (∃ c p : Nat, a1 = nI c ∧ c < N 3 ∧ a2 = nI p ∧ p < N 1 ∧ x = F (21 + p) 4 + F (32 + c) 2 ∧ rM N (rPw F c p) F'))) zNo := by
  refine Ct.of (lv := [(0, .ref (ad (0))), (1, .int (a1)), (2, .int (a2))]) (by decide) (Nat.le_of_ble_eq_true rfl) rfl ?_
  intro κ X E B _
  have X : zX g κ RX12 cX12_pawn 4 := X
  obtain ⟨b0, b1, b2, b3, b4⟩ := hI.bnd
  refine V_aload_n X dX12_pawn_0 0 rfl ?_
  refine V_iconst (v := nI 0) X dX12_pawn_1 (by decide) ?_
  refine R_putf X fl_X12_38 zt_X12 hK (0) (rlv (by omega)) (by omega) rfl (Nat.le_of_ble_eq_true rfl) rfl rfl rfl rfl rfl dX12_pawn_2 (fun F1 hF1 => ?_)
  have hJF1 := (rE.rfl' : rE F F).set hF1 (by omega)
  have hIF1 := hI.st hF1 (by omega)
  refine V_aload_n X dX12_pawn_5 0 rfl ?_
  refine V_iload_n X dX12_pawn_6 1 rfl ?_
  refine V_callV (rest := []) X E.room ml_X12_132 in_X12_isCoat (ci := 16) rfl se_X12_isCoat (R_recv hK (q := 0) (rlv (by omega)) rfl) (by omega) (by decide) (k_X12_isCoat hK hIF1 (a1)) rfl rfl (Nat.le_of_ble_eq_true rfl) ⟨by omega, by omega⟩ dX12_pawn_7 (fun _ _ h => False.elim h) (fun v7 σ' hp7 => ?_)
  obtain ⟨hp7, rfl⟩ := hp7
  rcases hp7 with ⟨rfl, z2⟩ | ⟨rfl, z2⟩
  · -- yes
    obtain ⟨j3, ej3, uj3⟩ := id z2
    subst ej3
    show V g κ 4 (0) (0) (t, rO g ad N S F1 σ0) 10 [(0, .ref (ad (0))), (1, .int (nI (j3))), (2, .int (a2))] [.int (nI (1))]
    refine V_ifeqN X (by omega) (tgt := 21) dX12_pawn_10 (by decide) (fun h4 => absurd h4 (by omega)) (fun h4 => ?_)
    refine V_aload_n X dX12_pawn_13 0 rfl ?_
    refine V_iload_n X dX12_pawn_14 2 rfl ?_
    refine V_callV (rest := []) X E.room ml_X12_118 in_X12_isPlayer (ci := 16) rfl se_X12_isPlayer (R_recv hK (q := 0) (rlv (by omega)) rfl) (by omega) (by decide) (k_X12_isPlayer hK hIF1 (a2)) rfl rfl (Nat.le_of_ble_eq_true rfl) ⟨by omega, by omega⟩ dX12_pawn_15 (fun _ _ h => False.elim h) (fun v15 σ' hp15 => ?_)
    obtain ⟨hp15, rfl⟩ := hp15
    rcases hp15 with ⟨rfl, z5⟩ | ⟨rfl, z5⟩
    · -- yes
      obtain ⟨j6, ej6, uj6⟩ := id z5
      subst ej6
      show V g κ 4 (0) (0) (t, rO g ad N S F1 σ0) 18 [(0, .ref (ad (0))), (1, .int (nI (j3))), (2, .int (nI (j6)))] [.int (nI (1))]
      refine V_ifneN X (by omega) (tgt := 27) dX12_pawn_18 (by decide) (fun h7 => ?_) (fun h7 => absurd h7 (by omega))
      refine V_aload_n X dX12_pawn_27 0 rfl ?_
      refine R_getf X fl_X12_22 hK (0) (rlv (by omega)) rfl rfl dX12_pawn_28 ?_
      refine V_iload_n X dX12_pawn_31 1 rfl ?_
      refine V_callV (rest := []) X E.room ml_X12_97 in_Jx4a65c_get_915e3 (ci := 3) rfl se_Jx4a65c_get_915e3 (rO_list hK (i := 3) (by decide)) (by omega) (by decide) (r_get hK 3 (by decide) (j := j3) (by omega) (by omega)) rfl rfl (Nat.le_of_ble_eq_true rfl) ⟨by omega, by omega⟩ dX12_pawn_32 (fun _ _ h => False.elim h) (fun v8 σ' hp9 => ?_)
      obtain ⟨hp9, rfl⟩ := hp9
      cases (hp9 : _ = some (Value.ref (ad (32 + (j3)))))
      show V g κ 4 (0) (0) (t, rO g ad N S F1 σ0) 35 [(0, .ref (ad (0))), (1, .int (nI (j3))), (2, .int (nI (j6)))] [.ref (ad (32 + (j3)))]
      refine V_cast X (C := RX7) rfl cl_X12_124 (R_recv hK (q := 32 + (j3)) (rlv (by omega)) (rCell_coat (by omega))) dX12_pawn_35 ?_
      refine V_astore_n X [(3, .ref (ad (32 + (j3)))), (0, .ref (ad (0))), (1, .int (nI (j3))), (2, .int (nI (j6)))] dX12_pawn_38 (by decide) rfl ?_
      refine V_aload_n X dX12_pawn_39 0 rfl ?_
      refine R_getf X fl_X12_135 hK (32 + (j3)) (rlv (by omega)) (rCell_coat (by omega)) rfl dX12_pawn_40 (V.topi (fun x10 ex10 => ?_))
      refine V_ifeq X (tgt := 52) dX12_pawn_43 (by decide) (fun h11 => ?_) (fun h11 => ?_)
      · -- 43 true
        refine V_aload_n X dX12_pawn_52 0 rfl ?_
        refine V_iconst (v := nI 1) X dX12_pawn_53 (by decide) ?_
        refine R_putf X fl_X12_135 zt_X7 hK (32 + (j3)) (rlv (by omega)) (by omega) (rCell_coat (by omega)) (Nat.le_of_ble_eq_true rfl) rfl rfl rfl rfl ((rCell_coat (by omega)).trans rfl) dX12_pawn_54 (fun F12 hF12 => ?_)
        have hIF12 := hIF1.st hF12 (by omega)
        refine V_aload_n X dX12_pawn_57 1 rfl ?_
        refine V_dup X dX12_pawn_58 rfl ?_
        refine R_getf X fl_X12_138 hK (0) (rlv (by omega)) rfl rfl dX12_pawn_59 (V.topi (fun x13 ex13 => ?_))
        refine V_aload_n X dX12_pawn_62 0 rfl ?_
        refine R_getf X fl_X12_129 hK (32 + (j3)) (rlv (by omega)) (rCell_coat (by omega)) rfl dX12_pawn_63 (V.topi (fun x14 ex14 => ?_))
        refine V_iadd X dX12_pawn_66 (V.topi (fun w15 ew15 => ?_))
        refine R_putf X fl_X12_138 zt_X12 hK (0) (rlv (by omega)) (by omega) rfl (Nat.le_of_ble_eq_true rfl) rfl rfl rfl rfl rfl dX12_pawn_67 (fun F16 hF16 => ?_)
        have hIF16 := hIF12.st hF16 (by omega)
        refine V_aload_n X dX12_pawn_70 1 rfl ?_
        refine R_getf X fl_X12_16 hK (0) (rlv (by omega)) rfl rfl dX12_pawn_71 ?_
        refine V_iload_n X dX12_pawn_74 3 rfl ?_
        refine V_callV (rest := []) X E.room ml_X12_97 in_Jx4a65c_get_915e3 (ci := 3) rfl se_Jx4a65c_get_915e3 (rO_list hK (i := 1) (by decide)) (by omega) (by decide) (r_get hK 1 (by decide) (j := j6) (by omega) (by omega)) rfl rfl (Nat.le_of_ble_eq_true rfl) ⟨by omega, by omega⟩ dX12_pawn_75 (fun _ _ h => False.elim h) (fun v17 σ' hp18 => ?_)
        obtain ⟨hp18, rfl⟩ := hp18
        cases (hp18 : _ = some (Value.ref (ad (21 + (j6)))))
        show V g κ 4 (0) (0) (t, rO g ad N S F16 σ0) 78 [(3, .ref (ad (32 + (j3)))), (0, .ref (ad (0))), (1, .int (nI (j3))), (2, .int (nI (j6)))] [.ref (ad (21 + (j6)))]
        refine V_cast X (C := RX9) rfl cl_X12_74 (R_recv hK (q := 21 + (j6)) (rlv (by omega)) (rCell_player (by omega))) dX12_pawn_78 ?_
        refine V_dup X dX12_pawn_81 rfl ?_
        refine R_getf X fl_X12_141 hK (21 + (j6)) (rlv (by omega)) (rCell_player (by omega)) rfl dX12_pawn_82 (V.topi (fun x19 ex19 => ?_))
        refine V_aload_n X dX12_pawn_85 0 rfl ?_
        refine R_getf X fl_X12_129 hK (32 + (j3)) (rlv (by omega)) (rCell_coat (by omega)) rfl dX12_pawn_86 (V.topi (fun x20 ex20 => ?_))
        refine V_iadd X dX12_pawn_89 (V.topi (fun w21 ew21 => ?_))
        refine R_putf X fl_X12_141 zt_X9 hK (21 + (j6)) (rlv (by omega)) (by omega) (rCell_player (by omega)) (Nat.le_of_ble_eq_true rfl) rfl rfl rfl rfl ((rCell_player (by omega)).trans rfl) dX12_pawn_90 (fun F22 hF22 => ?_)
        have hIF22 := hIF16.st hF22 (by omega)
        refine V_aload_n X dX12_pawn_93 1 rfl ?_
        refine R_getf X fl_X12_16 hK (0) (rlv (by omega)) rfl rfl dX12_pawn_94 ?_
        refine V_iload_n X dX12_pawn_97 3 rfl ?_
        refine V_callV (rest := []) X E.room ml_X12_97 in_Jx4a65c_get_915e3 (ci := 3) rfl se_Jx4a65c_get_915e3 (rO_list hK (i := 1) (by decide)) (by omega) (by decide) (r_get hK 1 (by decide) (j := j6) (by omega) (by omega)) rfl rfl (Nat.le_of_ble_eq_true rfl) ⟨by omega, by omega⟩ dX12_pawn_98 (fun _ _ h => False.elim h) (fun v23 σ' hp24 => ?_)
        obtain ⟨hp24, rfl⟩ := hp24
        cases (hp24 : _ = some (Value.ref (ad (21 + (j6)))))
        show V g κ 4 (0) (0) (t, rO g ad N S F22 σ0) 101 [(3, .ref (ad (32 + (j3)))), (0, .ref (ad (0))), (1, .int (nI (j3))), (2, .int (nI (j6)))] [.ref (ad (21 + (j6)))]
        refine V_cast X (C := RX9) rfl cl_X12_74 (R_recv hK (q := 21 + (j6)) (rlv (by omega)) (rCell_player (by omega))) dX12_pawn_101 ?_
        refine R_getf X fl_X12_141 hK (21 + (j6)) (rlv (by omega)) (rCell_player (by omega)) rfl dX12_pawn_104 (V.topi (fun x25 ex25 => ?_))
        obtain ⟨hvx, hE9⟩ := rPw_end (c := j3) (p := j6) (by omega) (by omega) hF1 hF12 ex13 ex14 ew15 hF16 ex19 ex20 ew21 hF22 ex25
        exact V_iret X E (by omega) (by omega) ⟨_, rfl, _, _, rfl, hIF22, Or.inr (Or.inr ⟨(by rw [hF22, fset_ne (by omega)]; exact (by rw [hF16, fset_ne (by omega)]; exact (by rw [hF12, fset_ne (by omega)]; exact (by rw [hF1, fset_eq])))), ⟨⟨_, rfl, by omega⟩, ⟨_, rfl, by omega⟩⟩, ⟨_, by omega, rfl, (ex10.trans (by rw [hF1, fset_ne (by omega)])).symm.trans h11⟩, _, _, rfl, by omega, rfl, by omega, hvx, hE9.m⟩)⟩ dX12_pawn_107
      · -- 43 false
        refine V_aload_n X dX12_pawn_46 1 rfl ?_
        refine V_iconst (v := nI 2) X dX12_pawn_47 (by decide) ?_
        refine V_callV (rest := []) X E.room ml_X12_50 in_X12_refuse (ci := 16) rfl se_X12_refuse (R_recv hK (q := 0) (rlv (by omega)) rfl) (by omega) (by decide) (k_X12_refuse hK hIF1 (nI (2))) rfl rfl (Nat.le_of_ble_eq_true rfl) ⟨by omega, by omega⟩ dX12_pawn_48 (fun _ _ h => False.elim h) (fun v48 σ' hp48 => ?_)
        obtain ⟨hp48, F26, rfl, hF26⟩ := hp48
        have hKF26 : rE F F26 := (hJF1 : rE F F1).set hF26 (by omega)
        have hIF26 := hIF1.st hF26 (by omega)
        cases (hp48 : _ = some (Value.int (nI (0))))
        show V g κ 4 (0) (0) (t, rO g ad N S F26 σ0) 51 [(3, .ref (ad (32 + (j3)))), (0, .ref (ad (0))), (1, .int (nI (j3))), (2, .int (nI (j6)))] [.int (nI (0))]
        exact V_iret X E (by omega) (by omega) ⟨_, rfl, _, _, rfl, hIF26, Or.inr (Or.inl ⟨(by rw [hF26, fset_eq]), ⟨⟨_, rfl, by omega⟩, ⟨_, rfl, by omega⟩⟩, fun ⟨c9, l9, e9, z9⟩ => by obtain rfl : j3 = c9 := (nI_eq (by omega) (by omega)).mp e9; exact h11 ((show x10 = F (32 + (j3)) 3 from ex10.trans (by rw [hF1, fset_ne (by omega)])).trans z9), hKF26.m⟩)⟩ dX12_pawn_51
    · -- no
      show V g κ 4 (0) (0) (t, rO g ad N S F1 σ0) 18 [(0, .ref (ad (0))), (1, .int (nI (j3))), (2, .int (a2))] [.int (nI (0))]
      refine V_ifneN X (by omega) (tgt := 27) dX12_pawn_18 (by decide) (fun h27 => absurd h27 (by omega)) (fun h27 => ?_)
      refine V_aload_n X dX12_pawn_21 0 rfl ?_
      refine V_iconst (v := nI 1) X dX12_pawn_22 (by decide) ?_
      refine V_callV (rest := []) X E.room ml_X12_50 in_X12_refuse (ci := 16) rfl se_X12_refuse (R_recv hK (q := 0) (rlv (by omega)) rfl) (by omega) (by decide) (k_X12_refuse hK hIF1 (nI (1))) rfl rfl (Nat.le_of_ble_eq_true rfl) ⟨by omega, by omega⟩ dX12_pawn_23 (fun _ _ h => False.elim h) (fun v23 σ' hp23 => ?_)
      obtain ⟨hp23, F28, rfl, hF28⟩ := hp23
      have hKF28 : rE F F28 := (hJF1 : rE F F1).set hF28 (by omega)
      have hIF28 := hIF1.st hF28 (by omega)
      cases (hp23 : _ = some (Value.int (nI (0))))
      show V g κ 4 (0) (0) (t, rO g ad N S F28 σ0) 26 [(0, .ref (ad (0))), (1, .int (nI (j3))), (2, .int (a2))] [.int (nI (0))]
      exact V_iret X E (by omega) (by omega) ⟨_, rfl, _, _, rfl, hIF28, Or.inl ⟨(by rw [hF28, fset_eq]), fun q => by first | exact absurd q.1 (by assumption) | exact absurd q.2 (by assumption), hKF28.m⟩⟩ dX12_pawn_26
  · -- no
    show V g κ 4 (0) (0) (t, rO g ad N S F1 σ0) 10 [(0, .ref (ad (0))), (1, .int (a1)), (2, .int (a2))] [.int (nI (0))]
    refine V_ifeqN X (by omega) (tgt := 21) dX12_pawn_10 (by decide) (fun h29 => ?_) (fun h29 => absurd h29 (by omega))
    refine V_aload_n X dX12_pawn_21 0 rfl ?_
    refine V_iconst (v := nI 1) X dX12_pawn_22 (by decide) ?_
    refine V_callV (rest := []) X E.room ml_X12_50 in_X12_refuse (ci := 16) rfl se_X12_refuse (R_recv hK (q := 0) (rlv (by omega)) rfl) (by omega) (by decide) (k_X12_refuse hK hIF1 (nI (1))) rfl rfl (Nat.le_of_ble_eq_true rfl) ⟨by omega, by omega⟩ dX12_pawn_23 (fun _ _ h => False.elim h) (fun v23 σ' hp23 => ?_)
    obtain ⟨hp23, F30, rfl, hF30⟩ := hp23
    have hKF30 : rE F F30 := (hJF1 : rE F F1).set hF30 (by omega)
    have hIF30 := hIF1.st hF30 (by omega)
    cases (hp23 : _ = some (Value.int (nI (0))))
    show V g κ 4 (0) (0) (t, rO g ad N S F30 σ0) 26 [(0, .ref (ad (0))), (1, .int (a1)), (2, .int (a2))] [.int (nI (0))]
    exact V_iret X E (by omega) (by omega) ⟨_, rfl, _, _, rfl, hIF30, Or.inl ⟨(by rw [hF30, fset_eq]), fun q => by first | exact absurd q.1 (by assumption) | exact absurd q.2 (by assumption), hKF30.m⟩⟩ dX12_pawn_26
set_option maxRecDepth 100000 in
set_option maxHeartbeats 4000000 in
theorem k_X12_redeem {g : zG} {t : Nat × Nat} {ad N : Nat → Nat} {S : Int64} {σ0 : Nat → Option va_E} {F : Nat → Nat → Int32} (hK : rK g ad N) (hI : rI N F)  (a1 : Int32) (a2 : Int32) : Ct g 13 yX12_redeem cX12_redeem 5 (some FieldType.int) 0 0 [.ref (ad (0)), .int (a1), .int (a2)] (t, rO g ad N S F σ0) (qEx g ad N S σ0 (fun x F' => zR2 (F' 0 0) (zlt (N 3) a1 ∧ zlt (N 1) a2) (rNr F a1 a2) (rM N F F') (∃ c p : Nat, a1 = nI c ∧ c < N 3 ∧ a2 = nI p ∧ p < N 1 ∧ x = F (21 + p) 4 - rCo F c ∧ rM N (rRd F c p) F'))) zNo := by
  refine Ct.of (lv := [(0, .ref (ad (0))), (1, .int (a1)), (2, .int (a2))]) (by decide) (Nat.le_of_ble_eq_true rfl) rfl ?_
  intro κ X E B _
  have X : zX g κ RX12 cX12_redeem 5 := X
  obtain ⟨b0, b1, b2, b3, b4⟩ := hI.bnd
  refine V_aload_n X dX12_redeem_0 0 rfl ?_
  refine V_iconst (v := nI 0) X dX12_redeem_1 (by decide) ?_
  refine R_putf X fl_X12_38 zt_X12 hK (0) (rlv (by omega)) (by omega) rfl (Nat.le_of_ble_eq_true rfl) rfl rfl rfl rfl rfl dX12_redeem_2 (fun F1 hF1 => ?_)
  have hJF1 := (rE.rfl' : rE F F).set hF1 (by omega)
  have hIF1 := hI.st hF1 (by omega)
  refine V_aload_n X dX12_redeem_5 0 rfl ?_
  refine V_iload_n X dX12_redeem_6 1 rfl ?_
  refine V_callV (rest := []) X E.room ml_X12_132 in_X12_isCoat (ci := 16) rfl se_X12_isCoat (R_recv hK (q := 0) (rlv (by omega)) rfl) (by omega) (by decide) (k_X12_isCoat hK hIF1 (a1)) rfl rfl (Nat.le_of_ble_eq_true rfl) ⟨by omega, by omega⟩ dX12_redeem_7 (fun _ _ h => False.elim h) (fun v7 σ' hp7 => ?_)
  obtain ⟨hp7, rfl⟩ := hp7
  rcases hp7 with ⟨rfl, z2⟩ | ⟨rfl, z2⟩
  · -- yes
    obtain ⟨j3, ej3, uj3⟩ := id z2
    subst ej3
    show V g κ 5 (0) (0) (t, rO g ad N S F1 σ0) 10 [(0, .ref (ad (0))), (1, .int (nI (j3))), (2, .int (a2))] [.int (nI (1))]
    refine V_ifeqN X (by omega) (tgt := 21) dX12_redeem_10 (by decide) (fun h4 => absurd h4 (by omega)) (fun h4 => ?_)
    refine V_aload_n X dX12_redeem_13 0 rfl ?_
    refine V_iload_n X dX12_redeem_14 2 rfl ?_
    refine V_callV (rest := []) X E.room ml_X12_118 in_X12_isPlayer (ci := 16) rfl se_X12_isPlayer (R_recv hK (q := 0) (rlv (by omega)) rfl) (by omega) (by decide) (k_X12_isPlayer hK hIF1 (a2)) rfl rfl (Nat.le_of_ble_eq_true rfl) ⟨by omega, by omega⟩ dX12_redeem_15 (fun _ _ h => False.elim h) (fun v15 σ' hp15 => ?_)
    obtain ⟨hp15, rfl⟩ := hp15
    rcases hp15 with ⟨rfl, z5⟩ | ⟨rfl, z5⟩
    · -- yes
      obtain ⟨j6, ej6, uj6⟩ := id z5
      subst ej6
      show V g κ 5 (0) (0) (t, rO g ad N S F1 σ0) 18 [(0, .ref (ad (0))), (1, .int (nI (j3))), (2, .int (nI (j6)))] [.int (nI (1))]
      refine V_ifneN X (by omega) (tgt := 27) dX12_redeem_18 (by decide) (fun h7 => ?_) (fun h7 => absurd h7 (by omega))
      refine V_aload_n X dX12_redeem_27 0 rfl ?_
      refine R_getf X fl_X12_22 hK (0) (rlv (by omega)) rfl rfl dX12_redeem_28 ?_
      refine V_iload_n X dX12_redeem_31 1 rfl ?_
      refine V_callV (rest := []) X E.room ml_X12_97 in_Jx4a65c_get_915e3 (ci := 3) rfl se_Jx4a65c_get_915e3 (rO_list hK (i := 3) (by decide)) (by omega) (by decide) (r_get hK 3 (by decide) (j := j3) (by omega) (by omega)) rfl rfl (Nat.le_of_ble_eq_true rfl) ⟨by omega, by omega⟩ dX12_redeem_32 (fun _ _ h => False.elim h) (fun v8 σ' hp9 => ?_)
      obtain ⟨hp9, rfl⟩ := hp9
      cases (hp9 : _ = some (Value.ref (ad (32 + (j3)))))
      show V g κ 5 (0) (0) (t, rO g ad N S F1 σ0) 35 [(0, .ref (ad (0))), (1, .int (nI (j3))), (2, .int (nI (j6)))] [.ref (ad (32 + (j3)))]
      refine V_cast X (C := RX7) rfl cl_X12_124 (R_recv hK (q := 32 + (j3)) (rlv (by omega)) (rCell_coat (by omega))) dX12_redeem_35 ?_
      refine V_astore_n X [(3, .ref (ad (32 + (j3)))), (0, .ref (ad (0))), (1, .int (nI (j3))), (2, .int (nI (j6)))] dX12_redeem_38 (by decide) rfl ?_
      refine V_aload_n X dX12_redeem_39 0 rfl ?_
      refine R_getf X fl_X12_129 hK (32 + (j3)) (rlv (by omega)) (rCell_coat (by omega)) rfl dX12_redeem_40 (V.topi (fun x10 ex10 => ?_))
      refine V_aload_n X dX12_redeem_43 0 rfl ?_
      refine R_getf X fl_X12_129 hK (32 + (j3)) (rlv (by omega)) (rCell_coat (by omega)) rfl dX12_redeem_44 (V.topi (fun x11 ex11 => ?_))
      refine V_bipush (v := nI 10) X dX12_redeem_47 (by decide) ?_
      refine V_idiv X (by decide) dX12_redeem_49 (V.topi (fun w12 ew12 => ?_))
      refine V_iadd X dX12_redeem_50 (V.topi (fun w13 ew13 => ?_))
      refine V_istore X [(4, .int (w13)), (3, .ref (ad (32 + (j3)))), (0, .ref (ad (0))), (1, .int (nI (j3))), (2, .int (nI (j6)))] dX12_redeem_51 (by decide) rfl ?_
      have hco : w13 = rCo F1 (j3) := by rw [ew13, ex10, ew12, ex11]; rfl
      have hcF : rCo F1 (j3) = rCo F (j3) := by unfold rCo; rw [hF1, fset_ne (by omega)]
      refine V_aload_n X dX12_redeem_53 1 rfl ?_
      refine R_getf X fl_X12_135 hK (32 + (j3)) (rlv (by omega)) (rCell_coat (by omega)) rfl dX12_redeem_54 (V.topi (fun x14 ex14 => ?_))
      refine V_ifeq X (tgt := 79) dX12_redeem_57 (by decide) (fun h15 => ?_) (fun h15 => ?_)
      · -- 57 true
        refine V_aload_n X dX12_redeem_79 2 rfl ?_
        refine V_iconst (v := nI 2) X dX12_redeem_80 (by decide) ?_
        refine V_callV (rest := []) X E.room ml_X12_50 in_X12_refuse (ci := 16) rfl se_X12_refuse (R_recv hK (q := 0) (rlv (by omega)) rfl) (by omega) (by decide) (k_X12_refuse hK hIF1 (nI (2))) rfl rfl (Nat.le_of_ble_eq_true rfl) ⟨by omega, by omega⟩ dX12_redeem_81 (fun _ _ h => False.elim h) (fun v81 σ' hp81 => ?_)
        obtain ⟨hp81, F16, rfl, hF16⟩ := hp81
        have hKF16 : rE F F16 := (hJF1 : rE F F1).set hF16 (by omega)
        have hIF16 := hIF1.st hF16 (by omega)
        cases (hp81 : _ = some (Value.int (nI (0))))
        show V g κ 5 (0) (0) (t, rO g ad N S F16 σ0) 84 [(4, .int (w13)), (3, .ref (ad (32 + (j3)))), (0, .ref (ad (0))), (1, .int (nI (j3))), (2, .int (nI (j6)))] [.int (nI (0))]
        exact V_iret X E (by omega) (by omega) ⟨_, rfl, _, _, rfl, hIF16, Or.inr (Or.inl ⟨(by rw [hF16, fset_eq]), ⟨⟨_, rfl, by omega⟩, ⟨_, rfl, by omega⟩⟩, fun ⟨c9, p9, hc9, hp9, e9, f9, z9, l9⟩ => by obtain rfl : j3 = c9 := (nI_eq (by omega) (by omega)).mp e9; obtain rfl : j6 = p9 := (nI_eq (by omega) (by omega)).mp f9; exact z9 ((show x14 = F (32 + (j3)) 3 from ex14.trans (by rw [hF1, fset_ne (by omega)])).symm.trans h15), hKF16.m⟩)⟩ dX12_redeem_84
      · -- 57 false
        refine V_aload_n X dX12_redeem_60 2 rfl ?_
        refine R_getf X fl_X12_16 hK (0) (rlv (by omega)) rfl rfl dX12_redeem_61 ?_
        refine V_iload_n X dX12_redeem_64 4 rfl ?_
        refine V_callV (rest := []) X E.room ml_X12_97 in_Jx4a65c_get_915e3 (ci := 3) rfl se_Jx4a65c_get_915e3 (rO_list hK (i := 1) (by decide)) (by omega) (by decide) (r_get hK 1 (by decide) (j := j6) (by omega) (by omega)) rfl rfl (Nat.le_of_ble_eq_true rfl) ⟨by omega, by omega⟩ dX12_redeem_65 (fun _ _ h => False.elim h) (fun v17 σ' hp18 => ?_)
        obtain ⟨hp18, rfl⟩ := hp18
        cases (hp18 : _ = some (Value.ref (ad (21 + (j6)))))
        show V g κ 5 (0) (0) (t, rO g ad N S F1 σ0) 68 [(4, .int (w13)), (3, .ref (ad (32 + (j3)))), (0, .ref (ad (0))), (1, .int (nI (j3))), (2, .int (nI (j6)))] [.ref (ad (21 + (j6)))]
        refine V_cast X (C := RX9) rfl cl_X12_74 (R_recv hK (q := 21 + (j6)) (rlv (by omega)) (rCell_player (by omega))) dX12_redeem_68 ?_
        refine R_getf X fl_X12_141 hK (21 + (j6)) (rlv (by omega)) (rCell_player (by omega)) rfl dX12_redeem_71 (V.topi (fun x19 ex19 => ?_))
        refine V_iload X dX12_redeem_74 0 rfl ?_
        refine V_icmpge X (tgt := 85) dX12_redeem_76 (by decide) (fun h20 => ?_) (fun h20 => ?_)
        · -- 76 true
          refine V_aload_n X dX12_redeem_85 1 rfl ?_
          refine V_iconst (v := nI 0) X dX12_redeem_86 (by decide) ?_
          refine R_putf X fl_X12_135 zt_X7 hK (32 + (j3)) (rlv (by omega)) (by omega) (rCell_coat (by omega)) (Nat.le_of_ble_eq_true rfl) rfl rfl rfl rfl ((rCell_coat (by omega)).trans rfl) dX12_redeem_87 (fun F21 hF21 => ?_)
          have hIF21 := hIF1.st hF21 (by omega)
          refine V_aload_n X dX12_redeem_90 2 rfl ?_
          refine V_dup X dX12_redeem_91 rfl ?_
          refine R_getf X fl_X12_144 hK (0) (rlv (by omega)) rfl rfl dX12_redeem_92 (V.topi (fun x22 ex22 => ?_))
          refine V_iload X dX12_redeem_95 0 rfl ?_
          refine V_iadd X dX12_redeem_97 (V.topi (fun w23 ew23 => ?_))
          refine R_putf X fl_X12_144 zt_X12 hK (0) (rlv (by omega)) (by omega) rfl (Nat.le_of_ble_eq_true rfl) rfl rfl rfl rfl rfl dX12_redeem_98 (fun F24 hF24 => ?_)
          have hIF24 := hIF21.st hF24 (by omega)
          refine V_aload_n X dX12_redeem_101 2 rfl ?_
          refine R_getf X fl_X12_16 hK (0) (rlv (by omega)) rfl rfl dX12_redeem_102 ?_
          refine V_iload_n X dX12_redeem_105 4 rfl ?_
          refine V_callV (rest := []) X E.room ml_X12_97 in_Jx4a65c_get_915e3 (ci := 3) rfl se_Jx4a65c_get_915e3 (rO_list hK (i := 1) (by decide)) (by omega) (by decide) (r_get hK 1 (by decide) (j := j6) (by omega) (by omega)) rfl rfl (Nat.le_of_ble_eq_true rfl) ⟨by omega, by omega⟩ dX12_redeem_106 (fun _ _ h => False.elim h) (fun v25 σ' hp26 => ?_)
          obtain ⟨hp26, rfl⟩ := hp26
          cases (hp26 : _ = some (Value.ref (ad (21 + (j6)))))
          show V g κ 5 (0) (0) (t, rO g ad N S F24 σ0) 109 [(4, .int (w13)), (3, .ref (ad (32 + (j3)))), (0, .ref (ad (0))), (1, .int (nI (j3))), (2, .int (nI (j6)))] [.ref (ad (21 + (j6)))]
          refine V_cast X (C := RX9) rfl cl_X12_74 (R_recv hK (q := 21 + (j6)) (rlv (by omega)) (rCell_player (by omega))) dX12_redeem_109 ?_
          refine V_dup X dX12_redeem_112 rfl ?_
          refine R_getf X fl_X12_141 hK (21 + (j6)) (rlv (by omega)) (rCell_player (by omega)) rfl dX12_redeem_113 (V.topi (fun x27 ex27 => ?_))
          refine V_iload X dX12_redeem_116 0 rfl ?_
          refine V_isub X dX12_redeem_118 (V.topi (fun w28 ew28 => ?_))
          refine R_putf X fl_X12_141 zt_X9 hK (21 + (j6)) (rlv (by omega)) (by omega) (rCell_player (by omega)) (Nat.le_of_ble_eq_true rfl) rfl rfl rfl rfl ((rCell_player (by omega)).trans rfl) dX12_redeem_119 (fun F29 hF29 => ?_)
          have hIF29 := hIF24.st hF29 (by omega)
          refine V_aload_n X dX12_redeem_122 2 rfl ?_
          refine R_getf X fl_X12_16 hK (0) (rlv (by omega)) rfl rfl dX12_redeem_123 ?_
          refine V_iload_n X dX12_redeem_126 4 rfl ?_
          refine V_callV (rest := []) X E.room ml_X12_97 in_Jx4a65c_get_915e3 (ci := 3) rfl se_Jx4a65c_get_915e3 (rO_list hK (i := 1) (by decide)) (by omega) (by decide) (r_get hK 1 (by decide) (j := j6) (by omega) (by omega)) rfl rfl (Nat.le_of_ble_eq_true rfl) ⟨by omega, by omega⟩ dX12_redeem_127 (fun _ _ h => False.elim h) (fun v30 σ' hp31 => ?_)
          obtain ⟨hp31, rfl⟩ := hp31
          cases (hp31 : _ = some (Value.ref (ad (21 + (j6)))))
          show V g κ 5 (0) (0) (t, rO g ad N S F29 σ0) 130 [(4, .int (w13)), (3, .ref (ad (32 + (j3)))), (0, .ref (ad (0))), (1, .int (nI (j3))), (2, .int (nI (j6)))] [.ref (ad (21 + (j6)))]
          refine V_cast X (C := RX9) rfl cl_X12_74 (R_recv hK (q := 21 + (j6)) (rlv (by omega)) (rCell_player (by omega))) dX12_redeem_130 ?_
          refine R_getf X fl_X12_141 hK (21 + (j6)) (rlv (by omega)) (rCell_player (by omega)) rfl dX12_redeem_133 (V.topi (fun x32 ex32 => ?_))
          obtain ⟨hvx, hE9⟩ := rRd_end (c := j3) (p := j6) (by omega) (by omega) hF1 hco hF21 ex22 ew23 hF24 ex27 ew28 hF29 ex32
          exact V_iret X E (by omega) (by omega) ⟨_, rfl, _, _, rfl, hIF29, Or.inr (Or.inr ⟨(by rw [hF29, fset_ne (by omega)]; exact (by rw [hF24, fset_ne (by omega)]; exact (by rw [hF21, fset_ne (by omega)]; exact (by rw [hF1, fset_eq])))), ⟨⟨_, rfl, by omega⟩, ⟨_, rfl, by omega⟩⟩, ⟨_, _, by omega, by omega, rfl, rfl, fun z9 => h15 ((show x14 = F (32 + (j3)) 3 from ex14.trans (by rw [hF1, fset_ne (by omega)])).trans z9), by rw [← hcF, ← hco, ← show x19 = F (21 + (j6)) 4 from ex19.trans (by rw [hF1, fset_ne (by omega)])]; exact h20⟩, _, _, rfl, by omega, rfl, by omega, hvx, hE9.m⟩)⟩ dX12_redeem_136
        · -- 76 false
          refine V_aload_n X dX12_redeem_79 2 rfl ?_
          refine V_iconst (v := nI 2) X dX12_redeem_80 (by decide) ?_
          refine V_callV (rest := []) X E.room ml_X12_50 in_X12_refuse (ci := 16) rfl se_X12_refuse (R_recv hK (q := 0) (rlv (by omega)) rfl) (by omega) (by decide) (k_X12_refuse hK hIF1 (nI (2))) rfl rfl (Nat.le_of_ble_eq_true rfl) ⟨by omega, by omega⟩ dX12_redeem_81 (fun _ _ h => False.elim h) (fun v81 σ' hp81 => ?_)
          obtain ⟨hp81, F33, rfl, hF33⟩ := hp81
          have hKF33 : rE F F33 := (hJF1 : rE F F1).set hF33 (by omega)
          have hIF33 := hIF1.st hF33 (by omega)
          cases (hp81 : _ = some (Value.int (nI (0))))
          show V g κ 5 (0) (0) (t, rO g ad N S F33 σ0) 84 [(4, .int (w13)), (3, .ref (ad (32 + (j3)))), (0, .ref (ad (0))), (1, .int (nI (j3))), (2, .int (nI (j6)))] [.int (nI (0))]
          exact V_iret X E (by omega) (by omega) ⟨_, rfl, _, _, rfl, hIF33, Or.inr (Or.inl ⟨(by rw [hF33, fset_eq]), ⟨⟨_, rfl, by omega⟩, ⟨_, rfl, by omega⟩⟩, fun ⟨c9, p9, hc9, hp9, e9, f9, z9, l9⟩ => by obtain rfl : j3 = c9 := (nI_eq (by omega) (by omega)).mp e9; obtain rfl : j6 = p9 := (nI_eq (by omega) (by omega)).mp f9; exact h20 (by rw [hco, hcF, show x19 = F (21 + (j6)) 4 from ex19.trans (by rw [hF1, fset_ne (by omega)])]; exact l9), hKF33.m⟩)⟩ dX12_redeem_84
    · -- no
      show V g κ 5 (0) (0) (t, rO g ad N S F1 σ0) 18 [(0, .ref (ad (0))), (1, .int (nI (j3))), (2, .int (a2))] [.int (nI (0))]
      refine V_ifneN X (by omega) (tgt := 27) dX12_redeem_18 (by decide) (fun h34 => absurd h34 (by omega)) (fun h34 => ?_)
      refine V_aload_n X dX12_redeem_21 0 rfl ?_
      refine V_iconst (v := nI 1) X dX12_redeem_22 (by decide) ?_
      refine V_callV (rest := []) X E.room ml_X12_50 in_X12_refuse (ci := 16) rfl se_X12_refuse (R_recv hK (q := 0) (rlv (by omega)) rfl) (by omega) (by decide) (k_X12_refuse hK hIF1 (nI (1))) rfl rfl (Nat.le_of_ble_eq_true rfl) ⟨by omega, by omega⟩ dX12_redeem_23 (fun _ _ h => False.elim h) (fun v23 σ' hp23 => ?_)
      obtain ⟨hp23, F35, rfl, hF35⟩ := hp23
      have hKF35 : rE F F35 := (hJF1 : rE F F1).set hF35 (by omega)
      have hIF35 := hIF1.st hF35 (by omega)
      cases (hp23 : _ = some (Value.int (nI (0))))
      show V g κ 5 (0) (0) (t, rO g ad N S F35 σ0) 26 [(0, .ref (ad (0))), (1, .int (nI (j3))), (2, .int (a2))] [.int (nI (0))]
      exact V_iret X E (by omega) (by omega) ⟨_, rfl, _, _, rfl, hIF35, Or.inl ⟨(by rw [hF35, fset_eq]), fun q => by first | exact absurd q.1 (by assumption) | exact absurd q.2 (by assumption), hKF35.m⟩⟩ dX12_redeem_26
  · -- no
    show V g κ 5 (0) (0) (t, rO g ad N S F1 σ0) 10 [(0, .ref (ad (0))), (1, .int (a1)), (2, .int (a2))] [.int (nI (0))]
    refine V_ifeqN X (by omega) (tgt := 21) dX12_redeem_10 (by decide) (fun h36 => ?_) (fun h36 => absurd h36 (by omega))
    refine V_aload_n X dX12_redeem_21 0 rfl ?_
    refine V_iconst (v := nI 1) X dX12_redeem_22 (by decide) ?_
    refine V_callV (rest := []) X E.room ml_X12_50 in_X12_refuse (ci := 16) rfl se_X12_refuse (R_recv hK (q := 0) (rlv (by omega)) rfl) (by omega) (by decide) (k_X12_refuse hK hIF1 (nI (1))) rfl rfl (Nat.le_of_ble_eq_true rfl) ⟨by omega, by omega⟩ dX12_redeem_23 (fun _ _ h => False.elim h) (fun v23 σ' hp23 => ?_)
    obtain ⟨hp23, F37, rfl, hF37⟩ := hp23
    have hKF37 : rE F F37 := (hJF1 : rE F F1).set hF37 (by omega)
    have hIF37 := hIF1.st hF37 (by omega)
    cases (hp23 : _ = some (Value.int (nI (0))))
    show V g κ 5 (0) (0) (t, rO g ad N S F37 σ0) 26 [(0, .ref (ad (0))), (1, .int (a1)), (2, .int (a2))] [.int (nI (0))]
    exact V_iret X E (by omega) (by omega) ⟨_, rfl, _, _, rfl, hIF37, Or.inl ⟨(by rw [hF37, fset_eq]), fun q => by first | exact absurd q.1 (by assumption) | exact absurd q.2 (by assumption), hKF37.m⟩⟩ dX12_redeem_26
set_option maxRecDepth 100000 in
set_option maxHeartbeats 4000000 in
theorem k_X12_ofPartNow {g : zG} {t : Nat × Nat} {ad N : Nat → Nat} {S : Int64} {σ0 : Nat → Option va_E} {F : Nat → Nat → Int32} (hK : rK g ad N) (hI : rI N F) (p w : Nat) (hp : p < N 0) (hw : w ≤ 6) (hKn : rKn N F) (b : Int32) (h : Nat → Nat) (hb : rBs N F b h) : Ct g 27 yX12_ofPartNow cX12_ofPartNow 4 (some FieldType.int) 0 0 [.ref (ad (0)), .int (nI (p)), .int (nI (w))] (t, rO g ad N S F σ0) (fun v σ' => ∃ x : Int32, v = some (.int x) ∧ rPt N F p w x ∧ ∃ (t' : Nat × Nat) (F' : Nat → Nat → Int32), σ' = (t', rO g ad N S F' σ0) ∧ rM N F F' ∧ rI N F' ∧ F' 0 0 = F 0 0) zNo := by
  refine Ct.of (lv := [(0, .ref (ad (0))), (1, .int (nI (p))), (2, .int (nI (w)))]) (by decide) (Nat.le_of_ble_eq_true rfl) rfl ?_
  intro κ X E B _
  have X : zX g κ RX12 cX12_ofPartNow 4 := X
  obtain ⟨b0, b1, b2, b3, b4⟩ := hI.bnd
  refine V_aload_n X dX12_ofPartNow_0 0 rfl ?_
  refine R_getf X fl_X12_10 hK (0) (rlv (by omega)) rfl rfl dX12_ofPartNow_1 ?_
  refine V_iload_n X dX12_ofPartNow_4 1 rfl ?_
  refine V_callV (rest := []) X E.room ml_X12_97 in_Jx4a65c_get_915e3 (ci := 3) rfl se_Jx4a65c_get_915e3 (rO_list hK (i := 0) (by decide)) (by omega) (by decide) (r_get hK 0 (by decide) (j := p) (by omega) (by omega)) rfl rfl (Nat.le_of_ble_eq_true rfl) ⟨by omega, by omega⟩ dX12_ofPartNow_5 (fun _ _ h => False.elim h) (fun v1 σ' hp2 => ?_)
  obtain ⟨hp2, rfl⟩ := hp2
  cases (hp2 : _ = some (Value.ref (ad (14 + (p)))))
  show V g κ 4 (0) (0) (t, rO g ad N S F σ0) 8 [(0, .ref (ad (0))), (1, .int (nI (p))), (2, .int (nI (w)))] [.ref (ad (14 + (p)))]
  refine V_cast X (C := RX8) rfl cl_X12_54 (R_recv hK (q := 14 + (p)) (rlv (by omega)) (rCell_part (by omega))) dX12_ofPartNow_8 ?_
  refine V_astore_n X [(3, .ref (ad (14 + (p)))), (0, .ref (ad (0))), (1, .int (nI (p))), (2, .int (nI (w)))] dX12_ofPartNow_11 (by decide) rfl ?_
  refine V_iload_n X dX12_ofPartNow_12 3 rfl ?_
  rcases (show w = 0 ∨ w = 1 ∨ w = 2 ∨ w = 3 ∨ w = 4 ∨ w = 5 ∨ w = 6 by omega) with rfl | rfl | rfl | rfl | rfl | rfl | rfl
  · -- case 0
    refine V_tableIn (tgt := 52) X dX12_ofPartNow_13 (by decide) (by decide) rfl (by decide) ?_
    refine V_aload_n X dX12_ofPartNow_52 0 rfl ?_
    refine R_getf X fl_X12_57 hK (14 + (p)) (rlv (by omega)) (rCell_part (by omega)) rfl dX12_ofPartNow_53 (V.topi (fun x3 ex3 => ?_))
    exact V_iret X E (by omega) (by omega) ⟨_, rfl, Or.inl ⟨rfl, ex3⟩, _, _, rfl, rM.rfl', hI, rfl⟩ dX12_ofPartNow_56
  · -- case 1
    refine V_tableIn (tgt := 57) X dX12_ofPartNow_13 (by decide) (by decide) rfl (by decide) ?_
    refine V_aload_n X dX12_ofPartNow_57 0 rfl ?_
    refine R_getf X fl_X12_60 hK (14 + (p)) (rlv (by omega)) (rCell_part (by omega)) rfl dX12_ofPartNow_58 (V.topi (fun x4 ex4 => ?_))
    exact V_iret X E (by omega) (by omega) ⟨_, rfl, Or.inr (Or.inl ⟨rfl, ex4⟩), _, _, rfl, rM.rfl', hI, rfl⟩ dX12_ofPartNow_61
  · -- case 2
    refine V_tableIn (tgt := 62) X dX12_ofPartNow_13 (by decide) (by decide) rfl (by decide) ?_
    refine V_aload_n X dX12_ofPartNow_62 0 rfl ?_
    refine R_getf X fl_X12_63 hK (14 + (p)) (rlv (by omega)) (rCell_part (by omega)) rfl dX12_ofPartNow_63 (V.topi (fun x5 ex5 => ?_))
    exact V_iret X E (by omega) (by omega) ⟨_, rfl, Or.inr (Or.inr (Or.inl ⟨rfl, ex5⟩)), _, _, rfl, rM.rfl', hI, rfl⟩ dX12_ofPartNow_66
  · -- case 3
    refine V_tableIn (tgt := 67) X dX12_ofPartNow_13 (by decide) (by decide) rfl (by decide) ?_
    refine V_aload_n X dX12_ofPartNow_67 1 rfl ?_
    refine V_iload_n X dX12_ofPartNow_68 2 rfl ?_
    refine V_callV (rest := []) X E.room ml_X12_258 in_X12_scenesWith (ci := 16) rfl se_X12_scenesWith (R_recv hK (q := 0) (rlv (by omega)) rfl) (by omega) (by decide) (k_X12_scenesWith hK hI (p) (by omega)) rfl rfl (Nat.le_of_ble_eq_true rfl) ⟨by omega, by omega⟩ dX12_ofPartNow_69 (fun _ _ h => False.elim h) (fun v69 σ' hp69 => ?_)
    obtain ⟨hp69, rfl⟩ := hp69
    obtain ⟨r6, rfl, fr6⟩ := hp69
    show V g κ 4 (0) (0) (t, rO g ad N S F σ0) 72 [(3, .ref (ad (14 + (p)))), (0, .ref (ad (0))), (1, .int (nI (p))), (2, .int (nI (3)))] [.int (r6)]
    exact V_iret X E (by omega) (by omega) ⟨_, rfl, Or.inr (Or.inr (Or.inr (Or.inl ⟨rfl, fr6⟩))), _, _, rfl, rM.rfl', hI, rfl⟩ dX12_ofPartNow_72
  · -- case 4
    refine V_tableIn (tgt := 73) X dX12_ofPartNow_13 (by decide) (by decide) rfl (by decide) ?_
    refine V_aload_n X dX12_ofPartNow_73 1 rfl ?_
    refine V_aload_n X dX12_ofPartNow_74 1 rfl ?_
    refine V_callV (rest := [.ref (ad (0))]) X E.room ml_X12_182 in_X12_all (ci := 16) rfl se_X12_all (R_recv hK (q := 0) (rlv (by omega)) rfl) (by omega) (by decide) (k_X12_all hK hI) rfl rfl (Nat.le_of_ble_eq_true rfl) ⟨by omega, by omega⟩ dX12_ofPartNow_75 (fun _ _ h => False.elim h) (fun v75 σ' hp75 => ?_)
    obtain ⟨hp75, rfl⟩ := hp75
    cases (hp75 : _ = some (Value.int (nI (2 ^ N 2 - 1))))
    show V g κ 4 (0) (0) (t, rO g ad N S F σ0) 78 [(3, .ref (ad (14 + (p)))), (0, .ref (ad (0))), (1, .int (nI (p))), (2, .int (nI (4)))] [.int (nI (2 ^ N 2 - 1)), .ref (ad (0))]
    refine V_callV (rest := []) X E.room ml_X12_175 in_X12_clash (ci := 16) rfl se_X12_clash (R_recv hK (q := 0) (rlv (by omega)) rfl) (by omega) (by decide) (k_X12_clash_x hK hI (nI (2 ^ N 2 - 1))) rfl rfl (Nat.le_of_ble_eq_true rfl) ⟨by omega, by omega⟩ dX12_ofPartNow_78 (fun _ _ h => False.elim h) (fun v78 σ' hp78 => ?_)
    obtain ⟨hp78, F7, rfl, hJF7, hVF7⟩ := hp78
    have hKF7 : rM N F F7 := (hJF7.rJ s13R).m
    have hIF7 := hI.mv (hJF7.rJ s13R)
    have hyF7 : F7 0 0 = F 0 0 := hJF7 0 0 rfl
    cases (hp78 : _ = none)
    show V g κ 4 (0) (0) (t, rO g ad N S F7 σ0) 81 [(3, .ref (ad (14 + (p)))), (0, .ref (ad (0))), (1, .int (nI (p))), (2, .int (nI (4)))] []
    refine V_aload_n X dX12_ofPartNow_81 1 rfl ?_
    refine R_getf X fl_X12_35 hK (0) (rlv (by omega)) rfl rfl dX12_ofPartNow_82 ?_
    refine V_iload_n X dX12_ofPartNow_85 2 rfl ?_
    refine R_iald X hK (13) (by omega) (p) rfl (by omega) dX12_ofPartNow_86 ?_
    refine V.topi (fun x8 ex8 => ?_)
    exact V_iret X E (by omega) (by omega) ⟨_, rfl, Or.inr (Or.inr (Or.inr (Or.inr (Or.inl ⟨rfl, by rw [ex8]; exact hVF7 _ (by omega)⟩)))), _, _, rfl, hKF7, hIF7, hyF7⟩ dX12_ofPartNow_87
  · -- case 5
    refine V_tableIn (tgt := 88) X dX12_ofPartNow_13 (by decide) (by decide) rfl (by decide) ?_
    refine V_aload_n X dX12_ofPartNow_88 1 rfl ?_
    refine V_iload_n X dX12_ofPartNow_89 2 rfl ?_
    refine V_callV (rest := []) X E.room ml_X12_195 in_X12_players (ci := 16) rfl se_X12_players (R_recv hK (q := 0) (rlv (by omega)) rfl) (by omega) (by decide) (k_X12_players hK hI (p) (by omega)) rfl rfl (Nat.le_of_ble_eq_true rfl) ⟨by omega, by omega⟩ dX12_ofPartNow_90 (fun _ _ h => False.elim h) (fun v90 σ' hp90 => ?_)
    obtain ⟨hp90, rfl⟩ := hp90
    obtain ⟨r9, rfl, fr9⟩ := hp90
    show V g κ 4 (0) (0) (t, rO g ad N S F σ0) 93 [(3, .ref (ad (14 + (p)))), (0, .ref (ad (0))), (1, .int (nI (p))), (2, .int (nI (5)))] [.int (r9)]
    exact V_iret X E (by omega) (by omega) ⟨_, rfl, Or.inr (Or.inr (Or.inr (Or.inr (Or.inr (Or.inl ⟨rfl, fr9⟩))))), _, _, rfl, rM.rfl', hI, rfl⟩ dX12_ofPartNow_93
  · -- case 6
    refine V_tableOut (tgt := 94) X dX12_ofPartNow_13 (by decide) (by decide) ?_
    refine V_aload_n X dX12_ofPartNow_94 1 rfl ?_
    refine V_callV (rest := []) X E.room ml_X12_219 in_X12_isCast (ci := 16) rfl se_X12_isCast (R_recv hK (q := 0) (rlv (by omega)) rfl) (by omega) (by decide) (k_X12_isCast hK hI) rfl rfl (Nat.le_of_ble_eq_true rfl) ⟨by omega, by omega⟩ dX12_ofPartNow_95 (fun _ _ h => False.elim h) (fun v95 σ' hp95 => ?_)
    obtain ⟨F10, rfl, hCF10, hIF10, hMF10, hZF10, hkF10, hp95⟩ := hp95
    have hKF10 : rM N F F10 := (rM.rfl' : rM N F F).trans hMF10
    have hyF10 : F10 0 0 = F 0 0 := hZF10.trans rfl
    obtain ⟨ebF10, hrF10⟩ := rBest_at hKn hKF10 hkF10 hb
    rcases hp95 with ⟨rfl, hn95, hc95⟩ | ⟨rfl, hn95⟩
    · -- a cast
      show V g κ 4 (0) (0) (t, rO g ad N S F10 σ0) 98 [(3, .ref (ad (14 + (p)))), (0, .ref (ad (0))), (1, .int (nI (p))), (2, .int (nI (6)))] [.int (nI (1))]
      refine V_ifeqN X (by omega) (tgt := 110) dX12_ofPartNow_98 (by decide) (fun h11 => absurd h11 (by omega)) (fun h11 => ?_)
      refine V_aload_n X dX12_ofPartNow_101 1 rfl ?_
      refine R_getf X fl_X12_28 hK (0) (rlv (by omega)) rfl rfl dX12_ofPartNow_102 ?_
      refine V_iload_n X dX12_ofPartNow_105 2 rfl ?_
      refine R_iald X hK (11) (by omega) (p) rfl (by omega) dX12_ofPartNow_106 ?_
      refine V.topi (fun x12 ex12 => ?_)
      refine V_goto (tgt := 111) X dX12_ofPartNow_107 (by decide) ?_
      exact V_iret X E (by omega) (by omega) ⟨_, rfl, Or.inr (Or.inr (Or.inr (Or.inr (Or.inr (Or.inr (⟨rfl, ⟨_, _, hb, cRo_r b1 (fun z => by rw [ex12]; exact hrF10 z _ (by omega)) (fun z => hn95 (ebF10.trans z))⟩⟩)))))), _, _, rfl, hKF10, hIF10, hyF10⟩ dX12_ofPartNow_111
    · -- none
      show V g κ 4 (0) (0) (t, rO g ad N S F10 σ0) 98 [(3, .ref (ad (14 + (p)))), (0, .ref (ad (0))), (1, .int (nI (p))), (2, .int (nI (6)))] [.int (nI (0))]
      refine V_ifeqN X (by omega) (tgt := 110) dX12_ofPartNow_98 (by decide) (fun h13 => ?_) (fun h13 => absurd h13 (by omega))
      refine V_iconst (v := (-1)) X dX12_ofPartNow_110 (by decide) ?_
      exact V_iret X E (by omega) (by omega) ⟨_, rfl, Or.inr (Or.inr (Or.inr (Or.inr (Or.inr (Or.inr (⟨rfl, ⟨_, _, hb, Or.inr ⟨fun q => q.1 (ebF10.symm.trans hn95), rfl⟩⟩⟩)))))), _, _, rfl, hKF10, hIF10, hyF10⟩ dX12_ofPartNow_111
set_option maxRecDepth 100000 in
set_option maxHeartbeats 4000000 in
theorem k_X12_ofPlayerNow {g : zG} {t : Nat × Nat} {ad N : Nat → Nat} {S : Int64} {σ0 : Nat → Option va_E} {F : Nat → Nat → Int32} (hK : rK g ad N) (hI : rI N F) (p w : Nat) (hp : p < N 1) (hw : w ≤ 5) (hKn : rKn N F) (b : Int32) (h : Nat → Nat) (hb : rBs N F b h) : Ct g 27 yX12_ofPlayerNow cX12_ofPlayerNow 4 (some FieldType.int) 0 0 [.ref (ad (0)), .int (nI (p)), .int (nI (w))] (t, rO g ad N S F σ0) (fun v σ' => ∃ x : Int32, v = some (.int x) ∧ rPl N F p w x ∧ ∃ (t' : Nat × Nat) (F' : Nat → Nat → Int32), σ' = (t', rO g ad N S F' σ0) ∧ rM N F F' ∧ rI N F' ∧ F' 0 0 = F 0 0) zNo := by
  refine Ct.of (lv := [(0, .ref (ad (0))), (1, .int (nI (p))), (2, .int (nI (w)))]) (by decide) (Nat.le_of_ble_eq_true rfl) rfl ?_
  intro κ X E B _
  have X : zX g κ RX12 cX12_ofPlayerNow 4 := X
  obtain ⟨b0, b1, b2, b3, b4⟩ := hI.bnd
  refine V_aload_n X dX12_ofPlayerNow_0 0 rfl ?_
  refine R_getf X fl_X12_16 hK (0) (rlv (by omega)) rfl rfl dX12_ofPlayerNow_1 ?_
  refine V_iload_n X dX12_ofPlayerNow_4 1 rfl ?_
  refine V_callV (rest := []) X E.room ml_X12_97 in_Jx4a65c_get_915e3 (ci := 3) rfl se_Jx4a65c_get_915e3 (rO_list hK (i := 1) (by decide)) (by omega) (by decide) (r_get hK 1 (by decide) (j := p) (by omega) (by omega)) rfl rfl (Nat.le_of_ble_eq_true rfl) ⟨by omega, by omega⟩ dX12_ofPlayerNow_5 (fun _ _ h => False.elim h) (fun v1 σ' hp2 => ?_)
  obtain ⟨hp2, rfl⟩ := hp2
  cases (hp2 : _ = some (Value.ref (ad (21 + (p)))))
  show V g κ 4 (0) (0) (t, rO g ad N S F σ0) 8 [(0, .ref (ad (0))), (1, .int (nI (p))), (2, .int (nI (w)))] [.ref (ad (21 + (p)))]
  refine V_cast X (C := RX9) rfl cl_X12_74 (R_recv hK (q := 21 + (p)) (rlv (by omega)) (rCell_player (by omega))) dX12_ofPlayerNow_8 ?_
  refine V_astore_n X [(3, .ref (ad (21 + (p)))), (0, .ref (ad (0))), (1, .int (nI (p))), (2, .int (nI (w)))] dX12_ofPlayerNow_11 (by decide) rfl ?_
  refine V_iload_n X dX12_ofPlayerNow_12 3 rfl ?_
  rcases (show w = 0 ∨ w = 1 ∨ w = 2 ∨ w = 3 ∨ w = 4 ∨ w = 5 by omega) with rfl | rfl | rfl | rfl | rfl | rfl
  · -- case 0
    refine V_tableIn (tgt := 48) X dX12_ofPlayerNow_13 (by decide) (by decide) rfl (by decide) ?_
    refine V_aload_n X dX12_ofPlayerNow_48 0 rfl ?_
    refine R_getf X fl_X12_77 hK (21 + (p)) (rlv (by omega)) (rCell_player (by omega)) rfl dX12_ofPlayerNow_49 (V.topi (fun x3 ex3 => ?_))
    exact V_iret X E (by omega) (by omega) ⟨_, rfl, Or.inl ⟨rfl, ex3⟩, _, _, rfl, rM.rfl', hI, rfl⟩ dX12_ofPlayerNow_52
  · -- case 1
    refine V_tableIn (tgt := 53) X dX12_ofPlayerNow_13 (by decide) (by decide) rfl (by decide) ?_
    refine V_aload_n X dX12_ofPlayerNow_53 0 rfl ?_
    refine R_getf X fl_X12_80 hK (21 + (p)) (rlv (by omega)) (rCell_player (by omega)) rfl dX12_ofPlayerNow_54 (V.topi (fun x4 ex4 => ?_))
    exact V_iret X E (by omega) (by omega) ⟨_, rfl, Or.inr (Or.inl ⟨rfl, ex4⟩), _, _, rfl, rM.rfl', hI, rfl⟩ dX12_ofPlayerNow_57
  · -- case 2
    refine V_tableIn (tgt := 58) X dX12_ofPlayerNow_13 (by decide) (by decide) rfl (by decide) ?_
    refine V_aload_n X dX12_ofPlayerNow_58 0 rfl ?_
    refine R_getf X fl_X12_82 hK (21 + (p)) (rlv (by omega)) (rCell_player (by omega)) rfl dX12_ofPlayerNow_59 (V.topi (fun x5 ex5 => ?_))
    exact V_iret X E (by omega) (by omega) ⟨_, rfl, Or.inr (Or.inr (Or.inl ⟨rfl, ex5⟩)), _, _, rfl, rM.rfl', hI, rfl⟩ dX12_ofPlayerNow_62
  · -- case 3
    refine V_tableIn (tgt := 63) X dX12_ofPlayerNow_13 (by decide) (by decide) rfl (by decide) ?_
    refine V_aload_n X dX12_ofPlayerNow_63 0 rfl ?_
    refine R_getf X fl_X12_115 hK (21 + (p)) (rlv (by omega)) (rCell_player (by omega)) rfl dX12_ofPlayerNow_64 (V.topi (fun x6 ex6 => ?_))
    refine V_ifeq X (tgt := 74) dX12_ofPlayerNow_67 (by decide) (fun h7 => ?_) (fun h7 => ?_)
    · -- 67 true
      refine V_iconst (v := nI 0) X dX12_ofPlayerNow_74 (by decide) ?_
      exact V_iret X E (by omega) (by omega) ⟨_, rfl, Or.inr (Or.inr (Or.inr (Or.inl ⟨rfl, Or.inr ⟨ex6.symm.trans h7, rfl⟩⟩))), _, _, rfl, rM.rfl', hI, rfl⟩ dX12_ofPlayerNow_75
    · -- 67 false
      refine V_iconst (v := nI 1) X dX12_ofPlayerNow_70 (by decide) ?_
      refine V_goto (tgt := 75) X dX12_ofPlayerNow_71 (by decide) ?_
      exact V_iret X E (by omega) (by omega) ⟨_, rfl, Or.inr (Or.inr (Or.inr (Or.inl ⟨rfl, Or.inl ⟨fun z => h7 (ex6.trans z), rfl⟩⟩))), _, _, rfl, rM.rfl', hI, rfl⟩ dX12_ofPlayerNow_75
  · -- case 4
    refine V_tableIn (tgt := 76) X dX12_ofPlayerNow_13 (by decide) (by decide) rfl (by decide) ?_
    refine V_aload_n X dX12_ofPlayerNow_76 1 rfl ?_
    refine V_iload_n X dX12_ofPlayerNow_77 2 rfl ?_
    refine V_callV (rest := []) X E.room ml_X12_222 in_X12_partsWith (ci := 16) rfl se_X12_partsWith (R_recv hK (q := 0) (rlv (by omega)) rfl) (by omega) (by decide) (k_X12_partsWith hK hI (p) (by omega) hKn b h hb) rfl rfl (Nat.le_of_ble_eq_true rfl) ⟨by omega, by omega⟩ dX12_ofPlayerNow_78 (fun _ _ h => False.elim h) (fun v78 σ' hp78 => ?_)
    obtain ⟨r8, rfl, fr8, t10, F9, rfl, hMF9, hIF9, hZF9⟩ := hp78
    have hKF9 : rM N F F9 := (rM.rfl' : rM N F F).trans hMF9
    have hyF9 : F9 0 0 = F 0 0 := hZF9.trans rfl
    show V g κ 4 (0) (0) (t10, rO g ad N S F9 σ0) 81 [(3, .ref (ad (21 + (p)))), (0, .ref (ad (0))), (1, .int (nI (p))), (2, .int (nI (4)))] [.int (r8)]
    exact V_iret X E (by omega) (by omega) ⟨_, rfl, Or.inr (Or.inr (Or.inr (Or.inr (Or.inl ⟨rfl, ⟨_, _, hb, fr8.cg (fun q => Iff.rfl)⟩⟩)))), _, _, rfl, hKF9, hIF9, hyF9⟩ dX12_ofPlayerNow_81
  · -- case 5
    refine V_tableOut (tgt := 82) X dX12_ofPlayerNow_13 (by decide) (by decide) ?_
    refine V_aload_n X dX12_ofPlayerNow_82 0 rfl ?_
    refine R_getf X fl_X12_141 hK (21 + (p)) (rlv (by omega)) (rCell_player (by omega)) rfl dX12_ofPlayerNow_83 (V.topi (fun x11 ex11 => ?_))
    exact V_iret X E (by omega) (by omega) ⟨_, rfl, Or.inr (Or.inr (Or.inr (Or.inr (Or.inr (⟨rfl, ex11⟩))))), _, _, rfl, rM.rfl', hI, rfl⟩ dX12_ofPlayerNow_86
set_option maxRecDepth 100000 in
set_option maxHeartbeats 4000000 in
theorem k_X12_ofCoatNow {g : zG} {t : Nat × Nat} {ad N : Nat → Nat} {S : Int64} {σ0 : Nat → Option va_E} {F : Nat → Nat → Int32} (hK : rK g ad N) (hI : rI N F) (p w : Nat) (hp : p < N 3) (hw : w ≤ 3) (hKn : rKn N F) (b : Int32) (h : Nat → Nat) (hb : rBs N F b h) : Ct g 20 yX12_ofCoatNow cX12_ofCoatNow 4 (some FieldType.int) 0 0 [.ref (ad (0)), .int (nI (p)), .int (nI (w))] (t, rO g ad N S F σ0) (fun v σ' => ∃ x : Int32, v = some (.int x) ∧ rCt F p w x ∧ ∃ (t' : Nat × Nat) (F' : Nat → Nat → Int32), σ' = (t', rO g ad N S F' σ0) ∧ rM N F F' ∧ rI N F' ∧ F' 0 0 = F 0 0) zNo := by
  refine Ct.of (lv := [(0, .ref (ad (0))), (1, .int (nI (p))), (2, .int (nI (w)))]) (by decide) (Nat.le_of_ble_eq_true rfl) rfl ?_
  intro κ X E B _
  have X : zX g κ RX12 cX12_ofCoatNow 4 := X
  obtain ⟨b0, b1, b2, b3, b4⟩ := hI.bnd
  refine V_aload_n X dX12_ofCoatNow_0 0 rfl ?_
  refine R_getf X fl_X12_22 hK (0) (rlv (by omega)) rfl rfl dX12_ofCoatNow_1 ?_
  refine V_iload_n X dX12_ofCoatNow_4 1 rfl ?_
  refine V_callV (rest := []) X E.room ml_X12_97 in_Jx4a65c_get_915e3 (ci := 3) rfl se_Jx4a65c_get_915e3 (rO_list hK (i := 3) (by decide)) (by omega) (by decide) (r_get hK 3 (by decide) (j := p) (by omega) (by omega)) rfl rfl (Nat.le_of_ble_eq_true rfl) ⟨by omega, by omega⟩ dX12_ofCoatNow_5 (fun _ _ h => False.elim h) (fun v1 σ' hp2 => ?_)
  obtain ⟨hp2, rfl⟩ := hp2
  cases (hp2 : _ = some (Value.ref (ad (32 + (p)))))
  show V g κ 4 (0) (0) (t, rO g ad N S F σ0) 8 [(0, .ref (ad (0))), (1, .int (nI (p))), (2, .int (nI (w)))] [.ref (ad (32 + (p)))]
  refine V_cast X (C := RX7) rfl cl_X12_124 (R_recv hK (q := 32 + (p)) (rlv (by omega)) (rCell_coat (by omega))) dX12_ofCoatNow_8 ?_
  refine V_astore_n X [(3, .ref (ad (32 + (p)))), (0, .ref (ad (0))), (1, .int (nI (p))), (2, .int (nI (w)))] dX12_ofCoatNow_11 (by decide) rfl ?_
  refine V_iload_n X dX12_ofCoatNow_12 3 rfl ?_
  refine V_ifneN X (by omega) (tgt := 23) dX12_ofCoatNow_13 (by decide) (fun h3 => ?_) (fun h3 => ?_)
  · -- 13 true
    refine V_iload_n X dX12_ofCoatNow_23 3 rfl ?_
    refine V_iconst (v := nI 1) X dX12_ofCoatNow_24 (by decide) ?_
    refine V_icmpneN X (by omega) (by omega) (tgt := 35) dX12_ofCoatNow_25 (by decide) (fun h4 => ?_) (fun h4 => ?_)
    · -- 25 true
      refine V_iload_n X dX12_ofCoatNow_35 3 rfl ?_
      refine V_iconst (v := nI 2) X dX12_ofCoatNow_36 (by decide) ?_
      refine V_icmpneN X (by omega) (by omega) (tgt := 47) dX12_ofCoatNow_37 (by decide) (fun h5 => ?_) (fun h5 => ?_)
      · -- 37 true
        refine V_aload_n X dX12_ofCoatNow_47 0 rfl ?_
        refine R_getf X fl_X12_135 hK (32 + (p)) (rlv (by omega)) (rCell_coat (by omega)) rfl dX12_ofCoatNow_48 (V.topi (fun x6 ex6 => ?_))
        refine V_ifeq X (tgt := 58) dX12_ofCoatNow_51 (by decide) (fun h7 => ?_) (fun h7 => ?_)
        · -- 51 true
          refine V_iconst (v := nI 0) X dX12_ofCoatNow_58 (by decide) ?_
          exact V_iret X E (by omega) (by omega) ⟨_, rfl, by obtain rfl : w = 3 := (by omega); exact Or.inr (Or.inr (Or.inr (⟨rfl, Or.inr ⟨ex6.symm.trans h7, rfl⟩⟩))), _, _, rfl, rM.rfl', hI, rfl⟩ dX12_ofCoatNow_59
        · -- 51 false
          refine V_iconst (v := nI 1) X dX12_ofCoatNow_54 (by decide) ?_
          refine V_goto (tgt := 59) X dX12_ofCoatNow_55 (by decide) ?_
          exact V_iret X E (by omega) (by omega) ⟨_, rfl, by obtain rfl : w = 3 := (by omega); exact Or.inr (Or.inr (Or.inr (⟨rfl, Or.inl ⟨fun z => h7 (ex6.trans z), rfl⟩⟩))), _, _, rfl, rM.rfl', hI, rfl⟩ dX12_ofCoatNow_59
      · -- 37 false
        refine V_aload_n X dX12_ofCoatNow_40 0 rfl ?_
        refine R_getf X fl_X12_129 hK (32 + (p)) (rlv (by omega)) (rCell_coat (by omega)) rfl dX12_ofCoatNow_41 (V.topi (fun x8 ex8 => ?_))
        refine V_goto (tgt := 59) X dX12_ofCoatNow_44 (by decide) ?_
        exact V_iret X E (by omega) (by omega) ⟨_, rfl, by obtain rfl : w = 2 := (by omega); exact Or.inr (Or.inr (Or.inl ⟨rfl, ex8⟩)), _, _, rfl, rM.rfl', hI, rfl⟩ dX12_ofCoatNow_59
    · -- 25 false
      refine V_aload_n X dX12_ofCoatNow_28 0 rfl ?_
      refine R_getf X fl_X12_128 hK (32 + (p)) (rlv (by omega)) (rCell_coat (by omega)) rfl dX12_ofCoatNow_29 (V.topi (fun x9 ex9 => ?_))
      refine V_goto (tgt := 59) X dX12_ofCoatNow_32 (by decide) ?_
      exact V_iret X E (by omega) (by omega) ⟨_, rfl, by obtain rfl : w = 1 := (by omega); exact Or.inr (Or.inl ⟨rfl, ex9⟩), _, _, rfl, rM.rfl', hI, rfl⟩ dX12_ofCoatNow_59
  · -- 13 false
    refine V_aload_n X dX12_ofCoatNow_16 0 rfl ?_
    refine R_getf X fl_X12_127 hK (32 + (p)) (rlv (by omega)) (rCell_coat (by omega)) rfl dX12_ofCoatNow_17 (V.topi (fun x10 ex10 => ?_))
    refine V_goto (tgt := 59) X dX12_ofCoatNow_20 (by decide) ?_
    exact V_iret X E (by omega) (by omega) ⟨_, rfl, by obtain rfl : w = 0 := (by omega); exact Or.inl ⟨rfl, ex10⟩, _, _, rfl, rM.rfl', hI, rfl⟩ dX12_ofCoatNow_59
set_option maxRecDepth 100000 in
set_option maxHeartbeats 4000000 in
theorem k_X12_ofTownNow {g : zG} {t : Nat × Nat} {ad N : Nat → Nat} {S : Int64} {σ0 : Nat → Option va_E} {F : Nat → Nat → Int32} (hK : rK g ad N) (hI : rI N F) (p w : Nat) (hp : p < N 4) (hw : w ≤ 3) (hKn : rKn N F) (b : Int32) (h : Nat → Nat) (hb : rBs N F b h) : Ct g 20 yX12_ofTownNow cX12_ofTownNow 4 (some FieldType.int) 0 0 [.ref (ad (0)), .int (nI (p)), .int (nI (w))] (t, rO g ad N S F σ0) (fun v σ' => ∃ x : Int32, v = some (.int x) ∧ rTn F p w x ∧ ∃ (t' : Nat × Nat) (F' : Nat → Nat → Int32), σ' = (t', rO g ad N S F' σ0) ∧ rM N F F' ∧ rI N F' ∧ F' 0 0 = F 0 0) zNo := by
  refine Ct.of (lv := [(0, .ref (ad (0))), (1, .int (nI (p))), (2, .int (nI (w)))]) (by decide) (Nat.le_of_ble_eq_true rfl) rfl ?_
  intro κ X E B _
  have X : zX g κ RX12 cX12_ofTownNow 4 := X
  obtain ⟨b0, b1, b2, b3, b4⟩ := hI.bnd
  refine V_aload_n X dX12_ofTownNow_0 0 rfl ?_
  refine R_getf X fl_X12_25 hK (0) (rlv (by omega)) rfl rfl dX12_ofTownNow_1 ?_
  refine V_iload_n X dX12_ofTownNow_4 1 rfl ?_
  refine V_callV (rest := []) X E.room ml_X12_97 in_Jx4a65c_get_915e3 (ci := 3) rfl se_Jx4a65c_get_915e3 (rO_list hK (i := 4) (by decide)) (by omega) (by decide) (r_get hK 4 (by decide) (j := p) (by omega) (by omega)) rfl rfl (Nat.le_of_ble_eq_true rfl) ⟨by omega, by omega⟩ dX12_ofTownNow_5 (fun _ _ h => False.elim h) (fun v1 σ' hp2 => ?_)
  obtain ⟨hp2, rfl⟩ := hp2
  cases (hp2 : _ = some (Value.ref (ad (38 + (p)))))
  show V g κ 4 (0) (0) (t, rO g ad N S F σ0) 8 [(0, .ref (ad (0))), (1, .int (nI (p))), (2, .int (nI (w)))] [.ref (ad (38 + (p)))]
  refine V_cast X (C := RX11) rfl cl_X12_147 (R_recv hK (q := 38 + (p)) (rlv (by omega)) (rCell_town (by omega))) dX12_ofTownNow_8 ?_
  refine V_astore_n X [(3, .ref (ad (38 + (p)))), (0, .ref (ad (0))), (1, .int (nI (p))), (2, .int (nI (w)))] dX12_ofTownNow_11 (by decide) rfl ?_
  refine V_iload_n X dX12_ofTownNow_12 3 rfl ?_
  refine V_ifneN X (by omega) (tgt := 23) dX12_ofTownNow_13 (by decide) (fun h3 => ?_) (fun h3 => ?_)
  · -- 13 true
    refine V_iload_n X dX12_ofTownNow_23 3 rfl ?_
    refine V_iconst (v := nI 1) X dX12_ofTownNow_24 (by decide) ?_
    refine V_icmpneN X (by omega) (by omega) (tgt := 35) dX12_ofTownNow_25 (by decide) (fun h4 => ?_) (fun h4 => ?_)
    · -- 25 true
      refine V_iload_n X dX12_ofTownNow_35 3 rfl ?_
      refine V_iconst (v := nI 2) X dX12_ofTownNow_36 (by decide) ?_
      refine V_icmpneN X (by omega) (by omega) (tgt := 47) dX12_ofTownNow_37 (by decide) (fun h5 => ?_) (fun h5 => ?_)
      · -- 37 true
        refine V_aload_n X dX12_ofTownNow_47 0 rfl ?_
        refine R_getf X fl_X12_150 hK (38 + (p)) (rlv (by omega)) (rCell_town (by omega)) rfl dX12_ofTownNow_48 (V.topi (fun x6 ex6 => ?_))
        refine V_aload_n X dX12_ofTownNow_51 0 rfl ?_
        refine R_getf X fl_X12_153 hK (38 + (p)) (rlv (by omega)) (rCell_town (by omega)) rfl dX12_ofTownNow_52 (V.topi (fun x7 ex7 => ?_))
        refine V_iconst (v := nI 0) X dX12_ofTownNow_55 (by decide) ?_
        refine V_iconst (v := nI 0) X dX12_ofTownNow_56 (by decide) ?_
        refine V_callS (rest := []) X E.room ml_X12_241 st_X12_miles (by omega) (by decide) (k_X12_miles (σ := (t, rO g ad N S F σ0)) (x6) (x7) (nI (0)) (nI (0))) rfl rfl (Nat.le_of_ble_eq_true rfl) ⟨by omega, by omega⟩ dX12_ofTownNow_57 (fun _ _ h => False.elim h) (fun v57 σ' hp57 => ?_)
        obtain ⟨hp57, rfl⟩ := hp57
        obtain ⟨r8, rfl, fr8⟩ := hp57
        show V g κ 4 (0) (0) (t, rO g ad N S F σ0) 60 [(3, .ref (ad (38 + (p)))), (0, .ref (ad (0))), (1, .int (nI (p))), (2, .int (nI (w)))] [.int (r8)]
        exact V_iret X E (by omega) (by omega) ⟨_, rfl, by obtain rfl : w = 3 := (by omega); exact Or.inr (Or.inr (Or.inr (⟨rfl, by rw [fr8]; subst_vars; rfl⟩))), _, _, rfl, rM.rfl', hI, rfl⟩ dX12_ofTownNow_60
      · -- 37 false
        refine V_aload_n X dX12_ofTownNow_40 0 rfl ?_
        refine R_getf X fl_X12_156 hK (38 + (p)) (rlv (by omega)) (rCell_town (by omega)) rfl dX12_ofTownNow_41 (V.topi (fun x9 ex9 => ?_))
        refine V_goto (tgt := 60) X dX12_ofTownNow_44 (by decide) ?_
        exact V_iret X E (by omega) (by omega) ⟨_, rfl, by obtain rfl : w = 2 := (by omega); exact Or.inr (Or.inr (Or.inl ⟨rfl, ex9⟩)), _, _, rfl, rM.rfl', hI, rfl⟩ dX12_ofTownNow_60
    · -- 25 false
      refine V_aload_n X dX12_ofTownNow_28 0 rfl ?_
      refine R_getf X fl_X12_153 hK (38 + (p)) (rlv (by omega)) (rCell_town (by omega)) rfl dX12_ofTownNow_29 (V.topi (fun x10 ex10 => ?_))
      refine V_goto (tgt := 60) X dX12_ofTownNow_32 (by decide) ?_
      exact V_iret X E (by omega) (by omega) ⟨_, rfl, by obtain rfl : w = 1 := (by omega); exact Or.inr (Or.inl ⟨rfl, ex10⟩), _, _, rfl, rM.rfl', hI, rfl⟩ dX12_ofTownNow_60
  · -- 13 false
    refine V_aload_n X dX12_ofTownNow_16 0 rfl ?_
    refine R_getf X fl_X12_150 hK (38 + (p)) (rlv (by omega)) (rCell_town (by omega)) rfl dX12_ofTownNow_17 (V.topi (fun x11 ex11 => ?_))
    refine V_goto (tgt := 60) X dX12_ofTownNow_20 (by decide) ?_
    exact V_iret X E (by omega) (by omega) ⟨_, rfl, by obtain rfl : w = 0 := (by omega); exact Or.inl ⟨rfl, ex11⟩, _, _, rfl, rM.rfl', hI, rfl⟩ dX12_ofTownNow_60
set_option maxRecDepth 100000 in
set_option maxHeartbeats 4000000 in
theorem k_X12_ofPart {g : zG} {t : Nat × Nat} {ad N : Nat → Nat} {S : Int64} {σ0 : Nat → Option va_E} {F : Nat → Nat → Int32} (hK : rK g ad N) (hI : rI N F) (a1 : Int32) (a2 : Int32) (hKn : rKn N F) (b : Int32) (h : Nat → Nat) (hb : rBs N F b h) : Ct g 28 yX12_ofPart cX12_ofPart 3 (some FieldType.int) 0 0 [.ref (ad (0)), .int (a1), .int (a2)] (t, rO g ad N S F σ0) (qEx g ad N S σ0 (fun x F' => zR2 (F' 0 0) (zlt (N 0) a1) (zin 0 6 a2) (rM N F F') (∃ p w : Nat, a1 = nI p ∧ p < N 0 ∧ a2 = nI w ∧ w ≤ 6 ∧ rPt N F p w x ∧ rM N F F'))) zNo := by
  refine Ct.of (lv := [(0, .ref (ad (0))), (1, .int (a1)), (2, .int (a2))]) (by decide) (Nat.le_of_ble_eq_true rfl) rfl ?_
  intro κ X E B _
  have X : zX g κ RX12 cX12_ofPart 3 := X
  obtain ⟨b0, b1, b2, b3, b4⟩ := hI.bnd
  refine V_aload_n X dX12_ofPart_0 0 rfl ?_
  refine V_iconst (v := nI 0) X dX12_ofPart_1 (by decide) ?_
  refine R_putf X fl_X12_38 zt_X12 hK (0) (rlv (by omega)) (by omega) rfl (Nat.le_of_ble_eq_true rfl) rfl rfl rfl rfl rfl dX12_ofPart_2 (fun F1 hF1 => ?_)
  have hJF1 := (rM.rfl' : rM N F F).set hF1 (by omega)
  have hIF1 := hI.st hF1 (by omega)
  refine V_aload_n X dX12_ofPart_5 0 rfl ?_
  refine V_iload_n X dX12_ofPart_6 1 rfl ?_
  refine V_callV (rest := []) X E.room ml_X12_261 in_X12_isPart (ci := 16) rfl se_X12_isPart (R_recv hK (q := 0) (rlv (by omega)) rfl) (by omega) (by decide) (k_X12_isPart hK hIF1 (a1)) rfl rfl (Nat.le_of_ble_eq_true rfl) ⟨by omega, by omega⟩ dX12_ofPart_7 (fun _ _ h => False.elim h) (fun v7 σ' hp7 => ?_)
  obtain ⟨hp7, rfl⟩ := hp7
  rcases hp7 with ⟨rfl, z2⟩ | ⟨rfl, z2⟩
  · -- yes
    obtain ⟨j3, ej3, uj3⟩ := id z2
    subst ej3
    show V g κ 3 (0) (0) (t, rO g ad N S F1 σ0) 10 [(0, .ref (ad (0))), (1, .int (nI (j3))), (2, .int (a2))] [.int (nI (1))]
    refine V_ifneN X (by omega) (tgt := 19) dX12_ofPart_10 (by decide) (fun h4 => ?_) (fun h4 => absurd h4 (by omega))
    refine V_iload_n X dX12_ofPart_19 2 rfl ?_
    refine V_iconst (v := nI 0) X dX12_ofPart_20 (by decide) ?_
    refine V_bipush (v := nI 6) X dX12_ofPart_21 (by decide) ?_
    refine V_callS (rest := []) X E.room ml_X12_46 st_X12_is (by omega) (by decide) (k_X12_is (σ := (t, rO g ad N S F1 σ0)) (a2) (nI (0)) (nI (6))) rfl rfl (Nat.le_of_ble_eq_true rfl) ⟨by omega, by omega⟩ dX12_ofPart_23 (fun _ _ h => False.elim h) (fun v23 σ' hp23 => ?_)
    obtain ⟨hp23, rfl⟩ := hp23
    rcases hp23 with ⟨rfl, z5⟩ | ⟨rfl, z5⟩
    · -- yes
      obtain ⟨j6, ej6, -, uj6⟩ := zin_of (Int32.not_lt.mpr z5.1) z5.2 (by decide) (by decide)
      subst ej6
      show V g κ 3 (0) (0) (t, rO g ad N S F1 σ0) 26 [(0, .ref (ad (0))), (1, .int (nI (j3))), (2, .int (nI (j6)))] [.int (nI (1))]
      refine V_ifeqN X (by omega) (tgt := 38) dX12_ofPart_26 (by decide) (fun h7 => absurd h7 (by omega)) (fun h7 => ?_)
      refine V_aload_n X dX12_ofPart_29 0 rfl ?_
      refine V_iload_n X dX12_ofPart_30 1 rfl ?_
      refine V_iload_n X dX12_ofPart_31 2 rfl ?_
      refine V_callV (rest := []) X E.room ml_X12_264 in_X12_ofPartNow (ci := 16) rfl se_X12_ofPartNow (R_recv hK (q := 0) (rlv (by omega)) rfl) (by omega) (by decide) (k_X12_ofPartNow hK hIF1 (j3) (j6) (by omega) (by omega) (hJF1.2 hKn) b h (rBs_M hJF1 hI hb)) rfl rfl (Nat.le_of_ble_eq_true rfl) ⟨by omega, by omega⟩ dX12_ofPart_32 (fun _ _ h => False.elim h) (fun v32 σ' hp32 => ?_)
      obtain ⟨r8, rfl, fr8, t10, F9, rfl, hMF9, hIF9, hZF9⟩ := hp32
      have hKF9 : rM N F F9 := (hJF1 : rM N F F1).trans hMF9
      show V g κ 3 (0) (0) (t10, rO g ad N S F9 σ0) 35 [(0, .ref (ad (0))), (1, .int (nI (j3))), (2, .int (nI (j6)))] [.int (r8)]
      refine V_goto (tgt := 43) X dX12_ofPart_35 (by decide) ?_
      exact V_iret X E (by omega) (by omega) ⟨_, rfl, _, _, rfl, hIF9, Or.inr (Or.inr ⟨hZF9.trans (by rw [hF1, fset_eq]), ⟨_, rfl, by omega⟩, zin_ok (by assumption) (by decide) (by decide), _, _, rfl, by omega, rfl, by omega, rPt_M hJF1 hI (by omega) fr8, hKF9⟩)⟩ dX12_ofPart_43
    · -- no
      show V g κ 3 (0) (0) (t, rO g ad N S F1 σ0) 26 [(0, .ref (ad (0))), (1, .int (nI (j3))), (2, .int (a2))] [.int (nI (0))]
      refine V_ifeqN X (by omega) (tgt := 38) dX12_ofPart_26 (by decide) (fun h11 => ?_) (fun h11 => absurd h11 (by omega))
      refine V_aload_n X dX12_ofPart_38 0 rfl ?_
      refine V_iconst (v := nI 2) X dX12_ofPart_39 (by decide) ?_
      refine V_callV (rest := []) X E.room ml_X12_50 in_X12_refuse (ci := 16) rfl se_X12_refuse (R_recv hK (q := 0) (rlv (by omega)) rfl) (by omega) (by decide) (k_X12_refuse hK hIF1 (nI (2))) rfl rfl (Nat.le_of_ble_eq_true rfl) ⟨by omega, by omega⟩ dX12_ofPart_40 (fun _ _ h => False.elim h) (fun v40 σ' hp40 => ?_)
      obtain ⟨hp40, F12, rfl, hF12⟩ := hp40
      have hKF12 : rM N F F12 := (hJF1 : rM N F F1).set hF12 (by omega)
      have hIF12 := hIF1.st hF12 (by omega)
      cases (hp40 : _ = some (Value.int (nI (0))))
      show V g κ 3 (0) (0) (t, rO g ad N S F12 σ0) 43 [(0, .ref (ad (0))), (1, .int (nI (j3))), (2, .int (a2))] [.int (nI (0))]
      exact V_iret X E (by omega) (by omega) ⟨_, rfl, _, _, rfl, hIF12, Or.inr (Or.inl ⟨(by rw [hF12, fset_eq]), ⟨_, rfl, by omega⟩, fun q => absurd (zin_no (by decide) (by decide) q) (by assumption), hKF12⟩)⟩ dX12_ofPart_43
  · -- no
    show V g κ 3 (0) (0) (t, rO g ad N S F1 σ0) 10 [(0, .ref (ad (0))), (1, .int (a1)), (2, .int (a2))] [.int (nI (0))]
    refine V_ifneN X (by omega) (tgt := 19) dX12_ofPart_10 (by decide) (fun h13 => absurd h13 (by omega)) (fun h13 => ?_)
    refine V_aload_n X dX12_ofPart_13 0 rfl ?_
    refine V_iconst (v := nI 1) X dX12_ofPart_14 (by decide) ?_
    refine V_callV (rest := []) X E.room ml_X12_50 in_X12_refuse (ci := 16) rfl se_X12_refuse (R_recv hK (q := 0) (rlv (by omega)) rfl) (by omega) (by decide) (k_X12_refuse hK hIF1 (nI (1))) rfl rfl (Nat.le_of_ble_eq_true rfl) ⟨by omega, by omega⟩ dX12_ofPart_15 (fun _ _ h => False.elim h) (fun v15 σ' hp15 => ?_)
    obtain ⟨hp15, F14, rfl, hF14⟩ := hp15
    have hKF14 : rM N F F14 := (hJF1 : rM N F F1).set hF14 (by omega)
    have hIF14 := hIF1.st hF14 (by omega)
    cases (hp15 : _ = some (Value.int (nI (0))))
    show V g κ 3 (0) (0) (t, rO g ad N S F14 σ0) 18 [(0, .ref (ad (0))), (1, .int (a1)), (2, .int (a2))] [.int (nI (0))]
    exact V_iret X E (by omega) (by omega) ⟨_, rfl, _, _, rfl, hIF14, Or.inl ⟨(by rw [hF14, fset_eq]), by assumption, hKF14⟩⟩ dX12_ofPart_18
set_option maxRecDepth 100000 in
set_option maxHeartbeats 4000000 in
theorem k_X12_ofPlayer {g : zG} {t : Nat × Nat} {ad N : Nat → Nat} {S : Int64} {σ0 : Nat → Option va_E} {F : Nat → Nat → Int32} (hK : rK g ad N) (hI : rI N F) (a1 : Int32) (a2 : Int32) (hKn : rKn N F) (b : Int32) (h : Nat → Nat) (hb : rBs N F b h) : Ct g 28 yX12_ofPlayer cX12_ofPlayer 3 (some FieldType.int) 0 0 [.ref (ad (0)), .int (a1), .int (a2)] (t, rO g ad N S F σ0) (qEx g ad N S σ0 (fun x F' => zR2 (F' 0 0) (zlt (N 1) a1) (zin 0 5 a2) (rM N F F') (∃ p w : Nat, a1 = nI p ∧ p < N 1 ∧ a2 = nI w ∧ w ≤ 5 ∧ rPl N F p w x ∧ rM N F F'))) zNo := by
  refine Ct.of (lv := [(0, .ref (ad (0))), (1, .int (a1)), (2, .int (a2))]) (by decide) (Nat.le_of_ble_eq_true rfl) rfl ?_
  intro κ X E B _
  have X : zX g κ RX12 cX12_ofPlayer 3 := X
  obtain ⟨b0, b1, b2, b3, b4⟩ := hI.bnd
  refine V_aload_n X dX12_ofPlayer_0 0 rfl ?_
  refine V_iconst (v := nI 0) X dX12_ofPlayer_1 (by decide) ?_
  refine R_putf X fl_X12_38 zt_X12 hK (0) (rlv (by omega)) (by omega) rfl (Nat.le_of_ble_eq_true rfl) rfl rfl rfl rfl rfl dX12_ofPlayer_2 (fun F1 hF1 => ?_)
  have hJF1 := (rM.rfl' : rM N F F).set hF1 (by omega)
  have hIF1 := hI.st hF1 (by omega)
  refine V_aload_n X dX12_ofPlayer_5 0 rfl ?_
  refine V_iload_n X dX12_ofPlayer_6 1 rfl ?_
  refine V_callV (rest := []) X E.room ml_X12_118 in_X12_isPlayer (ci := 16) rfl se_X12_isPlayer (R_recv hK (q := 0) (rlv (by omega)) rfl) (by omega) (by decide) (k_X12_isPlayer hK hIF1 (a1)) rfl rfl (Nat.le_of_ble_eq_true rfl) ⟨by omega, by omega⟩ dX12_ofPlayer_7 (fun _ _ h => False.elim h) (fun v7 σ' hp7 => ?_)
  obtain ⟨hp7, rfl⟩ := hp7
  rcases hp7 with ⟨rfl, z2⟩ | ⟨rfl, z2⟩
  · -- yes
    obtain ⟨j3, ej3, uj3⟩ := id z2
    subst ej3
    show V g κ 3 (0) (0) (t, rO g ad N S F1 σ0) 10 [(0, .ref (ad (0))), (1, .int (nI (j3))), (2, .int (a2))] [.int (nI (1))]
    refine V_ifneN X (by omega) (tgt := 19) dX12_ofPlayer_10 (by decide) (fun h4 => ?_) (fun h4 => absurd h4 (by omega))
    refine V_iload_n X dX12_ofPlayer_19 2 rfl ?_
    refine V_iconst (v := nI 0) X dX12_ofPlayer_20 (by decide) ?_
    refine V_iconst (v := nI 5) X dX12_ofPlayer_21 (by decide) ?_
    refine V_callS (rest := []) X E.room ml_X12_46 st_X12_is (by omega) (by decide) (k_X12_is (σ := (t, rO g ad N S F1 σ0)) (a2) (nI (0)) (nI (5))) rfl rfl (Nat.le_of_ble_eq_true rfl) ⟨by omega, by omega⟩ dX12_ofPlayer_22 (fun _ _ h => False.elim h) (fun v22 σ' hp22 => ?_)
    obtain ⟨hp22, rfl⟩ := hp22
    rcases hp22 with ⟨rfl, z5⟩ | ⟨rfl, z5⟩
    · -- yes
      obtain ⟨j6, ej6, -, uj6⟩ := zin_of (Int32.not_lt.mpr z5.1) z5.2 (by decide) (by decide)
      subst ej6
      show V g κ 3 (0) (0) (t, rO g ad N S F1 σ0) 25 [(0, .ref (ad (0))), (1, .int (nI (j3))), (2, .int (nI (j6)))] [.int (nI (1))]
      refine V_ifeqN X (by omega) (tgt := 37) dX12_ofPlayer_25 (by decide) (fun h7 => absurd h7 (by omega)) (fun h7 => ?_)
      refine V_aload_n X dX12_ofPlayer_28 0 rfl ?_
      refine V_iload_n X dX12_ofPlayer_29 1 rfl ?_
      refine V_iload_n X dX12_ofPlayer_30 2 rfl ?_
      refine V_callV (rest := []) X E.room ml_X12_267 in_X12_ofPlayerNow (ci := 16) rfl se_X12_ofPlayerNow (R_recv hK (q := 0) (rlv (by omega)) rfl) (by omega) (by decide) (k_X12_ofPlayerNow hK hIF1 (j3) (j6) (by omega) (by omega) (hJF1.2 hKn) b h (rBs_M hJF1 hI hb)) rfl rfl (Nat.le_of_ble_eq_true rfl) ⟨by omega, by omega⟩ dX12_ofPlayer_31 (fun _ _ h => False.elim h) (fun v31 σ' hp31 => ?_)
      obtain ⟨r8, rfl, fr8, t10, F9, rfl, hMF9, hIF9, hZF9⟩ := hp31
      have hKF9 : rM N F F9 := (hJF1 : rM N F F1).trans hMF9
      show V g κ 3 (0) (0) (t10, rO g ad N S F9 σ0) 34 [(0, .ref (ad (0))), (1, .int (nI (j3))), (2, .int (nI (j6)))] [.int (r8)]
      refine V_goto (tgt := 42) X dX12_ofPlayer_34 (by decide) ?_
      exact V_iret X E (by omega) (by omega) ⟨_, rfl, _, _, rfl, hIF9, Or.inr (Or.inr ⟨hZF9.trans (by rw [hF1, fset_eq]), ⟨_, rfl, by omega⟩, zin_ok (by assumption) (by decide) (by decide), _, _, rfl, by omega, rfl, by omega, rPl_M hJF1 hI (by omega) fr8, hKF9⟩)⟩ dX12_ofPlayer_42
    · -- no
      show V g κ 3 (0) (0) (t, rO g ad N S F1 σ0) 25 [(0, .ref (ad (0))), (1, .int (nI (j3))), (2, .int (a2))] [.int (nI (0))]
      refine V_ifeqN X (by omega) (tgt := 37) dX12_ofPlayer_25 (by decide) (fun h11 => ?_) (fun h11 => absurd h11 (by omega))
      refine V_aload_n X dX12_ofPlayer_37 0 rfl ?_
      refine V_iconst (v := nI 2) X dX12_ofPlayer_38 (by decide) ?_
      refine V_callV (rest := []) X E.room ml_X12_50 in_X12_refuse (ci := 16) rfl se_X12_refuse (R_recv hK (q := 0) (rlv (by omega)) rfl) (by omega) (by decide) (k_X12_refuse hK hIF1 (nI (2))) rfl rfl (Nat.le_of_ble_eq_true rfl) ⟨by omega, by omega⟩ dX12_ofPlayer_39 (fun _ _ h => False.elim h) (fun v39 σ' hp39 => ?_)
      obtain ⟨hp39, F12, rfl, hF12⟩ := hp39
      have hKF12 : rM N F F12 := (hJF1 : rM N F F1).set hF12 (by omega)
      have hIF12 := hIF1.st hF12 (by omega)
      cases (hp39 : _ = some (Value.int (nI (0))))
      show V g κ 3 (0) (0) (t, rO g ad N S F12 σ0) 42 [(0, .ref (ad (0))), (1, .int (nI (j3))), (2, .int (a2))] [.int (nI (0))]
      exact V_iret X E (by omega) (by omega) ⟨_, rfl, _, _, rfl, hIF12, Or.inr (Or.inl ⟨(by rw [hF12, fset_eq]), ⟨_, rfl, by omega⟩, fun q => absurd (zin_no (by decide) (by decide) q) (by assumption), hKF12⟩)⟩ dX12_ofPlayer_42
  · -- no
    show V g κ 3 (0) (0) (t, rO g ad N S F1 σ0) 10 [(0, .ref (ad (0))), (1, .int (a1)), (2, .int (a2))] [.int (nI (0))]
    refine V_ifneN X (by omega) (tgt := 19) dX12_ofPlayer_10 (by decide) (fun h13 => absurd h13 (by omega)) (fun h13 => ?_)
    refine V_aload_n X dX12_ofPlayer_13 0 rfl ?_
    refine V_iconst (v := nI 1) X dX12_ofPlayer_14 (by decide) ?_
    refine V_callV (rest := []) X E.room ml_X12_50 in_X12_refuse (ci := 16) rfl se_X12_refuse (R_recv hK (q := 0) (rlv (by omega)) rfl) (by omega) (by decide) (k_X12_refuse hK hIF1 (nI (1))) rfl rfl (Nat.le_of_ble_eq_true rfl) ⟨by omega, by omega⟩ dX12_ofPlayer_15 (fun _ _ h => False.elim h) (fun v15 σ' hp15 => ?_)
    obtain ⟨hp15, F14, rfl, hF14⟩ := hp15
    have hKF14 : rM N F F14 := (hJF1 : rM N F F1).set hF14 (by omega)
    have hIF14 := hIF1.st hF14 (by omega)
    cases (hp15 : _ = some (Value.int (nI (0))))
    show V g κ 3 (0) (0) (t, rO g ad N S F14 σ0) 18 [(0, .ref (ad (0))), (1, .int (a1)), (2, .int (a2))] [.int (nI (0))]
    exact V_iret X E (by omega) (by omega) ⟨_, rfl, _, _, rfl, hIF14, Or.inl ⟨(by rw [hF14, fset_eq]), by assumption, hKF14⟩⟩ dX12_ofPlayer_18
set_option maxRecDepth 100000 in
set_option maxHeartbeats 4000000 in
theorem k_X12_ofCoat {g : zG} {t : Nat × Nat} {ad N : Nat → Nat} {S : Int64} {σ0 : Nat → Option va_E} {F : Nat → Nat → Int32} (hK : rK g ad N) (hI : rI N F) (a1 : Int32) (a2 : Int32) (hKn : rKn N F) (b : Int32) (h : Nat → Nat) (hb : rBs N F b h) : Ct g 21 yX12_ofCoat cX12_ofCoat 3 (some FieldType.int) 0 0 [.ref (ad (0)), .int (a1), .int (a2)] (t, rO g ad N S F σ0) (qEx g ad N S σ0 (fun x F' => zR2 (F' 0 0) (zlt (N 3) a1) (zin 0 3 a2) (rM N F F') (∃ p w : Nat, a1 = nI p ∧ p < N 3 ∧ a2 = nI w ∧ w ≤ 3 ∧ rCt F p w x ∧ rM N F F'))) zNo := by
  refine Ct.of (lv := [(0, .ref (ad (0))), (1, .int (a1)), (2, .int (a2))]) (by decide) (Nat.le_of_ble_eq_true rfl) rfl ?_
  intro κ X E B _
  have X : zX g κ RX12 cX12_ofCoat 3 := X
  obtain ⟨b0, b1, b2, b3, b4⟩ := hI.bnd
  refine V_aload_n X dX12_ofCoat_0 0 rfl ?_
  refine V_iconst (v := nI 0) X dX12_ofCoat_1 (by decide) ?_
  refine R_putf X fl_X12_38 zt_X12 hK (0) (rlv (by omega)) (by omega) rfl (Nat.le_of_ble_eq_true rfl) rfl rfl rfl rfl rfl dX12_ofCoat_2 (fun F1 hF1 => ?_)
  have hJF1 := (rM.rfl' : rM N F F).set hF1 (by omega)
  have hIF1 := hI.st hF1 (by omega)
  refine V_aload_n X dX12_ofCoat_5 0 rfl ?_
  refine V_iload_n X dX12_ofCoat_6 1 rfl ?_
  refine V_callV (rest := []) X E.room ml_X12_132 in_X12_isCoat (ci := 16) rfl se_X12_isCoat (R_recv hK (q := 0) (rlv (by omega)) rfl) (by omega) (by decide) (k_X12_isCoat hK hIF1 (a1)) rfl rfl (Nat.le_of_ble_eq_true rfl) ⟨by omega, by omega⟩ dX12_ofCoat_7 (fun _ _ h => False.elim h) (fun v7 σ' hp7 => ?_)
  obtain ⟨hp7, rfl⟩ := hp7
  rcases hp7 with ⟨rfl, z2⟩ | ⟨rfl, z2⟩
  · -- yes
    obtain ⟨j3, ej3, uj3⟩ := id z2
    subst ej3
    show V g κ 3 (0) (0) (t, rO g ad N S F1 σ0) 10 [(0, .ref (ad (0))), (1, .int (nI (j3))), (2, .int (a2))] [.int (nI (1))]
    refine V_ifneN X (by omega) (tgt := 19) dX12_ofCoat_10 (by decide) (fun h4 => ?_) (fun h4 => absurd h4 (by omega))
    refine V_iload_n X dX12_ofCoat_19 2 rfl ?_
    refine V_iconst (v := nI 0) X dX12_ofCoat_20 (by decide) ?_
    refine V_iconst (v := nI 3) X dX12_ofCoat_21 (by decide) ?_
    refine V_callS (rest := []) X E.room ml_X12_46 st_X12_is (by omega) (by decide) (k_X12_is (σ := (t, rO g ad N S F1 σ0)) (a2) (nI (0)) (nI (3))) rfl rfl (Nat.le_of_ble_eq_true rfl) ⟨by omega, by omega⟩ dX12_ofCoat_22 (fun _ _ h => False.elim h) (fun v22 σ' hp22 => ?_)
    obtain ⟨hp22, rfl⟩ := hp22
    rcases hp22 with ⟨rfl, z5⟩ | ⟨rfl, z5⟩
    · -- yes
      obtain ⟨j6, ej6, -, uj6⟩ := zin_of (Int32.not_lt.mpr z5.1) z5.2 (by decide) (by decide)
      subst ej6
      show V g κ 3 (0) (0) (t, rO g ad N S F1 σ0) 25 [(0, .ref (ad (0))), (1, .int (nI (j3))), (2, .int (nI (j6)))] [.int (nI (1))]
      refine V_ifeqN X (by omega) (tgt := 37) dX12_ofCoat_25 (by decide) (fun h7 => absurd h7 (by omega)) (fun h7 => ?_)
      refine V_aload_n X dX12_ofCoat_28 0 rfl ?_
      refine V_iload_n X dX12_ofCoat_29 1 rfl ?_
      refine V_iload_n X dX12_ofCoat_30 2 rfl ?_
      refine V_callV (rest := []) X E.room ml_X12_282 in_X12_ofCoatNow (ci := 16) rfl se_X12_ofCoatNow (R_recv hK (q := 0) (rlv (by omega)) rfl) (by omega) (by decide) (k_X12_ofCoatNow hK hIF1 (j3) (j6) (by omega) (by omega) (hJF1.2 hKn) b h (rBs_M hJF1 hI hb)) rfl rfl (Nat.le_of_ble_eq_true rfl) ⟨by omega, by omega⟩ dX12_ofCoat_31 (fun _ _ h => False.elim h) (fun v31 σ' hp31 => ?_)
      obtain ⟨r8, rfl, fr8, t10, F9, rfl, hMF9, hIF9, hZF9⟩ := hp31
      have hKF9 : rM N F F9 := (hJF1 : rM N F F1).trans hMF9
      show V g κ 3 (0) (0) (t10, rO g ad N S F9 σ0) 34 [(0, .ref (ad (0))), (1, .int (nI (j3))), (2, .int (nI (j6)))] [.int (r8)]
      refine V_goto (tgt := 42) X dX12_ofCoat_34 (by decide) ?_
      exact V_iret X E (by omega) (by omega) ⟨_, rfl, _, _, rfl, hIF9, Or.inr (Or.inr ⟨hZF9.trans (by rw [hF1, fset_eq]), ⟨_, rfl, by omega⟩, zin_ok (by assumption) (by decide) (by decide), _, _, rfl, by omega, rfl, by omega, rCt_M hJF1 hI (by omega) fr8, hKF9⟩)⟩ dX12_ofCoat_42
    · -- no
      show V g κ 3 (0) (0) (t, rO g ad N S F1 σ0) 25 [(0, .ref (ad (0))), (1, .int (nI (j3))), (2, .int (a2))] [.int (nI (0))]
      refine V_ifeqN X (by omega) (tgt := 37) dX12_ofCoat_25 (by decide) (fun h11 => ?_) (fun h11 => absurd h11 (by omega))
      refine V_aload_n X dX12_ofCoat_37 0 rfl ?_
      refine V_iconst (v := nI 2) X dX12_ofCoat_38 (by decide) ?_
      refine V_callV (rest := []) X E.room ml_X12_50 in_X12_refuse (ci := 16) rfl se_X12_refuse (R_recv hK (q := 0) (rlv (by omega)) rfl) (by omega) (by decide) (k_X12_refuse hK hIF1 (nI (2))) rfl rfl (Nat.le_of_ble_eq_true rfl) ⟨by omega, by omega⟩ dX12_ofCoat_39 (fun _ _ h => False.elim h) (fun v39 σ' hp39 => ?_)
      obtain ⟨hp39, F12, rfl, hF12⟩ := hp39
      have hKF12 : rM N F F12 := (hJF1 : rM N F F1).set hF12 (by omega)
      have hIF12 := hIF1.st hF12 (by omega)
      cases (hp39 : _ = some (Value.int (nI (0))))
      show V g κ 3 (0) (0) (t, rO g ad N S F12 σ0) 42 [(0, .ref (ad (0))), (1, .int (nI (j3))), (2, .int (a2))] [.int (nI (0))]
      exact V_iret X E (by omega) (by omega) ⟨_, rfl, _, _, rfl, hIF12, Or.inr (Or.inl ⟨(by rw [hF12, fset_eq]), ⟨_, rfl, by omega⟩, fun q => absurd (zin_no (by decide) (by decide) q) (by assumption), hKF12⟩)⟩ dX12_ofCoat_42
  · -- no
    show V g κ 3 (0) (0) (t, rO g ad N S F1 σ0) 10 [(0, .ref (ad (0))), (1, .int (a1)), (2, .int (a2))] [.int (nI (0))]
    refine V_ifneN X (by omega) (tgt := 19) dX12_ofCoat_10 (by decide) (fun h13 => absurd h13 (by omega)) (fun h13 => ?_)
    refine V_aload_n X dX12_ofCoat_13 0 rfl ?_
    refine V_iconst (v := nI 1) X dX12_ofCoat_14 (by decide) ?_
    refine V_callV (rest := []) X E.room ml_X12_50 in_X12_refuse (ci := 16) rfl se_X12_refuse (R_recv hK (q := 0) (rlv (by omega)) rfl) (by omega) (by decide) (k_X12_refuse hK hIF1 (nI (1))) rfl rfl (Nat.le_of_ble_eq_true rfl) ⟨by omega, by omega⟩ dX12_ofCoat_15 (fun _ _ h => False.elim h) (fun v15 σ' hp15 => ?_)
    obtain ⟨hp15, F14, rfl, hF14⟩ := hp15
    have hKF14 : rM N F F14 := (hJF1 : rM N F F1).set hF14 (by omega)
    have hIF14 := hIF1.st hF14 (by omega)
    cases (hp15 : _ = some (Value.int (nI (0))))
    show V g κ 3 (0) (0) (t, rO g ad N S F14 σ0) 18 [(0, .ref (ad (0))), (1, .int (a1)), (2, .int (a2))] [.int (nI (0))]
    exact V_iret X E (by omega) (by omega) ⟨_, rfl, _, _, rfl, hIF14, Or.inl ⟨(by rw [hF14, fset_eq]), by assumption, hKF14⟩⟩ dX12_ofCoat_18
set_option maxRecDepth 100000 in
set_option maxHeartbeats 4000000 in
theorem k_X12_ofTown {g : zG} {t : Nat × Nat} {ad N : Nat → Nat} {S : Int64} {σ0 : Nat → Option va_E} {F : Nat → Nat → Int32} (hK : rK g ad N) (hI : rI N F) (a1 : Int32) (a2 : Int32) (hKn : rKn N F) (b : Int32) (h : Nat → Nat) (hb : rBs N F b h) : Ct g 21 yX12_ofTown cX12_ofTown 3 (some FieldType.int) 0 0 [.ref (ad (0)), .int (a1), .int (a2)] (t, rO g ad N S F σ0) (qEx g ad N S σ0 (fun x F' => zR2 (F' 0 0) (zlt (N 4) a1) (zin 0 3 a2) (rM N F F') (∃ p w : Nat, a1 = nI p ∧ p < N 4 ∧ a2 = nI w ∧ w ≤ 3 ∧ rTn F p w x ∧ rM N F F'))) zNo := by
  refine Ct.of (lv := [(0, .ref (ad (0))), (1, .int (a1)), (2, .int (a2))]) (by decide) (Nat.le_of_ble_eq_true rfl) rfl ?_
  intro κ X E B _
  have X : zX g κ RX12 cX12_ofTown 3 := X
  obtain ⟨b0, b1, b2, b3, b4⟩ := hI.bnd
  refine V_aload_n X dX12_ofTown_0 0 rfl ?_
  refine V_iconst (v := nI 0) X dX12_ofTown_1 (by decide) ?_
  refine R_putf X fl_X12_38 zt_X12 hK (0) (rlv (by omega)) (by omega) rfl (Nat.le_of_ble_eq_true rfl) rfl rfl rfl rfl rfl dX12_ofTown_2 (fun F1 hF1 => ?_)
  have hJF1 := (rM.rfl' : rM N F F).set hF1 (by omega)
  have hIF1 := hI.st hF1 (by omega)
  refine V_aload_n X dX12_ofTown_5 0 rfl ?_
  refine V_iload_n X dX12_ofTown_6 1 rfl ?_
  refine V_callV (rest := []) X E.room ml_X12_228 in_X12_isTown (ci := 16) rfl se_X12_isTown (R_recv hK (q := 0) (rlv (by omega)) rfl) (by omega) (by decide) (k_X12_isTown hK hIF1 (a1)) rfl rfl (Nat.le_of_ble_eq_true rfl) ⟨by omega, by omega⟩ dX12_ofTown_7 (fun _ _ h => False.elim h) (fun v7 σ' hp7 => ?_)
  obtain ⟨hp7, rfl⟩ := hp7
  rcases hp7 with ⟨rfl, z2⟩ | ⟨rfl, z2⟩
  · -- yes
    obtain ⟨j3, ej3, uj3⟩ := id z2
    subst ej3
    show V g κ 3 (0) (0) (t, rO g ad N S F1 σ0) 10 [(0, .ref (ad (0))), (1, .int (nI (j3))), (2, .int (a2))] [.int (nI (1))]
    refine V_ifneN X (by omega) (tgt := 19) dX12_ofTown_10 (by decide) (fun h4 => ?_) (fun h4 => absurd h4 (by omega))
    refine V_iload_n X dX12_ofTown_19 2 rfl ?_
    refine V_iconst (v := nI 0) X dX12_ofTown_20 (by decide) ?_
    refine V_iconst (v := nI 3) X dX12_ofTown_21 (by decide) ?_
    refine V_callS (rest := []) X E.room ml_X12_46 st_X12_is (by omega) (by decide) (k_X12_is (σ := (t, rO g ad N S F1 σ0)) (a2) (nI (0)) (nI (3))) rfl rfl (Nat.le_of_ble_eq_true rfl) ⟨by omega, by omega⟩ dX12_ofTown_22 (fun _ _ h => False.elim h) (fun v22 σ' hp22 => ?_)
    obtain ⟨hp22, rfl⟩ := hp22
    rcases hp22 with ⟨rfl, z5⟩ | ⟨rfl, z5⟩
    · -- yes
      obtain ⟨j6, ej6, -, uj6⟩ := zin_of (Int32.not_lt.mpr z5.1) z5.2 (by decide) (by decide)
      subst ej6
      show V g κ 3 (0) (0) (t, rO g ad N S F1 σ0) 25 [(0, .ref (ad (0))), (1, .int (nI (j3))), (2, .int (nI (j6)))] [.int (nI (1))]
      refine V_ifeqN X (by omega) (tgt := 37) dX12_ofTown_25 (by decide) (fun h7 => absurd h7 (by omega)) (fun h7 => ?_)
      refine V_aload_n X dX12_ofTown_28 0 rfl ?_
      refine V_iload_n X dX12_ofTown_29 1 rfl ?_
      refine V_iload_n X dX12_ofTown_30 2 rfl ?_
      refine V_callV (rest := []) X E.room ml_X12_285 in_X12_ofTownNow (ci := 16) rfl se_X12_ofTownNow (R_recv hK (q := 0) (rlv (by omega)) rfl) (by omega) (by decide) (k_X12_ofTownNow hK hIF1 (j3) (j6) (by omega) (by omega) (hJF1.2 hKn) b h (rBs_M hJF1 hI hb)) rfl rfl (Nat.le_of_ble_eq_true rfl) ⟨by omega, by omega⟩ dX12_ofTown_31 (fun _ _ h => False.elim h) (fun v31 σ' hp31 => ?_)
      obtain ⟨r8, rfl, fr8, t10, F9, rfl, hMF9, hIF9, hZF9⟩ := hp31
      have hKF9 : rM N F F9 := (hJF1 : rM N F F1).trans hMF9
      show V g κ 3 (0) (0) (t10, rO g ad N S F9 σ0) 34 [(0, .ref (ad (0))), (1, .int (nI (j3))), (2, .int (nI (j6)))] [.int (r8)]
      refine V_goto (tgt := 42) X dX12_ofTown_34 (by decide) ?_
      exact V_iret X E (by omega) (by omega) ⟨_, rfl, _, _, rfl, hIF9, Or.inr (Or.inr ⟨hZF9.trans (by rw [hF1, fset_eq]), ⟨_, rfl, by omega⟩, zin_ok (by assumption) (by decide) (by decide), _, _, rfl, by omega, rfl, by omega, rTn_M hJF1 hI (by omega) fr8, hKF9⟩)⟩ dX12_ofTown_42
    · -- no
      show V g κ 3 (0) (0) (t, rO g ad N S F1 σ0) 25 [(0, .ref (ad (0))), (1, .int (nI (j3))), (2, .int (a2))] [.int (nI (0))]
      refine V_ifeqN X (by omega) (tgt := 37) dX12_ofTown_25 (by decide) (fun h11 => ?_) (fun h11 => absurd h11 (by omega))
      refine V_aload_n X dX12_ofTown_37 0 rfl ?_
      refine V_iconst (v := nI 2) X dX12_ofTown_38 (by decide) ?_
      refine V_callV (rest := []) X E.room ml_X12_50 in_X12_refuse (ci := 16) rfl se_X12_refuse (R_recv hK (q := 0) (rlv (by omega)) rfl) (by omega) (by decide) (k_X12_refuse hK hIF1 (nI (2))) rfl rfl (Nat.le_of_ble_eq_true rfl) ⟨by omega, by omega⟩ dX12_ofTown_39 (fun _ _ h => False.elim h) (fun v39 σ' hp39 => ?_)
      obtain ⟨hp39, F12, rfl, hF12⟩ := hp39
      have hKF12 : rM N F F12 := (hJF1 : rM N F F1).set hF12 (by omega)
      have hIF12 := hIF1.st hF12 (by omega)
      cases (hp39 : _ = some (Value.int (nI (0))))
      show V g κ 3 (0) (0) (t, rO g ad N S F12 σ0) 42 [(0, .ref (ad (0))), (1, .int (nI (j3))), (2, .int (a2))] [.int (nI (0))]
      exact V_iret X E (by omega) (by omega) ⟨_, rfl, _, _, rfl, hIF12, Or.inr (Or.inl ⟨(by rw [hF12, fset_eq]), ⟨_, rfl, by omega⟩, fun q => absurd (zin_no (by decide) (by decide) q) (by assumption), hKF12⟩)⟩ dX12_ofTown_42
  · -- no
    show V g κ 3 (0) (0) (t, rO g ad N S F1 σ0) 10 [(0, .ref (ad (0))), (1, .int (a1)), (2, .int (a2))] [.int (nI (0))]
    refine V_ifneN X (by omega) (tgt := 19) dX12_ofTown_10 (by decide) (fun h13 => absurd h13 (by omega)) (fun h13 => ?_)
    refine V_aload_n X dX12_ofTown_13 0 rfl ?_
    refine V_iconst (v := nI 1) X dX12_ofTown_14 (by decide) ?_
    refine V_callV (rest := []) X E.room ml_X12_50 in_X12_refuse (ci := 16) rfl se_X12_refuse (R_recv hK (q := 0) (rlv (by omega)) rfl) (by omega) (by decide) (k_X12_refuse hK hIF1 (nI (1))) rfl rfl (Nat.le_of_ble_eq_true rfl) ⟨by omega, by omega⟩ dX12_ofTown_15 (fun _ _ h => False.elim h) (fun v15 σ' hp15 => ?_)
    obtain ⟨hp15, F14, rfl, hF14⟩ := hp15
    have hKF14 : rM N F F14 := (hJF1 : rM N F F1).set hF14 (by omega)
    have hIF14 := hIF1.st hF14 (by omega)
    cases (hp15 : _ = some (Value.int (nI (0))))
    show V g κ 3 (0) (0) (t, rO g ad N S F14 σ0) 18 [(0, .ref (ad (0))), (1, .int (a1)), (2, .int (a2))] [.int (nI (0))]
    exact V_iret X E (by omega) (by omega) ⟨_, rfl, _, _, rfl, hIF14, Or.inl ⟨(by rw [hF14, fset_eq]), by assumption, hKF14⟩⟩ dX12_ofTown_18
set_option maxRecDepth 100000 in
set_option maxHeartbeats 4000000 in
theorem k_X12_shareOf {g : zG} {t : Nat × Nat} {ad N : Nat → Nat} {S : Int64} {σ0 : Nat → Option va_E} {F : Nat → Nat → Int32} (hK : rK g ad N) (hI : rI N F) (a1 : Int32) (a2 : Int32) (hKn : rKn N F) (b : Int32) (h : Nat → Nat) (hb : rBs N F b h) : Ct g 29 yX12_shareOf cX12_shareOf 3 (some FieldType.int) 0 0 [.ref (ad (0)), .int (a1), .int (a2)] (t, rO g ad N S F σ0) (qEx g ad N S σ0 (fun x F' => zR2 (F' 0 0) (zlt (N 1) a2) (zin 0 9999 a1) (rM N F F') (∃ p : Nat, a2 = nI p ∧ p < N 1 ∧ rSh N F a1 p x ∧ rM N F F'))) zNo := by
  refine Ct.of (lv := [(0, .ref (ad (0))), (1, .int (a1)), (2, .int (a2))]) (by decide) (Nat.le_of_ble_eq_true rfl) rfl ?_
  intro κ X E B _
  have X : zX g κ RX12 cX12_shareOf 3 := X
  obtain ⟨b0, b1, b2, b3, b4⟩ := hI.bnd
  refine V_aload_n X dX12_shareOf_0 0 rfl ?_
  refine V_iconst (v := nI 0) X dX12_shareOf_1 (by decide) ?_
  refine R_putf X fl_X12_38 zt_X12 hK (0) (rlv (by omega)) (by omega) rfl (Nat.le_of_ble_eq_true rfl) rfl rfl rfl rfl rfl dX12_shareOf_2 (fun F1 hF1 => ?_)
  have hJF1 := (rM.rfl' : rM N F F).set hF1 (by omega)
  have hIF1 := hI.st hF1 (by omega)
  refine V_aload_n X dX12_shareOf_5 0 rfl ?_
  refine V_iload_n X dX12_shareOf_6 2 rfl ?_
  refine V_callV (rest := []) X E.room ml_X12_118 in_X12_isPlayer (ci := 16) rfl se_X12_isPlayer (R_recv hK (q := 0) (rlv (by omega)) rfl) (by omega) (by decide) (k_X12_isPlayer hK hIF1 (a2)) rfl rfl (Nat.le_of_ble_eq_true rfl) ⟨by omega, by omega⟩ dX12_shareOf_7 (fun _ _ h => False.elim h) (fun v7 σ' hp7 => ?_)
  obtain ⟨hp7, rfl⟩ := hp7
  rcases hp7 with ⟨rfl, z2⟩ | ⟨rfl, z2⟩
  · -- yes
    obtain ⟨j3, ej3, uj3⟩ := id z2
    subst ej3
    show V g κ 3 (0) (0) (t, rO g ad N S F1 σ0) 10 [(0, .ref (ad (0))), (1, .int (a1)), (2, .int (nI (j3)))] [.int (nI (1))]
    refine V_ifneN X (by omega) (tgt := 19) dX12_shareOf_10 (by decide) (fun h4 => ?_) (fun h4 => absurd h4 (by omega))
    refine V_iload_n X dX12_shareOf_19 1 rfl ?_
    refine V_iconst (v := nI 0) X dX12_shareOf_20 (by decide) ?_
    refine V_sipush (v := nI 9999) X dX12_shareOf_21 (by decide) ?_
    refine V_callS (rest := []) X E.room ml_X12_46 st_X12_is (by omega) (by decide) (k_X12_is (σ := (t, rO g ad N S F1 σ0)) (a1) (nI (0)) (nI (9999))) rfl rfl (Nat.le_of_ble_eq_true rfl) ⟨by omega, by omega⟩ dX12_shareOf_24 (fun _ _ h => False.elim h) (fun v24 σ' hp24 => ?_)
    obtain ⟨hp24, rfl⟩ := hp24
    rcases hp24 with ⟨rfl, z5⟩ | ⟨rfl, z5⟩
    · -- yes
      obtain ⟨j6, ej6, -, uj6⟩ := zin_of (Int32.not_lt.mpr z5.1) z5.2 (by decide) (by decide)
      subst ej6
      show V g κ 3 (0) (0) (t, rO g ad N S F1 σ0) 27 [(0, .ref (ad (0))), (1, .int (nI (j6))), (2, .int (nI (j3)))] [.int (nI (1))]
      refine V_ifeqN X (by omega) (tgt := 39) dX12_shareOf_27 (by decide) (fun h7 => absurd h7 (by omega)) (fun h7 => ?_)
      refine V_aload_n X dX12_shareOf_30 0 rfl ?_
      refine V_iload_n X dX12_shareOf_31 1 rfl ?_
      refine V_iload_n X dX12_shareOf_32 2 rfl ?_
      refine V_callV (rest := []) X E.room ml_X12_231 in_X12_shareNow (ci := 16) rfl se_X12_shareNow (R_recv hK (q := 0) (rlv (by omega)) rfl) (by omega) (by decide) (k_X12_shareNow hK hIF1 (nI (j6)) (j3) (by omega) (hJF1.2 hKn) b h (rBs_M hJF1 hI hb)) rfl rfl (Nat.le_of_ble_eq_true rfl) ⟨by omega, by omega⟩ dX12_shareOf_33 (fun _ _ h => False.elim h) (fun v33 σ' hp33 => ?_)
      obtain ⟨r8, rfl, fr8, t10, F9, rfl, hMF9, hIF9, hZF9⟩ := hp33
      have hKF9 : rM N F F9 := (hJF1 : rM N F F1).trans hMF9
      show V g κ 3 (0) (0) (t10, rO g ad N S F9 σ0) 36 [(0, .ref (ad (0))), (1, .int (nI (j6))), (2, .int (nI (j3)))] [.int (r8)]
      refine V_goto (tgt := 44) X dX12_shareOf_36 (by decide) ?_
      exact V_iret X E (by omega) (by omega) ⟨_, rfl, _, _, rfl, hIF9, Or.inr (Or.inr ⟨hZF9.trans (by rw [hF1, fset_eq]), ⟨_, rfl, by omega⟩, zin_ok (by assumption) (by decide) (by decide), _, rfl, by omega, ⟨_, _, hb, fr8.trans (zPo_cg (by omega) (fun i hi => (hJF1).1 _ 2 (Or.inl ⟨by omega, by omega⟩)) (fun i _ => zAc_M hJF1 hI))⟩, hKF9⟩)⟩ dX12_shareOf_44
    · -- no
      show V g κ 3 (0) (0) (t, rO g ad N S F1 σ0) 27 [(0, .ref (ad (0))), (1, .int (a1)), (2, .int (nI (j3)))] [.int (nI (0))]
      refine V_ifeqN X (by omega) (tgt := 39) dX12_shareOf_27 (by decide) (fun h11 => ?_) (fun h11 => absurd h11 (by omega))
      refine V_aload_n X dX12_shareOf_39 0 rfl ?_
      refine V_iconst (v := nI 2) X dX12_shareOf_40 (by decide) ?_
      refine V_callV (rest := []) X E.room ml_X12_50 in_X12_refuse (ci := 16) rfl se_X12_refuse (R_recv hK (q := 0) (rlv (by omega)) rfl) (by omega) (by decide) (k_X12_refuse hK hIF1 (nI (2))) rfl rfl (Nat.le_of_ble_eq_true rfl) ⟨by omega, by omega⟩ dX12_shareOf_41 (fun _ _ h => False.elim h) (fun v41 σ' hp41 => ?_)
      obtain ⟨hp41, F12, rfl, hF12⟩ := hp41
      have hKF12 : rM N F F12 := (hJF1 : rM N F F1).set hF12 (by omega)
      have hIF12 := hIF1.st hF12 (by omega)
      cases (hp41 : _ = some (Value.int (nI (0))))
      show V g κ 3 (0) (0) (t, rO g ad N S F12 σ0) 44 [(0, .ref (ad (0))), (1, .int (a1)), (2, .int (nI (j3)))] [.int (nI (0))]
      exact V_iret X E (by omega) (by omega) ⟨_, rfl, _, _, rfl, hIF12, Or.inr (Or.inl ⟨(by rw [hF12, fset_eq]), ⟨_, rfl, by omega⟩, fun q => absurd (zin_no (by decide) (by decide) q) (by assumption), hKF12⟩)⟩ dX12_shareOf_44
  · -- no
    show V g κ 3 (0) (0) (t, rO g ad N S F1 σ0) 10 [(0, .ref (ad (0))), (1, .int (a1)), (2, .int (a2))] [.int (nI (0))]
    refine V_ifneN X (by omega) (tgt := 19) dX12_shareOf_10 (by decide) (fun h13 => absurd h13 (by omega)) (fun h13 => ?_)
    refine V_aload_n X dX12_shareOf_13 0 rfl ?_
    refine V_iconst (v := nI 1) X dX12_shareOf_14 (by decide) ?_
    refine V_callV (rest := []) X E.room ml_X12_50 in_X12_refuse (ci := 16) rfl se_X12_refuse (R_recv hK (q := 0) (rlv (by omega)) rfl) (by omega) (by decide) (k_X12_refuse hK hIF1 (nI (1))) rfl rfl (Nat.le_of_ble_eq_true rfl) ⟨by omega, by omega⟩ dX12_shareOf_15 (fun _ _ h => False.elim h) (fun v15 σ' hp15 => ?_)
    obtain ⟨hp15, F14, rfl, hF14⟩ := hp15
    have hKF14 : rM N F F14 := (hJF1 : rM N F F1).set hF14 (by omega)
    have hIF14 := hIF1.st hF14 (by omega)
    cases (hp15 : _ = some (Value.int (nI (0))))
    show V g κ 3 (0) (0) (t, rO g ad N S F14 σ0) 18 [(0, .ref (ad (0))), (1, .int (a1)), (2, .int (a2))] [.int (nI (0))]
    exact V_iret X E (by omega) (by omega) ⟨_, rfl, _, _, rfl, hIF14, Or.inl ⟨(by rw [hF14, fset_eq]), by assumption, hKF14⟩⟩ dX12_shareOf_18
set_option maxRecDepth 100000 in
set_option maxHeartbeats 4000000 in
theorem k_X12_night {g : zG} {t : Nat × Nat} {ad N : Nat → Nat} {S : Int64} {σ0 : Nat → Option va_E} {F : Nat → Nat → Int32} (hK : rK g ad N) (hI : rI N F) (a1 : Int32) (hKn : rKn N F) (b : Int32) (h : Nat → Nat) (hb : rBs N F b h) : Ct g 30 yX12_night cX12_night 5 (some FieldType.int) 0 0 [.ref (ad (0)), .int (a1)] (t, rO g ad N S F σ0) (qEx g ad N S σ0 (fun x F' => zR2 (F' 0 0) (zlt (N 4) a1) (rNi N F) (rM N F F') (∃ p : Nat, a1 = nI p ∧ p < N 4 ∧ x = F (38 + p) 2 ∧ rNt N F p F'))) zNo := by
  refine Ct.of (lv := [(0, .ref (ad (0))), (1, .int (a1))]) (by decide) (Nat.le_of_ble_eq_true rfl) rfl ?_
  intro κ X E B _
  have X : zX g κ RX12 cX12_night 5 := X
  obtain ⟨b0, b1, b2, b3, b4⟩ := hI.bnd
  refine V_aload_n X dX12_night_0 0 rfl ?_
  refine V_iconst (v := nI 0) X dX12_night_1 (by decide) ?_
  refine R_putf X fl_X12_38 zt_X12 hK (0) (rlv (by omega)) (by omega) rfl (Nat.le_of_ble_eq_true rfl) rfl rfl rfl rfl rfl dX12_night_2 (fun F1 hF1 => ?_)
  have hJF1 := (rM.rfl' : rM N F F).set hF1 (by omega)
  have hIF1 := hI.st hF1 (by omega)
  refine V_aload_n X dX12_night_5 0 rfl ?_
  refine V_iload_n X dX12_night_6 1 rfl ?_
  refine V_callV (rest := []) X E.room ml_X12_228 in_X12_isTown (ci := 16) rfl se_X12_isTown (R_recv hK (q := 0) (rlv (by omega)) rfl) (by omega) (by decide) (k_X12_isTown hK hIF1 (a1)) rfl rfl (Nat.le_of_ble_eq_true rfl) ⟨by omega, by omega⟩ dX12_night_7 (fun _ _ h => False.elim h) (fun v7 σ' hp7 => ?_)
  obtain ⟨hp7, rfl⟩ := hp7
  rcases hp7 with ⟨rfl, z2⟩ | ⟨rfl, z2⟩
  · -- yes
    obtain ⟨j3, ej3, uj3⟩ := id z2
    subst ej3
    show V g κ 5 (0) (0) (t, rO g ad N S F1 σ0) 10 [(0, .ref (ad (0))), (1, .int (nI (j3)))] [.int (nI (1))]
    refine V_ifneN X (by omega) (tgt := 19) dX12_night_10 (by decide) (fun h4 => ?_) (fun h4 => absurd h4 (by omega))
    refine V_aload_n X dX12_night_19 0 rfl ?_
    refine V_callV (rest := []) X E.room ml_X12_219 in_X12_isCast (ci := 16) rfl se_X12_isCast (R_recv hK (q := 0) (rlv (by omega)) rfl) (by omega) (by decide) (k_X12_isCast hK hIF1) rfl rfl (Nat.le_of_ble_eq_true rfl) ⟨by omega, by omega⟩ dX12_night_20 (fun _ _ h => False.elim h) (fun v20 σ' hp20 => ?_)
    obtain ⟨F5, rfl, hCF5, hIF5, hMF5, hZF5, hkF5, hp20⟩ := hp20
    have hKF5 : rM N F F5 := (hJF1 : rM N F F1).trans hMF5
    obtain ⟨ebF5, hrF5⟩ := rBest_at hKn hKF5 hkF5 hb
    rcases hp20 with ⟨rfl, hn20, hc20⟩ | ⟨rfl, hn20⟩
    · -- a cast
      show V g κ 5 (0) (0) (t, rO g ad N S F5 σ0) 23 [(0, .ref (ad (0))), (1, .int (nI (j3)))] [.int (nI (1))]
      refine V_ifeqN X (by omega) (tgt := 33) dX12_night_23 (by decide) (fun h6 => absurd h6 (by omega)) (fun h6 => ?_)
      refine V_aload_n X dX12_night_26 0 rfl ?_
      refine R_getf X fl_X12_188 hK (0) (rlv (by omega)) rfl rfl dX12_night_27 (V.topi (fun x7 ex7 => ?_))
      refine V_ifne X (tgt := 39) dX12_night_30 (by decide) (fun h8 => ?_) (fun h8 => ?_)
      · -- 30 true
        refine V_aload_n X dX12_night_39 0 rfl ?_
        refine R_getf X fl_X12_25 hK (0) (rlv (by omega)) rfl rfl dX12_night_40 ?_
        refine V_iload_n X dX12_night_43 1 rfl ?_
        refine V_callV (rest := []) X E.room ml_X12_97 in_Jx4a65c_get_915e3 (ci := 3) rfl se_Jx4a65c_get_915e3 (rO_list hK (i := 4) (by decide)) (by omega) (by decide) (r_get hK 4 (by decide) (j := j3) (by omega) (by omega)) rfl rfl (Nat.le_of_ble_eq_true rfl) ⟨by omega, by omega⟩ dX12_night_44 (fun _ _ h => False.elim h) (fun v9 σ' hp10 => ?_)
        obtain ⟨hp10, rfl⟩ := hp10
        cases (hp10 : _ = some (Value.ref (ad (38 + (j3)))))
        show V g κ 5 (0) (0) (t, rO g ad N S F5 σ0) 47 [(0, .ref (ad (0))), (1, .int (nI (j3)))] [.ref (ad (38 + (j3)))]
        refine V_cast X (C := RX11) rfl cl_X12_147 (R_recv hK (q := 38 + (j3)) (rlv (by omega)) (rCell_town (by omega))) dX12_night_47 ?_
        refine V_astore_n X [(2, .ref (ad (38 + (j3)))), (0, .ref (ad (0))), (1, .int (nI (j3)))] dX12_night_50 (by decide) rfl ?_
        refine V_aload_n X dX12_night_51 0 rfl ?_
        refine R_getf X fl_X12_156 hK (38 + (j3)) (rlv (by omega)) (rCell_town (by omega)) rfl dX12_night_52 (V.topi (fun x11 ex11 => ?_))
        refine V_istore_n X [(3, .int (x11)), (2, .ref (ad (38 + (j3)))), (0, .ref (ad (0))), (1, .int (nI (j3)))] dX12_night_55 (by decide) rfl ?_
        have hsh : x11 = F (38 + (j3)) 2 := ex11.trans ((hKF5).1 _ 2 (Or.inl ⟨by omega, by omega⟩))
        have hW0 : rW N F F5 := rW.of hKF5
        have h00 : F5 0 0 = nI 0 := (hZF5.trans (by rw [hF1, fset_eq]))
        refine V_iconst (v := nI 0) X dX12_night_56 (by decide) ?_
        refine V_istore X [(4, .int (nI (0))), (3, .int (x11)), (2, .ref (ad (38 + (j3)))), (0, .ref (ad (0))), (1, .int (nI (j3)))] dX12_night_57 (by decide) rfl ?_
        have L59 : ∀ (n59 : Nat) (i59 : Nat) (G59 : Nat → Nat → Int32) (t59 : Nat × Nat), n59 = N 1 - i59 → i59 ≤ N 1 → rW N F G59 → rI N G59 → (∀ q, q < N 1 → (q < i59 → G59 (21 + q) 4 = F (21 + q) 4 + zPo (fun i => F (21 + i) 2) (zAc (rDu N F) b h) (N 1) (F (38 + (j3)) 2) q) ∧ (i59 ≤ q → G59 (21 + q) 4 = F (21 + q) 4)) → (G59 0 0 = nI 0) → V g κ 5 (0) (0) (t59, rO g ad N S G59 σ0) 59 [(4, .int (nI (i59))), (3, .int (x11)), (2, .ref (ad (38 + (j3)))), (0, .ref (ad (0))), (1, .int (nI (j3)))] [] := by
          intro n59
          induction n59 using Nat.strongRecOn with
          | ind n59 ih59 =>
            intro i59 G59 t59 hn59 hi59 hJ59 hI59 hv59_0 hv59_1
            refine V_iload X dX12_night_59 0 rfl ?_
            refine V_aload_n X dX12_night_61 3 rfl ?_
            refine R_getf X fl_X12_16 hK (0) (rlv (by omega)) rfl rfl dX12_night_62 ?_
            refine V_callV (rest := [.int (nI (i59))]) X E.room ml_X12_42 in_Jx4a65c_size_8abf5 (ci := 3) rfl se_Jx4a65c_size_8abf5 (rO_list hK (i := 1) (by decide)) (by omega) (by decide) (r_size hK 1 (by decide)) rfl rfl (Nat.le_of_ble_eq_true rfl) ⟨by omega, by omega⟩ dX12_night_65 (fun _ _ h => False.elim h) (fun v12 σ' hp13 => ?_)
            obtain ⟨hp13, rfl⟩ := hp13
            cases (hp13 : _ = some (Value.int (nI (N 1))))
            show V g κ 5 (0) (0) (t59, rO g ad N S G59 σ0) 68 [(4, .int (nI (i59))), (3, .int (x11)), (2, .ref (ad (38 + (j3)))), (0, .ref (ad (0))), (1, .int (nI (j3)))] [.int (nI (N 1)), .int (nI (i59))]
            refine V_icmpgeN X (by omega) (by omega) (tgt := 104) dX12_night_68 (by decide) (fun h14 => ?_) (fun h14 => ?_)
            · -- 68 true
              refine V_aload_n X dX12_night_104 3 rfl ?_
              refine V_dup X dX12_night_105 rfl ?_
              refine R_getf X fl_X12_138 hK (0) (rlv (by omega)) rfl rfl dX12_night_106 (V.topi (fun x15 ex15 => ?_))
              refine V_iload_n X dX12_night_109 1 rfl ?_
              refine V_iadd X dX12_night_110 (V.topi (fun w16 ew16 => ?_))
              refine R_putf X fl_X12_138 zt_X12 hK (0) (rlv (by omega)) (by omega) rfl (Nat.le_of_ble_eq_true rfl) rfl rfl rfl rfl rfl dX12_night_111 (fun F17 hF17 => ?_)
              have hIF17 := hI59.st hF17 (by omega)
              refine V_aload_n X dX12_night_114 2 rfl ?_
              refine V_iload_n X dX12_night_115 1 rfl ?_
              refine V_iconst (v := nI 2) X dX12_night_116 (by decide) ?_
              refine V_idiv X (by decide) dX12_night_117 (V.topi (fun w18 ew18 => ?_))
              refine R_putf X fl_X12_156 zt_X11 hK (38 + (j3)) (rlv (by omega)) (by omega) (rCell_town (by omega)) (Nat.le_of_ble_eq_true rfl) rfl rfl rfl rfl ((rCell_town (by omega)).trans rfl) dX12_night_118 (fun F19 hF19 => ?_)
              have hIF19 := hIF17.st hF19 (by omega)
              refine V_aload_n X dX12_night_121 3 rfl ?_
              refine V_dup X dX12_night_122 rfl ?_
              refine R_getf X fl_X12_235 hK (0) (rlv (by omega)) rfl rfl dX12_night_123 (V.topi (fun x20 ex20 => ?_))
              refine V_iconst (v := nI 1) X dX12_night_126 (by decide) ?_
              refine V_iadd X dX12_night_127 (V.topi (fun w21 ew21 => ?_))
              refine R_putf X fl_X12_235 zt_X12 hK (0) (rlv (by omega)) (by omega) rfl (Nat.le_of_ble_eq_true rfl) rfl rfl rfl rfl rfl dX12_night_128 (fun F22 hF22 => ?_)
              have hIF22 := hIF19.st hF22 (by omega)
              refine V_iload_n X dX12_night_131 1 rfl ?_
              have hfin : rNt N F (j3) F22 := rNt_end hKn hb hJ59 (fun q hq => (hv59_0 q hq).1 (by omega)) hF17 hF19 hF22 ew16 ex15 hsh ew18 ew21 ex20 (by omega)
              exact V_iret X E (by omega) (by omega) ⟨_, rfl, _, _, rfl, hIF22, Or.inr (Or.inr ⟨by rw [hF22, fset_ne (by omega), hF19, fset_ne (by omega), hF17, fset_ne (by omega)]; exact hv59_1, ⟨_, rfl, by omega⟩, ⟨_, _, hb, fun z => hn20 (ebF5.trans z), fun z => h8 (ex7.trans (ebF5.trans z))⟩, _, rfl, by omega, hsh, hfin⟩)⟩ dX12_night_132
            · -- 68 false
              refine V_aload_n X dX12_night_71 3 rfl ?_
              refine R_getf X fl_X12_16 hK (0) (rlv (by omega)) rfl rfl dX12_night_72 ?_
              refine V_iload X dX12_night_75 0 rfl ?_
              refine V_callV (rest := []) X E.room ml_X12_97 in_Jx4a65c_get_915e3 (ci := 3) rfl se_Jx4a65c_get_915e3 (rO_list hK (i := 1) (by decide)) (by omega) (by decide) (r_get hK 1 (by decide) (j := i59) (by omega) (by omega)) rfl rfl (Nat.le_of_ble_eq_true rfl) ⟨by omega, by omega⟩ dX12_night_77 (fun _ _ h => False.elim h) (fun v23 σ' hp24 => ?_)
              obtain ⟨hp24, rfl⟩ := hp24
              cases (hp24 : _ = some (Value.ref (ad (21 + (i59)))))
              show V g κ 5 (0) (0) (t59, rO g ad N S G59 σ0) 80 [(4, .int (nI (i59))), (3, .int (x11)), (2, .ref (ad (38 + (j3)))), (0, .ref (ad (0))), (1, .int (nI (j3)))] [.ref (ad (21 + (i59)))]
              refine V_cast X (C := RX9) rfl cl_X12_74 (R_recv hK (q := 21 + (i59)) (rlv (by omega)) (rCell_player (by omega))) dX12_night_80 ?_
              refine V_dup X dX12_night_83 rfl ?_
              refine R_getf X fl_X12_141 hK (21 + (i59)) (rlv (by omega)) (rCell_player (by omega)) rfl dX12_night_84 (V.topi (fun x25 ex25 => ?_))
              refine V_aload_n X dX12_night_87 3 rfl ?_
              refine V_iload_n X dX12_night_88 1 rfl ?_
              refine V_iload X dX12_night_89 0 rfl ?_
              refine V_callV (rest := [.int (x25), .ref (ad (21 + (i59)))]) X E.room ml_X12_231 in_X12_shareNow (ci := 16) rfl se_X12_shareNow (R_recv hK (q := 0) (rlv (by omega)) rfl) (by omega) (by decide) (k_X12_shareNow hK hI59 (x11) (i59) (by omega) (hJ59.2 hKn) b h (hJ59.bs hI.bnd hb)) rfl rfl (Nat.le_of_ble_eq_true rfl) ⟨by omega, by omega⟩ dX12_night_91 (fun _ _ h => False.elim h) (fun v91 σ' hp91 => ?_)
              obtain ⟨r26, rfl, fr26, t28, F27, rfl, hMF27, hIF27, hZF27⟩ := hp91
              have hKF27 : rW N F F27 := (hJ59 : rW N F G59).m hMF27
              show V g κ 5 (0) (0) (t28, rO g ad N S F27 σ0) 94 [(4, .int (nI (i59))), (3, .int (x11)), (2, .ref (ad (38 + (j3)))), (0, .ref (ad (0))), (1, .int (nI (j3)))] [.int (r26), .int (x25), .ref (ad (21 + (i59)))]
              refine V_iadd X dX12_night_94 (V.topi (fun w29 ew29 => ?_))
              refine R_putf X fl_X12_141 zt_X9 hK (21 + (i59)) (rlv (by omega)) (by omega) (rCell_player (by omega)) (Nat.le_of_ble_eq_true rfl) rfl rfl rfl rfl ((rCell_player (by omega)).trans rfl) dX12_night_95 (fun F30 hF30 => ?_)
              have hJF30 : rW N F F30 := (hKF27 : rW N F F27).set hF30 (by omega) (by omega)
              have hIF30 := hIF27.st hF30 (by omega)
              have hs9 : r26 = zPo (fun i => F (21 + i) 2) (zAc (rDu N F) b h) (N 1) (F (38 + (j3)) 2) (i59) := by rw [fr26, hsh]; exact zPo_cg (by omega) (fun i hi => (hJ59).1 _ 2 (Or.inr (Or.inl ⟨by omega, by omega, by omega⟩))) (fun i _ => (hJ59).ac hI.bnd)
              have haF30 : ∀ q, q < N 1 → (q < i59 + 1 → F30 (21 + q) 4 = F (21 + q) 4 + zPo (fun i => F (21 + i) 2) (zAc (rDu N F) b h) (N 1) (F (38 + (j3)) 2) q) ∧ (i59 + 1 ≤ q → F30 (21 + q) 4 = F (21 + q) 4) := fun q hq => by
                by_cases e : q = i59
                · subst e; exact ⟨fun _ => by rw [hF30, fset_eq, ew29, ex25, hs9, (hv59_0 _ hq).2 (Nat.le_refl _)], fun z => by omega⟩
                · rw [hF30, fset_ne (by omega), hMF27.1 _ 4 (Or.inl ⟨by omega, by omega⟩)]; exact ⟨fun z => (hv59_0 q hq).1 (by omega), fun z => (hv59_0 q hq).2 (by omega)⟩
              refine V_iinc X (nI (i59 + 1)) [(4, .int (nI (i59 + 1))), (3, .int (x11)), (2, .ref (ad (38 + (j3)))), (0, .ref (ad (0))), (1, .int (nI (j3)))] dX12_night_98 0 rfl (zinc _) (by decide) rfl ?_
              refine V_goto (tgt := 59) X dX12_night_101 (by decide) ?_
              exact V.sub [0, 1, 2, 3, 4] rfl (ih59 _ (by omega) (i59 + 1) F30 (t28) rfl (by omega) hJF30 hIF30 (haF30) (by rw [hF30, fset_ne (by omega), hZF27]; exact hv59_1))
        exact L59 _ (0) F5 (t) rfl (by omega) hW0 hIF5 (fun q hq => ⟨fun z => absurd z (Nat.not_lt_zero q), fun _ => (hKF5).1 _ 4 (Or.inl ⟨by omega, by omega⟩)⟩) (h00)
      · -- 30 false
        refine V_aload_n X dX12_night_33 0 rfl ?_
        refine V_iconst (v := nI 2) X dX12_night_34 (by decide) ?_
        refine V_callV (rest := []) X E.room ml_X12_50 in_X12_refuse (ci := 16) rfl se_X12_refuse (R_recv hK (q := 0) (rlv (by omega)) rfl) (by omega) (by decide) (k_X12_refuse hK hIF5 (nI (2))) rfl rfl (Nat.le_of_ble_eq_true rfl) ⟨by omega, by omega⟩ dX12_night_35 (fun _ _ h => False.elim h) (fun v35 σ' hp35 => ?_)
        obtain ⟨hp35, F31, rfl, hF31⟩ := hp35
        have hKF31 : rM N F F31 := (hKF5 : rM N F F5).set hF31 (by omega)
        have hIF31 := hIF5.st hF31 (by omega)
        cases (hp35 : _ = some (Value.int (nI (0))))
        show V g κ 5 (0) (0) (t, rO g ad N S F31 σ0) 38 [(0, .ref (ad (0))), (1, .int (nI (j3)))] [.int (nI (0))]
        exact V_iret X E (by omega) (by omega) ⟨_, rfl, _, _, rfl, hIF31, Or.inr (Or.inl ⟨(by rw [hF31, fset_eq]), ⟨_, rfl, by omega⟩, fun ⟨b9, h9, c9, n9, z9⟩ => z9 ((mBst_uniq (fun _ q => q.1) c9 hb).1.trans (ebF5.symm.trans (ex7.symm.trans h8))), hKF31⟩)⟩ dX12_night_38
    · -- none
      show V g κ 5 (0) (0) (t, rO g ad N S F5 σ0) 23 [(0, .ref (ad (0))), (1, .int (nI (j3)))] [.int (nI (0))]
      refine V_ifeqN X (by omega) (tgt := 33) dX12_night_23 (by decide) (fun h32 => ?_) (fun h32 => absurd h32 (by omega))
      refine V_aload_n X dX12_night_33 0 rfl ?_
      refine V_iconst (v := nI 2) X dX12_night_34 (by decide) ?_
      refine V_callV (rest := []) X E.room ml_X12_50 in_X12_refuse (ci := 16) rfl se_X12_refuse (R_recv hK (q := 0) (rlv (by omega)) rfl) (by omega) (by decide) (k_X12_refuse hK hIF5 (nI (2))) rfl rfl (Nat.le_of_ble_eq_true rfl) ⟨by omega, by omega⟩ dX12_night_35 (fun _ _ h => False.elim h) (fun v35 σ' hp35 => ?_)
      obtain ⟨hp35, F33, rfl, hF33⟩ := hp35
      have hKF33 : rM N F F33 := (hKF5 : rM N F F5).set hF33 (by omega)
      have hIF33 := hIF5.st hF33 (by omega)
      cases (hp35 : _ = some (Value.int (nI (0))))
      show V g κ 5 (0) (0) (t, rO g ad N S F33 σ0) 38 [(0, .ref (ad (0))), (1, .int (nI (j3)))] [.int (nI (0))]
      exact V_iret X E (by omega) (by omega) ⟨_, rfl, _, _, rfl, hIF33, Or.inr (Or.inl ⟨(by rw [hF33, fset_eq]), ⟨_, rfl, by omega⟩, fun ⟨b9, h9, c9, n9, z9⟩ => n9 ((mBst_uniq (fun _ q => q.1) c9 hb).1.trans (ebF5.symm.trans hn20)), hKF33⟩)⟩ dX12_night_38
  · -- no
    show V g κ 5 (0) (0) (t, rO g ad N S F1 σ0) 10 [(0, .ref (ad (0))), (1, .int (a1))] [.int (nI (0))]
    refine V_ifneN X (by omega) (tgt := 19) dX12_night_10 (by decide) (fun h34 => absurd h34 (by omega)) (fun h34 => ?_)
    refine V_aload_n X dX12_night_13 0 rfl ?_
    refine V_iconst (v := nI 1) X dX12_night_14 (by decide) ?_
    refine V_callV (rest := []) X E.room ml_X12_50 in_X12_refuse (ci := 16) rfl se_X12_refuse (R_recv hK (q := 0) (rlv (by omega)) rfl) (by omega) (by decide) (k_X12_refuse hK hIF1 (nI (1))) rfl rfl (Nat.le_of_ble_eq_true rfl) ⟨by omega, by omega⟩ dX12_night_15 (fun _ _ h => False.elim h) (fun v15 σ' hp15 => ?_)
    obtain ⟨hp15, F35, rfl, hF35⟩ := hp15
    have hKF35 : rM N F F35 := (hJF1 : rM N F F1).set hF35 (by omega)
    have hIF35 := hIF1.st hF35 (by omega)
    cases (hp15 : _ = some (Value.int (nI (0))))
    show V g κ 5 (0) (0) (t, rO g ad N S F35 σ0) 18 [(0, .ref (ad (0))), (1, .int (a1))] [.int (nI (0))]
    exact V_iret X E (by omega) (by omega) ⟨_, rfl, _, _, rfl, hIF35, Or.inl ⟨(by rw [hF35, fset_eq]), by assumption, hKF35⟩⟩ dX12_night_18
set_option maxRecDepth 100000 in
set_option maxHeartbeats 4000000 in
theorem k_X12_ofSceneNow {g : zG} {t : Nat × Nat} {ad N : Nat → Nat} {S : Int64} {σ0 : Nat → Option va_E} {F : Nat → Nat → Int32} (hK : rK g ad N) (hI : rI N F) (p : Nat) (hp : p < N 2) (w : Nat) (hw : w ≤ 5) : Ct g 27 yX12_ofSceneNow cX12_ofSceneNow 4 (some FieldType.int) 8 40 [.ref (ad (0)), .int (nI (p)), .int (nI (w))] (t, rO g ad N S F σ0) (qN pI g ad N S F σ0) zNo := by
  refine Ct.of (lv := [(0, .ref (ad (0))), (1, .int (nI (p))), (2, .int (nI (w)))]) (by decide) (Nat.le_of_ble_eq_true rfl) rfl ?_
  intro κ X E B _
  have X : zX g κ RX12 cX12_ofSceneNow 4 := X
  obtain ⟨b0, b1, b2, b3, b4⟩ := hI.bnd
  refine V_aload_n X dX12_ofSceneNow_0 0 rfl ?_
  refine R_getf X fl_X12_19 hK (0) (rlv (by omega)) rfl rfl dX12_ofSceneNow_1 ?_
  refine V_iload_n X dX12_ofSceneNow_4 1 rfl ?_
  refine V_callV (rest := []) X E.room ml_X12_97 in_Jx4a65c_get_915e3 (ci := 3) rfl se_Jx4a65c_get_915e3 (rO_list hK (i := 2) (by decide)) (by omega) (by decide) (r_get hK 2 (by decide) (j := p) (by omega) (by omega)) rfl rfl (Nat.le_of_ble_eq_true rfl) ⟨by omega, by omega⟩ dX12_ofSceneNow_5 (fun _ _ h => False.elim h) (fun v1 σ' hp2 => ?_)
  obtain ⟨hp2, rfl⟩ := hp2
  cases (hp2 : _ = some (Value.ref (ad (26 + (p)))))
  show V g κ 4 (0) (0) (t, rO g ad N S F σ0) 8 [(0, .ref (ad (0))), (1, .int (nI (p))), (2, .int (nI (w)))] [.ref (ad (26 + (p)))]
  refine V_cast X (C := RX10) rfl cl_X12_85 (R_recv hK (q := 26 + (p)) (rlv (by omega)) (rCell_scene (by omega))) dX12_ofSceneNow_8 ?_
  obtain ⟨m3, hm3, em3⟩ := hI.sp (p) (by omega)
  have gm3 : m3 < 128 := Nat.lt_of_lt_of_le hm3 (zp2 (n := 7) (by omega))
  refine R_getfN (z := nI (m3)) X fl_X12_88 hK (26 + (p)) (rlv (by omega)) (rCell_scene (by omega)) rfl em3 dX12_ofSceneNow_11 ?_
  refine V_istore_n X [(3, .int (nI (m3))), (0, .ref (ad (0))), (1, .int (nI (p))), (2, .int (nI (w)))] dX12_ofSceneNow_14 (by decide) rfl ?_
  refine V_iload_n X dX12_ofSceneNow_15 3 rfl ?_
  rcases (show w = 0 ∨ w = 1 ∨ w = 2 ∨ w = 3 ∨ w = 4 ∨ w = 5 by omega) with rfl | rfl | rfl | rfl | rfl | rfl
  · -- case 0
    refine V_tableIn (tgt := 52) X dX12_ofSceneNow_16 (by decide) (by decide) rfl (by decide) ?_
    refine V_iload_n X dX12_ofSceneNow_52 0 rfl ?_
    exact V_iret X E (by omega) (by omega) ⟨⟨_, rfl⟩, ⟨_, _, rfl, rM.rfl', hI⟩⟩ dX12_ofSceneNow_53
  · -- case 1
    refine V_tableIn (tgt := 54) X dX12_ofSceneNow_16 (by decide) (by decide) rfl (by decide) ?_
    refine V_aload_n X dX12_ofSceneNow_54 1 rfl ?_
    refine R_getf X fl_X12_19 hK (0) (rlv (by omega)) rfl rfl dX12_ofSceneNow_55 ?_
    refine V_iload_n X dX12_ofSceneNow_58 2 rfl ?_
    refine V_callV (rest := []) X E.room ml_X12_97 in_Jx4a65c_get_915e3 (ci := 3) rfl se_Jx4a65c_get_915e3 (rO_list hK (i := 2) (by decide)) (by omega) (by decide) (r_get hK 2 (by decide) (j := p) (by omega) (by omega)) rfl rfl (Nat.le_of_ble_eq_true rfl) ⟨by omega, by omega⟩ dX12_ofSceneNow_59 (fun _ _ h => False.elim h) (fun v4 σ' hp5 => ?_)
    obtain ⟨hp5, rfl⟩ := hp5
    cases (hp5 : _ = some (Value.ref (ad (26 + (p)))))
    show V g κ 4 (0) (0) (t, rO g ad N S F σ0) 62 [(3, .int (nI (m3))), (0, .ref (ad (0))), (1, .int (nI (p))), (2, .int (nI (1)))] [.ref (ad (26 + (p)))]
    refine V_cast X (C := RX10) rfl cl_X12_85 (R_recv hK (q := 26 + (p)) (rlv (by omega)) (rCell_scene (by omega))) dX12_ofSceneNow_62 ?_
    refine R_getf X fl_X12_90 hK (26 + (p)) (rlv (by omega)) (rCell_scene (by omega)) rfl dX12_ofSceneNow_65 (V.topi (fun x6 ex6 => ?_))
    exact V_iret X E (by omega) (by omega) ⟨⟨_, rfl⟩, ⟨_, _, rfl, rM.rfl', hI⟩⟩ dX12_ofSceneNow_68
  · -- case 2
    refine V_tableIn (tgt := 69) X dX12_ofSceneNow_16 (by decide) (by decide) rfl (by decide) ?_
    refine V_aload_n X dX12_ofSceneNow_69 1 rfl ?_
    refine V_iload_n X dX12_ofSceneNow_70 0 rfl ?_
    refine V_callV (rest := []) X E.room ml_X12_270 in_X12_filled (ci := 16) rfl se_X12_filled (R_recv hK (q := 0) (rlv (by omega)) rfl) (by omega) (by decide) (k_X12_filled hK hI (nI (m3))) rfl rfl (Nat.le_of_ble_eq_true rfl) ⟨by omega, by omega⟩ dX12_ofSceneNow_71 (fun _ _ h => False.elim h) (fun v71 σ' hp71 => ?_)
    obtain ⟨hp71, t7, rfl⟩ := hp71
    obtain ⟨r8, rfl⟩ := hp71
    show V g κ 4 (0 + 8) (0 + 40) (t7, rO g ad N S F σ0) 74 [(3, .int (nI (m3))), (0, .ref (ad (0))), (1, .int (nI (p))), (2, .int (nI (2)))] [.int (r8)]
    exact V_iret X E (by omega) (by omega) ⟨⟨_, rfl⟩, ⟨_, _, rfl, rM.rfl', hI⟩⟩ dX12_ofSceneNow_74
  · -- case 3
    refine V_tableIn (tgt := 75) X dX12_ofSceneNow_16 (by decide) (by decide) rfl (by decide) ?_
    refine V_aload_n X dX12_ofSceneNow_75 1 rfl ?_
    refine V_iload_n X dX12_ofSceneNow_76 0 rfl ?_
    refine V_callV (rest := []) X E.room ml_X12_273 in_X12_lack (ci := 16) rfl se_X12_lack (R_recv hK (q := 0) (rlv (by omega)) rfl) (by omega) (by decide) (k_X12_lack hK hI (m3) (by omega)) rfl rfl (Nat.le_of_ble_eq_true rfl) ⟨by omega, by omega⟩ dX12_ofSceneNow_77 (fun _ _ h => False.elim h) (fun v77 σ' hp77 => ?_)
    obtain ⟨hp77, rfl⟩ := hp77
    obtain ⟨r9, rfl⟩ := hp77
    show V g κ 4 (0) (0) (t, rO g ad N S F σ0) 80 [(3, .int (nI (m3))), (0, .ref (ad (0))), (1, .int (nI (p))), (2, .int (nI (3)))] [.int (r9)]
    exact V_iret X E (by omega) (by omega) ⟨⟨_, rfl⟩, ⟨_, _, rfl, rM.rfl', hI⟩⟩ dX12_ofSceneNow_80
  · -- case 4
    refine V_tableIn (tgt := 81) X dX12_ofSceneNow_16 (by decide) (by decide) rfl (by decide) ?_
    refine V_aload_n X dX12_ofSceneNow_81 1 rfl ?_
    refine V_aload_n X dX12_ofSceneNow_82 1 rfl ?_
    refine V_iload_n X dX12_ofSceneNow_83 0 rfl ?_
    refine V_callV (rest := [.ref (ad (0))]) X E.room ml_X12_273 in_X12_lack (ci := 16) rfl se_X12_lack (R_recv hK (q := 0) (rlv (by omega)) rfl) (by omega) (by decide) (k_X12_lack hK hI (m3) (by omega)) rfl rfl (Nat.le_of_ble_eq_true rfl) ⟨by omega, by omega⟩ dX12_ofSceneNow_84 (fun _ _ h => False.elim h) (fun v84 σ' hp84 => ?_)
    obtain ⟨hp84, rfl⟩ := hp84
    obtain ⟨r10, rfl⟩ := hp84
    show V g κ 4 (0) (0) (t, rO g ad N S F σ0) 87 [(3, .int (nI (m3))), (0, .ref (ad (0))), (1, .int (nI (p))), (2, .int (nI (4)))] [.int (r10), .ref (ad (0))]
    refine V_callV (rest := []) X E.room ml_X12_197 in_X12_excess (ci := 16) rfl se_X12_excess (R_recv hK (q := 0) (rlv (by omega)) rfl) (by omega) (by decide) (k_X12_excess hK hI (r10)) rfl rfl (Nat.le_of_ble_eq_true rfl) ⟨by omega, by omega⟩ dX12_ofSceneNow_87 (fun _ _ h => False.elim h) (fun v87 σ' hp87 => ?_)
    obtain ⟨hp87, rfl⟩ := hp87
    obtain ⟨r11, rfl⟩ := hp87
    show V g κ 4 (0) (0) (t, rO g ad N S F σ0) 90 [(3, .int (nI (m3))), (0, .ref (ad (0))), (1, .int (nI (p))), (2, .int (nI (4)))] [.int (r11)]
    exact V_iret X E (by omega) (by omega) ⟨⟨_, rfl⟩, ⟨_, _, rfl, rM.rfl', hI⟩⟩ dX12_ofSceneNow_90
  · -- case 5
    refine V_tableOut (tgt := 91) X dX12_ofSceneNow_16 (by decide) (by decide) ?_
    refine V_aload_n X dX12_ofSceneNow_91 1 rfl ?_
    refine V_iload_n X dX12_ofSceneNow_92 0 rfl ?_
    refine V_callV (rest := []) X E.room ml_X12_276 in_X12_dressed (ci := 16) rfl se_X12_dressed (R_recv hK (q := 0) (rlv (by omega)) rfl) (by omega) (by decide) (k_X12_dressed hK hI (m3) (p) (by omega) hm3 em3) rfl rfl (Nat.le_of_ble_eq_true rfl) ⟨by omega, by omega⟩ dX12_ofSceneNow_93 (fun _ _ h => False.elim h) (fun v93 σ' hp93 => ?_)
    obtain ⟨hp93, t13, F12, rfl, hJF12, hIF12⟩ := hp93
    have hKF12 : rM N F F12 := (rM.rfl' : rM N F F).trans hJF12
    obtain ⟨r14, rfl⟩ := hp93
    show V g κ 4 (0) (0) (t13, rO g ad N S F12 σ0) 96 [(3, .int (nI (m3))), (0, .ref (ad (0))), (1, .int (nI (p))), (2, .int (nI (5)))] [.int (r14)]
    exact V_iret X E (by omega) (by omega) ⟨⟨_, rfl⟩, ⟨_, _, rfl, hKF12, hIF12⟩⟩ dX12_ofSceneNow_96
set_option maxRecDepth 100000 in
set_option maxHeartbeats 4000000 in
theorem k_X12_ofScene {g : zG} {t : Nat × Nat} {ad N : Nat → Nat} {S : Int64} {σ0 : Nat → Option va_E} {F : Nat → Nat → Int32} (hK : rK g ad N) (hI : rI N F)  (a1 : Int32) (a2 : Int32) : Ct g 28 yX12_ofScene cX12_ofScene 3 (some FieldType.int) 8 40 [.ref (ad (0)), .int (a1), .int (a2)] (t, rO g ad N S F σ0) (qN pI g ad N S F σ0) zNo := by
  refine Ct.of (lv := [(0, .ref (ad (0))), (1, .int (a1)), (2, .int (a2))]) (by decide) (Nat.le_of_ble_eq_true rfl) rfl ?_
  intro κ X E B _
  have X : zX g κ RX12 cX12_ofScene 3 := X
  obtain ⟨b0, b1, b2, b3, b4⟩ := hI.bnd
  refine V_aload_n X dX12_ofScene_0 0 rfl ?_
  refine V_iconst (v := nI 0) X dX12_ofScene_1 (by decide) ?_
  refine R_putf X fl_X12_38 zt_X12 hK (0) (rlv (by omega)) (by omega) rfl (Nat.le_of_ble_eq_true rfl) rfl rfl rfl rfl rfl dX12_ofScene_2 (fun F1 hF1 => ?_)
  have hJF1 := (rM.rfl' : rM N F F).set hF1 (by omega)
  have hIF1 := hI.st hF1 (by omega)
  refine V_aload_n X dX12_ofScene_5 0 rfl ?_
  refine V_iload_n X dX12_ofScene_6 1 rfl ?_
  refine V_callV (rest := []) X E.room ml_X12_93 in_X12_isScene (ci := 16) rfl se_X12_isScene (R_recv hK (q := 0) (rlv (by omega)) rfl) (by omega) (by decide) (k_X12_isScene hK hIF1 (a1)) rfl rfl (Nat.le_of_ble_eq_true rfl) ⟨by omega, by omega⟩ dX12_ofScene_7 (fun _ _ h => False.elim h) (fun v7 σ' hp7 => ?_)
  obtain ⟨hp7, rfl⟩ := hp7
  rcases hp7 with ⟨rfl, z2⟩ | ⟨rfl, z2⟩
  · -- yes
    obtain ⟨j3, ej3, uj3⟩ := id z2
    subst ej3
    show V g κ 3 (0) (0) (t, rO g ad N S F1 σ0) 10 [(0, .ref (ad (0))), (1, .int (nI (j3))), (2, .int (a2))] [.int (nI (1))]
    refine V_ifneN X (by omega) (tgt := 19) dX12_ofScene_10 (by decide) (fun h4 => ?_) (fun h4 => absurd h4 (by omega))
    refine V_iload_n X dX12_ofScene_19 2 rfl ?_
    refine V_iconst (v := nI 0) X dX12_ofScene_20 (by decide) ?_
    refine V_iconst (v := nI 5) X dX12_ofScene_21 (by decide) ?_
    refine V_callS (rest := []) X E.room ml_X12_46 st_X12_is (by omega) (by decide) (k_X12_is (σ := (t, rO g ad N S F1 σ0)) (a2) (nI (0)) (nI (5))) rfl rfl (Nat.le_of_ble_eq_true rfl) ⟨by omega, by omega⟩ dX12_ofScene_22 (fun _ _ h => False.elim h) (fun v22 σ' hp22 => ?_)
    obtain ⟨hp22, rfl⟩ := hp22
    rcases hp22 with ⟨rfl, z5⟩ | ⟨rfl, z5⟩
    · -- yes
      obtain ⟨j6, ej6, -, uj6⟩ := zin_of (Int32.not_lt.mpr z5.1) z5.2 (by decide) (by decide)
      subst ej6
      show V g κ 3 (0) (0) (t, rO g ad N S F1 σ0) 25 [(0, .ref (ad (0))), (1, .int (nI (j3))), (2, .int (nI (j6)))] [.int (nI (1))]
      refine V_ifeqN X (by omega) (tgt := 37) dX12_ofScene_25 (by decide) (fun h7 => absurd h7 (by omega)) (fun h7 => ?_)
      refine V_aload_n X dX12_ofScene_28 0 rfl ?_
      refine V_iload_n X dX12_ofScene_29 1 rfl ?_
      refine V_iload_n X dX12_ofScene_30 2 rfl ?_
      refine V_callV (rest := []) X E.room ml_X12_279 in_X12_ofSceneNow (ci := 16) rfl se_X12_ofSceneNow (R_recv hK (q := 0) (rlv (by omega)) rfl) (by omega) (by decide) (k_X12_ofSceneNow hK hIF1 (j3) (by omega) (j6) (by omega)) rfl rfl (Nat.le_of_ble_eq_true rfl) ⟨by omega, by omega⟩ dX12_ofScene_31 (fun _ _ h => False.elim h) (fun v31 σ' hp31 => ?_)
      obtain ⟨hp31, t9, F8, rfl, hJF8, hIF8⟩ := hp31
      have hKF8 : rM N F F8 := (hJF1 : rM N F F1).trans hJF8
      obtain ⟨r10, rfl⟩ := hp31
      show V g κ 3 (0 + 8) (0 + 40) (t9, rO g ad N S F8 σ0) 34 [(0, .ref (ad (0))), (1, .int (nI (j3))), (2, .int (nI (j6)))] [.int (r10)]
      refine V_goto (tgt := 42) X dX12_ofScene_34 (by decide) ?_
      exact V_iret X E (by omega) (by omega) ⟨⟨_, rfl⟩, ⟨_, _, rfl, hKF8, hIF8⟩⟩ dX12_ofScene_42
    · -- no
      show V g κ 3 (0) (0) (t, rO g ad N S F1 σ0) 25 [(0, .ref (ad (0))), (1, .int (nI (j3))), (2, .int (a2))] [.int (nI (0))]
      refine V_ifeqN X (by omega) (tgt := 37) dX12_ofScene_25 (by decide) (fun h11 => ?_) (fun h11 => absurd h11 (by omega))
      refine V_aload_n X dX12_ofScene_37 0 rfl ?_
      refine V_iconst (v := nI 2) X dX12_ofScene_38 (by decide) ?_
      refine V_callV (rest := []) X E.room ml_X12_50 in_X12_refuse (ci := 16) rfl se_X12_refuse (R_recv hK (q := 0) (rlv (by omega)) rfl) (by omega) (by decide) (k_X12_refuse hK hIF1 (nI (2))) rfl rfl (Nat.le_of_ble_eq_true rfl) ⟨by omega, by omega⟩ dX12_ofScene_39 (fun _ _ h => False.elim h) (fun v39 σ' hp39 => ?_)
      obtain ⟨hp39, F12, rfl, hF12⟩ := hp39
      have hKF12 : rM N F F12 := (hJF1 : rM N F F1).set hF12 (by omega)
      have hIF12 := hIF1.st hF12 (by omega)
      cases (hp39 : _ = some (Value.int (nI (0))))
      show V g κ 3 (0) (0) (t, rO g ad N S F12 σ0) 42 [(0, .ref (ad (0))), (1, .int (nI (j3))), (2, .int (a2))] [.int (nI (0))]
      exact V_iret X E (by omega) (by omega) ⟨⟨_, rfl⟩, ⟨_, _, rfl, hKF12, hIF12⟩⟩ dX12_ofScene_42
  · -- no
    show V g κ 3 (0) (0) (t, rO g ad N S F1 σ0) 10 [(0, .ref (ad (0))), (1, .int (a1)), (2, .int (a2))] [.int (nI (0))]
    refine V_ifneN X (by omega) (tgt := 19) dX12_ofScene_10 (by decide) (fun h13 => absurd h13 (by omega)) (fun h13 => ?_)
    refine V_aload_n X dX12_ofScene_13 0 rfl ?_
    refine V_iconst (v := nI 1) X dX12_ofScene_14 (by decide) ?_
    refine V_callV (rest := []) X E.room ml_X12_50 in_X12_refuse (ci := 16) rfl se_X12_refuse (R_recv hK (q := 0) (rlv (by omega)) rfl) (by omega) (by decide) (k_X12_refuse hK hIF1 (nI (1))) rfl rfl (Nat.le_of_ble_eq_true rfl) ⟨by omega, by omega⟩ dX12_ofScene_15 (fun _ _ h => False.elim h) (fun v15 σ' hp15 => ?_)
    obtain ⟨hp15, F14, rfl, hF14⟩ := hp15
    have hKF14 : rM N F F14 := (hJF1 : rM N F F1).set hF14 (by omega)
    have hIF14 := hIF1.st hF14 (by omega)
    cases (hp15 : _ = some (Value.int (nI (0))))
    show V g κ 3 (0) (0) (t, rO g ad N S F14 σ0) 18 [(0, .ref (ad (0))), (1, .int (a1)), (2, .int (a2))] [.int (nI (0))]
    exact V_iret X E (by omega) (by omega) ⟨⟨_, rfl⟩, ⟨_, _, rfl, hKF14, hIF14⟩⟩ dX12_ofScene_18
set_option maxRecDepth 100000 in
set_option maxHeartbeats 4000000 in
theorem k_X12_houseNow {g : zG} {t : Nat × Nat} {ad N : Nat → Nat} {S : Int64} {σ0 : Nat → Option va_E} {F : Nat → Nat → Int32} (hK : rK g ad N) (hI : rI N F) (w : Nat) (hw : w ≤ 13) : Ct g 26 yX12_houseNow cX12_houseNow 2 (some FieldType.int) 1 4 [.ref (ad (0)), .int (nI (w))] (t, rO g ad N S F σ0) (qN pI g ad N S F σ0) zNo := by
  refine Ct.of (lv := [(0, .ref (ad (0))), (1, .int (nI (w)))]) (by decide) (Nat.le_of_ble_eq_true rfl) rfl ?_
  intro κ X E B _
  have X : zX g κ RX12 cX12_houseNow 2 := X
  obtain ⟨b0, b1, b2, b3, b4⟩ := hI.bnd
  refine V_iload_n X dX12_houseNow_0 1 rfl ?_
  rcases (show w = 0 ∨ w = 1 ∨ w = 2 ∨ w = 3 ∨ w = 4 ∨ w = 5 ∨ w = 6 ∨ w = 7 ∨ w = 8 ∨ w = 9 ∨ w = 10 ∨ w = 11 ∨ w = 12 ∨ w = 13 by omega) with rfl | rfl | rfl | rfl | rfl | rfl | rfl | rfl | rfl | rfl | rfl | rfl | rfl | rfl
  · -- case 0
    refine V_tableIn (tgt := 68) X dX12_houseNow_1 (by decide) (by decide) rfl (by decide) ?_
    refine V_aload_n X dX12_houseNow_68 0 rfl ?_
    refine R_getf X fl_X12_10 hK (0) (rlv (by omega)) rfl rfl dX12_houseNow_69 ?_
    refine V_callV (rest := []) X E.room ml_X12_42 in_Jx4a65c_size_8abf5 (ci := 3) rfl se_Jx4a65c_size_8abf5 (rO_list hK (i := 0) (by decide)) (by omega) (by decide) (r_size hK 0 (by decide)) rfl rfl (Nat.le_of_ble_eq_true rfl) ⟨by omega, by omega⟩ dX12_houseNow_72 (fun _ _ h => False.elim h) (fun v1 σ' hp2 => ?_)
    obtain ⟨hp2, rfl⟩ := hp2
    cases (hp2 : _ = some (Value.int (nI (N 0))))
    show V g κ 2 (0) (0) (t, rO g ad N S F σ0) 75 [(0, .ref (ad (0))), (1, .int (nI (0)))] [.int (nI (N 0))]
    exact V_iret X E (by omega) (by omega) ⟨⟨_, rfl⟩, ⟨_, _, rfl, rM.rfl', hI⟩⟩ dX12_houseNow_75
  · -- case 1
    refine V_tableIn (tgt := 76) X dX12_houseNow_1 (by decide) (by decide) rfl (by decide) ?_
    refine V_aload_n X dX12_houseNow_76 0 rfl ?_
    refine R_getf X fl_X12_16 hK (0) (rlv (by omega)) rfl rfl dX12_houseNow_77 ?_
    refine V_callV (rest := []) X E.room ml_X12_42 in_Jx4a65c_size_8abf5 (ci := 3) rfl se_Jx4a65c_size_8abf5 (rO_list hK (i := 1) (by decide)) (by omega) (by decide) (r_size hK 1 (by decide)) rfl rfl (Nat.le_of_ble_eq_true rfl) ⟨by omega, by omega⟩ dX12_houseNow_80 (fun _ _ h => False.elim h) (fun v3 σ' hp4 => ?_)
    obtain ⟨hp4, rfl⟩ := hp4
    cases (hp4 : _ = some (Value.int (nI (N 1))))
    show V g κ 2 (0) (0) (t, rO g ad N S F σ0) 83 [(0, .ref (ad (0))), (1, .int (nI (1)))] [.int (nI (N 1))]
    exact V_iret X E (by omega) (by omega) ⟨⟨_, rfl⟩, ⟨_, _, rfl, rM.rfl', hI⟩⟩ dX12_houseNow_83
  · -- case 2
    refine V_tableIn (tgt := 84) X dX12_houseNow_1 (by decide) (by decide) rfl (by decide) ?_
    refine V_aload_n X dX12_houseNow_84 0 rfl ?_
    refine V_callV (rest := []) X E.room ml_X12_121 in_X12_well (ci := 16) rfl se_X12_well (R_recv hK (q := 0) (rlv (by omega)) rfl) (by omega) (by decide) (k_X12_well hK hI) rfl rfl (Nat.le_of_ble_eq_true rfl) ⟨by omega, by omega⟩ dX12_houseNow_85 (fun _ _ h => False.elim h) (fun v85 σ' hp85 => ?_)
    obtain ⟨hp85, t5, rfl⟩ := hp85
    cases (hp85 : _ = some (Value.int (nI (zwl F (N 1)))))
    show V g κ 2 (0 + 1) (0 + 4) (t5, rO g ad N S F σ0) 88 [(0, .ref (ad (0))), (1, .int (nI (2)))] [.int (nI (zwl F (N 1)))]
    exact V_iret X E (by omega) (by omega) ⟨⟨_, rfl⟩, ⟨_, _, rfl, rM.rfl', hI⟩⟩ dX12_houseNow_88
  · -- case 3
    refine V_tableIn (tgt := 89) X dX12_houseNow_1 (by decide) (by decide) rfl (by decide) ?_
    refine V_aload_n X dX12_houseNow_89 0 rfl ?_
    refine R_getf X fl_X12_19 hK (0) (rlv (by omega)) rfl rfl dX12_houseNow_90 ?_
    refine V_callV (rest := []) X E.room ml_X12_42 in_Jx4a65c_size_8abf5 (ci := 3) rfl se_Jx4a65c_size_8abf5 (rO_list hK (i := 2) (by decide)) (by omega) (by decide) (r_size hK 2 (by decide)) rfl rfl (Nat.le_of_ble_eq_true rfl) ⟨by omega, by omega⟩ dX12_houseNow_93 (fun _ _ h => False.elim h) (fun v6 σ' hp7 => ?_)
    obtain ⟨hp7, rfl⟩ := hp7
    cases (hp7 : _ = some (Value.int (nI (N 2))))
    show V g κ 2 (0) (0) (t, rO g ad N S F σ0) 96 [(0, .ref (ad (0))), (1, .int (nI (3)))] [.int (nI (N 2))]
    exact V_iret X E (by omega) (by omega) ⟨⟨_, rfl⟩, ⟨_, _, rfl, rM.rfl', hI⟩⟩ dX12_houseNow_96
  · -- case 4
    refine V_tableIn (tgt := 97) X dX12_houseNow_1 (by decide) (by decide) rfl (by decide) ?_
    refine V_aload_n X dX12_houseNow_97 0 rfl ?_
    refine R_getf X fl_X12_22 hK (0) (rlv (by omega)) rfl rfl dX12_houseNow_98 ?_
    refine V_callV (rest := []) X E.room ml_X12_42 in_Jx4a65c_size_8abf5 (ci := 3) rfl se_Jx4a65c_size_8abf5 (rO_list hK (i := 3) (by decide)) (by omega) (by decide) (r_size hK 3 (by decide)) rfl rfl (Nat.le_of_ble_eq_true rfl) ⟨by omega, by omega⟩ dX12_houseNow_101 (fun _ _ h => False.elim h) (fun v8 σ' hp9 => ?_)
    obtain ⟨hp9, rfl⟩ := hp9
    cases (hp9 : _ = some (Value.int (nI (N 3))))
    show V g κ 2 (0) (0) (t, rO g ad N S F σ0) 104 [(0, .ref (ad (0))), (1, .int (nI (4)))] [.int (nI (N 3))]
    exact V_iret X E (by omega) (by omega) ⟨⟨_, rfl⟩, ⟨_, _, rfl, rM.rfl', hI⟩⟩ dX12_houseNow_104
  · -- case 5
    refine V_tableIn (tgt := 105) X dX12_houseNow_1 (by decide) (by decide) rfl (by decide) ?_
    refine V_aload_n X dX12_houseNow_105 0 rfl ?_
    refine V_callV (rest := []) X E.room ml_X12_288 in_X12_pawned (ci := 16) rfl se_X12_pawned (R_recv hK (q := 0) (rlv (by omega)) rfl) (by omega) (by decide) (k_X12_pawned hK hI) rfl rfl (Nat.le_of_ble_eq_true rfl) ⟨by omega, by omega⟩ dX12_houseNow_106 (fun _ _ h => False.elim h) (fun v106 σ' hp106 => ?_)
    obtain ⟨hp106, t10, rfl⟩ := hp106
    obtain ⟨r11, rfl⟩ := hp106
    show V g κ 2 (0 + 1) (0 + 4) (t10, rO g ad N S F σ0) 109 [(0, .ref (ad (0))), (1, .int (nI (5)))] [.int (r11)]
    exact V_iret X E (by omega) (by omega) ⟨⟨_, rfl⟩, ⟨_, _, rfl, rM.rfl', hI⟩⟩ dX12_houseNow_109
  · -- case 6
    refine V_tableIn (tgt := 110) X dX12_houseNow_1 (by decide) (by decide) rfl (by decide) ?_
    refine V_aload_n X dX12_houseNow_110 0 rfl ?_
    refine R_getf X fl_X12_25 hK (0) (rlv (by omega)) rfl rfl dX12_houseNow_111 ?_
    refine V_callV (rest := []) X E.room ml_X12_42 in_Jx4a65c_size_8abf5 (ci := 3) rfl se_Jx4a65c_size_8abf5 (rO_list hK (i := 4) (by decide)) (by omega) (by decide) (r_size hK 4 (by decide)) rfl rfl (Nat.le_of_ble_eq_true rfl) ⟨by omega, by omega⟩ dX12_houseNow_114 (fun _ _ h => False.elim h) (fun v12 σ' hp13 => ?_)
    obtain ⟨hp13, rfl⟩ := hp13
    cases (hp13 : _ = some (Value.int (nI (N 4))))
    show V g κ 2 (0) (0) (t, rO g ad N S F σ0) 117 [(0, .ref (ad (0))), (1, .int (nI (6)))] [.int (nI (N 4))]
    exact V_iret X E (by omega) (by omega) ⟨⟨_, rfl⟩, ⟨_, _, rfl, rM.rfl', hI⟩⟩ dX12_houseNow_117
  · -- case 7
    refine V_tableIn (tgt := 118) X dX12_houseNow_1 (by decide) (by decide) rfl (by decide) ?_
    refine V_aload_n X dX12_houseNow_118 0 rfl ?_
    refine V_callV (rest := []) X E.room ml_X12_219 in_X12_isCast (ci := 16) rfl se_X12_isCast (R_recv hK (q := 0) (rlv (by omega)) rfl) (by omega) (by decide) (k_X12_isCast hK hI) rfl rfl (Nat.le_of_ble_eq_true rfl) ⟨by omega, by omega⟩ dX12_houseNow_119 (fun _ _ h => False.elim h) (fun v119 σ' hp119 => ?_)
    obtain ⟨F14, rfl, hCF14, hIF14, hMF14, hZF14, hkF14, hp119⟩ := hp119
    have hKF14 : rM N F F14 := (rM.rfl' : rM N F F).trans hMF14
    rcases hp119 with ⟨rfl, hn119, hc119⟩ | ⟨rfl, hn119⟩
    · -- a cast
      show V g κ 2 (0) (0) (t, rO g ad N S F14 σ0) 122 [(0, .ref (ad (0))), (1, .int (nI (7)))] [.int (nI (1))]
      refine V_ifeqN X (by omega) (tgt := 132) dX12_houseNow_122 (by decide) (fun h15 => absurd h15 (by omega)) (fun h15 => ?_)
      refine V_aload_n X dX12_houseNow_125 0 rfl ?_
      refine R_getf X fl_X12_188 hK (0) (rlv (by omega)) rfl rfl dX12_houseNow_126 (V.topi (fun x16 ex16 => ?_))
      refine V_goto (tgt := 133) X dX12_houseNow_129 (by decide) ?_
      exact V_iret X E (by omega) (by omega) ⟨⟨_, rfl⟩, ⟨_, _, rfl, hKF14, hIF14⟩⟩ dX12_houseNow_133
    · -- none
      show V g κ 2 (0) (0) (t, rO g ad N S F14 σ0) 122 [(0, .ref (ad (0))), (1, .int (nI (7)))] [.int (nI (0))]
      refine V_ifeqN X (by omega) (tgt := 132) dX12_houseNow_122 (by decide) (fun h17 => ?_) (fun h17 => absurd h17 (by omega))
      refine V_iconst (v := (-1)) X dX12_houseNow_132 (by decide) ?_
      exact V_iret X E (by omega) (by omega) ⟨⟨_, rfl⟩, ⟨_, _, rfl, hKF14, hIF14⟩⟩ dX12_houseNow_133
  · -- case 8
    refine V_tableIn (tgt := 134) X dX12_houseNow_1 (by decide) (by decide) rfl (by decide) ?_
    refine V_aload_n X dX12_houseNow_134 0 rfl ?_
    refine V_callV (rest := []) X E.room ml_X12_291 in_X12_cutScenes (ci := 16) rfl se_X12_cutScenes (R_recv hK (q := 0) (rlv (by omega)) rfl) (by omega) (by decide) (k_X12_cutScenes hK hI) rfl rfl (Nat.le_of_ble_eq_true rfl) ⟨by omega, by omega⟩ dX12_houseNow_135 (fun _ _ h => False.elim h) (fun v135 σ' hp135 => ?_)
    obtain ⟨hp135, F18, rfl, hJF18⟩ := hp135
    have hIF18 := hI.mv hJF18
    have hKF18 : rM N F F18 := (rM.rfl' : rM N F F).trans hJF18.m
    obtain ⟨r19, rfl⟩ := hp135
    show V g κ 2 (0) (0) (t, rO g ad N S F18 σ0) 138 [(0, .ref (ad (0))), (1, .int (nI (8)))] [.int (r19)]
    exact V_iret X E (by omega) (by omega) ⟨⟨_, rfl⟩, ⟨_, _, rfl, hKF18, hIF18⟩⟩ dX12_houseNow_138
  · -- case 9
    refine V_tableIn (tgt := 139) X dX12_houseNow_1 (by decide) (by decide) rfl (by decide) ?_
    refine V_aload_n X dX12_houseNow_139 0 rfl ?_
    refine R_getf X fl_X12_138 hK (0) (rlv (by omega)) rfl rfl dX12_houseNow_140 (V.topi (fun x20 ex20 => ?_))
    exact V_iret X E (by omega) (by omega) ⟨⟨_, rfl⟩, ⟨_, _, rfl, rM.rfl', hI⟩⟩ dX12_houseNow_143
  · -- case 10
    refine V_tableIn (tgt := 144) X dX12_houseNow_1 (by decide) (by decide) rfl (by decide) ?_
    refine V_aload_n X dX12_houseNow_144 0 rfl ?_
    refine R_getf X fl_X12_144 hK (0) (rlv (by omega)) rfl rfl dX12_houseNow_145 (V.topi (fun x21 ex21 => ?_))
    exact V_iret X E (by omega) (by omega) ⟨⟨_, rfl⟩, ⟨_, _, rfl, rM.rfl', hI⟩⟩ dX12_houseNow_148
  · -- case 11
    refine V_tableIn (tgt := 149) X dX12_houseNow_1 (by decide) (by decide) rfl (by decide) ?_
    refine V_aload_n X dX12_houseNow_149 0 rfl ?_
    refine V_callV (rest := []) X E.room ml_X12_294 in_X12_purses (ci := 16) rfl se_X12_purses (R_recv hK (q := 0) (rlv (by omega)) rfl) (by omega) (by decide) (k_X12_purses hK hI) rfl rfl (Nat.le_of_ble_eq_true rfl) ⟨by omega, by omega⟩ dX12_houseNow_150 (fun _ _ h => False.elim h) (fun v150 σ' hp150 => ?_)
    obtain ⟨hp150, t22, rfl⟩ := hp150
    obtain ⟨r23, rfl⟩ := hp150
    show V g κ 2 (0 + 1) (0 + 4) (t22, rO g ad N S F σ0) 153 [(0, .ref (ad (0))), (1, .int (nI (11)))] [.int (r23)]
    exact V_iret X E (by omega) (by omega) ⟨⟨_, rfl⟩, ⟨_, _, rfl, rM.rfl', hI⟩⟩ dX12_houseNow_153
  · -- case 12
    refine V_tableIn (tgt := 154) X dX12_houseNow_1 (by decide) (by decide) rfl (by decide) ?_
    refine V_aload_n X dX12_houseNow_154 0 rfl ?_
    refine R_getf X fl_X12_235 hK (0) (rlv (by omega)) rfl rfl dX12_houseNow_155 (V.topi (fun x24 ex24 => ?_))
    exact V_iret X E (by omega) (by omega) ⟨⟨_, rfl⟩, ⟨_, _, rfl, rM.rfl', hI⟩⟩ dX12_houseNow_158
  · -- case 13
    refine V_tableOut (tgt := 159) X dX12_houseNow_1 (by decide) (by decide) ?_
    refine V_aload_n X dX12_houseNow_159 0 rfl ?_
    refine R_getf X fl_X12_238 hK (0) (rlv (by omega)) rfl rfl dX12_houseNow_160 (V.topi (fun x25 ex25 => ?_))
    exact V_iret X E (by omega) (by omega) ⟨⟨_, rfl⟩, ⟨_, _, rfl, rM.rfl', hI⟩⟩ dX12_houseNow_163
set_option maxRecDepth 100000 in
set_option maxHeartbeats 4000000 in
theorem k_X12_house {g : zG} {t : Nat × Nat} {ad N : Nat → Nat} {S : Int64} {σ0 : Nat → Option va_E} {F : Nat → Nat → Int32} (hK : rK g ad N) (hI : rI N F)  (a1 : Int32) : Ct g 27 yX12_house cX12_house 2 (some FieldType.int) 1 4 [.ref (ad (0)), .int (a1)] (t, rO g ad N S F σ0) (qN pI g ad N S F σ0) zNo := by
  refine Ct.of (lv := [(0, .ref (ad (0))), (1, .int (a1))]) (by decide) (Nat.le_of_ble_eq_true rfl) rfl ?_
  intro κ X E B _
  have X : zX g κ RX12 cX12_house 2 := X
  obtain ⟨b0, b1, b2, b3, b4⟩ := hI.bnd
  refine V_aload_n X dX12_house_0 0 rfl ?_
  refine V_iconst (v := nI 0) X dX12_house_1 (by decide) ?_
  refine R_putf X fl_X12_38 zt_X12 hK (0) (rlv (by omega)) (by omega) rfl (Nat.le_of_ble_eq_true rfl) rfl rfl rfl rfl rfl dX12_house_2 (fun F1 hF1 => ?_)
  have hJF1 := (rM.rfl' : rM N F F).set hF1 (by omega)
  have hIF1 := hI.st hF1 (by omega)
  refine V_iload_n X dX12_house_5 1 rfl ?_
  refine V_iconst (v := nI 0) X dX12_house_6 (by decide) ?_
  refine V_bipush (v := nI 13) X dX12_house_7 (by decide) ?_
  refine V_callS (rest := []) X E.room ml_X12_46 st_X12_is (by omega) (by decide) (k_X12_is (σ := (t, rO g ad N S F1 σ0)) (a1) (nI (0)) (nI (13))) rfl rfl (Nat.le_of_ble_eq_true rfl) ⟨by omega, by omega⟩ dX12_house_9 (fun _ _ h => False.elim h) (fun v9 σ' hp9 => ?_)
  obtain ⟨hp9, rfl⟩ := hp9
  rcases hp9 with ⟨rfl, z2⟩ | ⟨rfl, z2⟩
  · -- yes
    obtain ⟨j3, ej3, -, uj3⟩ := zin_of (Int32.not_lt.mpr z2.1) z2.2 (by decide) (by decide)
    subst ej3
    show V g κ 2 (0) (0) (t, rO g ad N S F1 σ0) 12 [(0, .ref (ad (0))), (1, .int (nI (j3)))] [.int (nI (1))]
    refine V_ifeqN X (by omega) (tgt := 23) dX12_house_12 (by decide) (fun h4 => absurd h4 (by omega)) (fun h4 => ?_)
    refine V_aload_n X dX12_house_15 0 rfl ?_
    refine V_iload_n X dX12_house_16 1 rfl ?_
    refine V_callV (rest := []) X E.room ml_X12_297 in_X12_houseNow (ci := 16) rfl se_X12_houseNow (R_recv hK (q := 0) (rlv (by omega)) rfl) (by omega) (by decide) (k_X12_houseNow hK hIF1 (j3) (by omega)) rfl rfl (Nat.le_of_ble_eq_true rfl) ⟨by omega, by omega⟩ dX12_house_17 (fun _ _ h => False.elim h) (fun v17 σ' hp17 => ?_)
    obtain ⟨hp17, t6, F5, rfl, hJF5, hIF5⟩ := hp17
    have hKF5 : rM N F F5 := (hJF1 : rM N F F1).trans hJF5
    obtain ⟨r7, rfl⟩ := hp17
    show V g κ 2 (0 + 1) (0 + 4) (t6, rO g ad N S F5 σ0) 20 [(0, .ref (ad (0))), (1, .int (nI (j3)))] [.int (r7)]
    refine V_goto (tgt := 28) X dX12_house_20 (by decide) ?_
    exact V_iret X E (by omega) (by omega) ⟨⟨_, rfl⟩, ⟨_, _, rfl, hKF5, hIF5⟩⟩ dX12_house_28
  · -- no
    show V g κ 2 (0) (0) (t, rO g ad N S F1 σ0) 12 [(0, .ref (ad (0))), (1, .int (a1))] [.int (nI (0))]
    refine V_ifeqN X (by omega) (tgt := 23) dX12_house_12 (by decide) (fun h8 => ?_) (fun h8 => absurd h8 (by omega))
    refine V_aload_n X dX12_house_23 0 rfl ?_
    refine V_iconst (v := nI 1) X dX12_house_24 (by decide) ?_
    refine V_callV (rest := []) X E.room ml_X12_50 in_X12_refuse (ci := 16) rfl se_X12_refuse (R_recv hK (q := 0) (rlv (by omega)) rfl) (by omega) (by decide) (k_X12_refuse hK hIF1 (nI (1))) rfl rfl (Nat.le_of_ble_eq_true rfl) ⟨by omega, by omega⟩ dX12_house_25 (fun _ _ h => False.elim h) (fun v25 σ' hp25 => ?_)
    obtain ⟨hp25, F9, rfl, hF9⟩ := hp25
    have hKF9 : rM N F F9 := (hJF1 : rM N F F1).set hF9 (by omega)
    have hIF9 := hIF1.st hF9 (by omega)
    cases (hp25 : _ = some (Value.int (nI (0))))
    show V g κ 2 (0) (0) (t, rO g ad N S F9 σ0) 28 [(0, .ref (ad (0))), (1, .int (a1))] [.int (nI (0))]
    exact V_iret X E (by omega) (by omega) ⟨⟨_, rfl⟩, ⟨_, _, rfl, hKF9, hIF9⟩⟩ dX12_house_28
set_option maxRecDepth 100000 in
set_option maxHeartbeats 4000000 in
theorem k_X12_tour {g : zG} {t : Nat × Nat} {ad N : Nat → Nat} {S : Int64} {σ0 : Nat → Option va_E} {F : Nat → Nat → Int32} (hK : rK g ad N) (hI : rI N F)  (a1 : Int32) (a2 : Int32) : Ct g 22 yX12_tour cX12_tour 3 (some FieldType.int) 0 0 [.ref (ad (0)), .int (a1), .int (a2)] (t, rO g ad N S F σ0) (qN pI g ad N S F σ0) zNo := by
  refine Ct.of (lv := [(0, .ref (ad (0))), (1, .int (a1)), (2, .int (a2))]) (by decide) (Nat.le_of_ble_eq_true rfl) rfl ?_
  intro κ X E B _
  have X : zX g κ RX12 cX12_tour 3 := X
  obtain ⟨b0, b1, b2, b3, b4⟩ := hI.bnd
  refine V_aload_n X dX12_tour_0 0 rfl ?_
  refine V_iconst (v := nI 0) X dX12_tour_1 (by decide) ?_
  refine R_putf X fl_X12_38 zt_X12 hK (0) (rlv (by omega)) (by omega) rfl (Nat.le_of_ble_eq_true rfl) rfl rfl rfl rfl rfl dX12_tour_2 (fun F1 hF1 => ?_)
  have hJF1 := (rM.rfl' : rM N F F).set hF1 (by omega)
  have hIF1 := hI.st hF1 (by omega)
  refine V_iload_n X dX12_tour_5 1 rfl ?_
  refine V_iconst (v := nI 0) X dX12_tour_6 (by decide) ?_
  refine V_sipush (v := nI 2000) X dX12_tour_7 (by decide) ?_
  refine V_callS (rest := []) X E.room ml_X12_46 st_X12_is (by omega) (by decide) (k_X12_is (σ := (t, rO g ad N S F1 σ0)) (a1) (nI (0)) (nI (2000))) rfl rfl (Nat.le_of_ble_eq_true rfl) ⟨by omega, by omega⟩ dX12_tour_10 (fun _ _ h => False.elim h) (fun v10 σ' hp10 => ?_)
  obtain ⟨hp10, rfl⟩ := hp10
  rcases hp10 with ⟨rfl, z2⟩ | ⟨rfl, z2⟩
  · -- yes
    obtain ⟨j3, ej3, -, uj3⟩ := zin_of (Int32.not_lt.mpr z2.1) z2.2 (by decide) (by decide)
    subst ej3
    show V g κ 3 (0) (0) (t, rO g ad N S F1 σ0) 13 [(0, .ref (ad (0))), (1, .int (nI (j3))), (2, .int (a2))] [.int (nI (1))]
    refine V_ifeqN X (by omega) (tgt := 34) dX12_tour_13 (by decide) (fun h4 => absurd h4 (by omega)) (fun h4 => ?_)
    refine V_iload_n X dX12_tour_16 2 rfl ?_
    refine V_iconst (v := nI 0) X dX12_tour_17 (by decide) ?_
    refine V_iconst (v := nI 2) X dX12_tour_18 (by decide) ?_
    refine V_callS (rest := []) X E.room ml_X12_46 st_X12_is (by omega) (by decide) (k_X12_is (σ := (t, rO g ad N S F1 σ0)) (a2) (nI (0)) (nI (2))) rfl rfl (Nat.le_of_ble_eq_true rfl) ⟨by omega, by omega⟩ dX12_tour_19 (fun _ _ h => False.elim h) (fun v19 σ' hp19 => ?_)
    obtain ⟨hp19, rfl⟩ := hp19
    rcases hp19 with ⟨rfl, z5⟩ | ⟨rfl, z5⟩
    · -- yes
      obtain ⟨j6, ej6, -, uj6⟩ := zin_of (Int32.not_lt.mpr z5.1) z5.2 (by decide) (by decide)
      subst ej6
      show V g κ 3 (0) (0) (t, rO g ad N S F1 σ0) 22 [(0, .ref (ad (0))), (1, .int (nI (j3))), (2, .int (nI (j6)))] [.int (nI (1))]
      refine V_ifeqN X (by omega) (tgt := 34) dX12_tour_22 (by decide) (fun h7 => absurd h7 (by omega)) (fun h7 => ?_)
      refine V_aload_n X dX12_tour_25 0 rfl ?_
      refine V_iload_n X dX12_tour_26 1 rfl ?_
      refine V_iload_n X dX12_tour_27 2 rfl ?_
      refine V_callV (rest := []) X E.room ml_X12_316 in_X12_tourNow (ci := 16) rfl se_X12_tourNow (R_recv hK (q := 0) (rlv (by omega)) rfl) (by omega) (by decide) (k_X12_tourNow hK hIF1 (nI (j3)) (nI (j6))) rfl rfl (Nat.le_of_ble_eq_true rfl) ⟨by omega, by omega⟩ dX12_tour_28 (fun _ _ h => False.elim h) (fun v28 σ' hp28 => ?_)
      obtain ⟨hp28, F8, rfl, hJF8⟩ := hp28
      have hIF8 := hIF1.mv hJF8
      have hKF8 : rM N F F8 := (hJF1 : rM N F F1).trans hJF8.m
      obtain ⟨r9, rfl⟩ := hp28
      show V g κ 3 (0) (0) (t, rO g ad N S F8 σ0) 31 [(0, .ref (ad (0))), (1, .int (nI (j3))), (2, .int (nI (j6)))] [.int (r9)]
      refine V_goto (tgt := 39) X dX12_tour_31 (by decide) ?_
      exact V_iret X E (by omega) (by omega) ⟨⟨_, rfl⟩, ⟨_, _, rfl, hKF8, hIF8⟩⟩ dX12_tour_39
    · -- no
      show V g κ 3 (0) (0) (t, rO g ad N S F1 σ0) 22 [(0, .ref (ad (0))), (1, .int (nI (j3))), (2, .int (a2))] [.int (nI (0))]
      refine V_ifeqN X (by omega) (tgt := 34) dX12_tour_22 (by decide) (fun h10 => ?_) (fun h10 => absurd h10 (by omega))
      refine V_aload_n X dX12_tour_34 0 rfl ?_
      refine V_iconst (v := nI 1) X dX12_tour_35 (by decide) ?_
      refine V_callV (rest := []) X E.room ml_X12_50 in_X12_refuse (ci := 16) rfl se_X12_refuse (R_recv hK (q := 0) (rlv (by omega)) rfl) (by omega) (by decide) (k_X12_refuse hK hIF1 (nI (1))) rfl rfl (Nat.le_of_ble_eq_true rfl) ⟨by omega, by omega⟩ dX12_tour_36 (fun _ _ h => False.elim h) (fun v36 σ' hp36 => ?_)
      obtain ⟨hp36, F11, rfl, hF11⟩ := hp36
      have hKF11 : rM N F F11 := (hJF1 : rM N F F1).set hF11 (by omega)
      have hIF11 := hIF1.st hF11 (by omega)
      cases (hp36 : _ = some (Value.int (nI (0))))
      show V g κ 3 (0) (0) (t, rO g ad N S F11 σ0) 39 [(0, .ref (ad (0))), (1, .int (nI (j3))), (2, .int (a2))] [.int (nI (0))]
      exact V_iret X E (by omega) (by omega) ⟨⟨_, rfl⟩, ⟨_, _, rfl, hKF11, hIF11⟩⟩ dX12_tour_39
  · -- no
    show V g κ 3 (0) (0) (t, rO g ad N S F1 σ0) 13 [(0, .ref (ad (0))), (1, .int (a1)), (2, .int (a2))] [.int (nI (0))]
    refine V_ifeqN X (by omega) (tgt := 34) dX12_tour_13 (by decide) (fun h12 => ?_) (fun h12 => absurd h12 (by omega))
    refine V_aload_n X dX12_tour_34 0 rfl ?_
    refine V_iconst (v := nI 1) X dX12_tour_35 (by decide) ?_
    refine V_callV (rest := []) X E.room ml_X12_50 in_X12_refuse (ci := 16) rfl se_X12_refuse (R_recv hK (q := 0) (rlv (by omega)) rfl) (by omega) (by decide) (k_X12_refuse hK hIF1 (nI (1))) rfl rfl (Nat.le_of_ble_eq_true rfl) ⟨by omega, by omega⟩ dX12_tour_36 (fun _ _ h => False.elim h) (fun v36 σ' hp36 => ?_)
    obtain ⟨hp36, F13, rfl, hF13⟩ := hp36
    have hKF13 : rM N F F13 := (hJF1 : rM N F F1).set hF13 (by omega)
    have hIF13 := hIF1.st hF13 (by omega)
    cases (hp36 : _ = some (Value.int (nI (0))))
    show V g κ 3 (0) (0) (t, rO g ad N S F13 σ0) 39 [(0, .ref (ad (0))), (1, .int (a1)), (2, .int (a2))] [.int (nI (0))]
    exact V_iret X E (by omega) (by omega) ⟨⟨_, rfl⟩, ⟨_, _, rfl, hKF13, hIF13⟩⟩ dX12_tour_39
set_option maxRecDepth 100000 in
set_option maxHeartbeats 4000000 in
theorem k_X12_withoutNow {g : zG} {t : Nat × Nat} {ad N : Nat → Nat} {S : Int64} {σ0 : Nat → Option va_E} {F : Nat → Nat → Int32} (hK : rK g ad N) (hI : rI N F) (p : Nat) (hp : p < N 1) : Ct g 25 yX12_withoutNow cX12_withoutNow 4 (some FieldType.int) 0 0 [.ref (ad (0)), .int (nI (p))] (t, rO g ad N S F σ0) (fun v σ' => ∃ x : Int32, v = some (.int x) ∧ mFew (zFR N (fset F (21 + p) 3 (nI 1)) (nI (2 ^ N 2 - 1))) x ∧ ∃ (t' : Nat × Nat) (F' : Nat → Nat → Int32), σ' = (t', rO g ad N S F' σ0) ∧ rM N F F' ∧ rI N F' ∧ F' 0 0 = F 0 0) zNo := by
  refine Ct.of (lv := [(0, .ref (ad (0))), (1, .int (nI (p)))]) (by decide) (Nat.le_of_ble_eq_true rfl) rfl ?_
  intro κ X E B _
  have X : zX g κ RX12 cX12_withoutNow 4 := X
  obtain ⟨b0, b1, b2, b3, b4⟩ := hI.bnd
  refine V_aload_n X dX12_withoutNow_0 0 rfl ?_
  refine R_getf X fl_X12_16 hK (0) (rlv (by omega)) rfl rfl dX12_withoutNow_1 ?_
  refine V_iload_n X dX12_withoutNow_4 1 rfl ?_
  refine V_callV (rest := []) X E.room ml_X12_97 in_Jx4a65c_get_915e3 (ci := 3) rfl se_Jx4a65c_get_915e3 (rO_list hK (i := 1) (by decide)) (by omega) (by decide) (r_get hK 1 (by decide) (j := p) (by omega) (by omega)) rfl rfl (Nat.le_of_ble_eq_true rfl) ⟨by omega, by omega⟩ dX12_withoutNow_5 (fun _ _ h => False.elim h) (fun v1 σ' hp2 => ?_)
  obtain ⟨hp2, rfl⟩ := hp2
  cases (hp2 : _ = some (Value.ref (ad (21 + (p)))))
  show V g κ 4 (0) (0) (t, rO g ad N S F σ0) 8 [(0, .ref (ad (0))), (1, .int (nI (p)))] [.ref (ad (21 + (p)))]
  refine V_cast X (C := RX9) rfl cl_X12_74 (R_recv hK (q := 21 + (p)) (rlv (by omega)) (rCell_player (by omega))) dX12_withoutNow_8 ?_
  refine R_getf X fl_X12_115 hK (21 + (p)) (rlv (by omega)) (rCell_player (by omega)) rfl dX12_withoutNow_11 (V.topi (fun x3 ex3 => ?_))
  have hx3 : x3 = 0 ∨ x3 = 1 := by rw [ex3]; exact hI.sick _ (by omega)
  refine V_istore_n X [(2, .int (x3)), (0, .ref (ad (0))), (1, .int (nI (p)))] dX12_withoutNow_14 (by decide) rfl ?_
  refine V_aload_n X dX12_withoutNow_15 1 rfl ?_
  refine R_getf X fl_X12_16 hK (0) (rlv (by omega)) rfl rfl dX12_withoutNow_16 ?_
  refine V_iload_n X dX12_withoutNow_19 2 rfl ?_
  refine V_callV (rest := []) X E.room ml_X12_97 in_Jx4a65c_get_915e3 (ci := 3) rfl se_Jx4a65c_get_915e3 (rO_list hK (i := 1) (by decide)) (by omega) (by decide) (r_get hK 1 (by decide) (j := p) (by omega) (by omega)) rfl rfl (Nat.le_of_ble_eq_true rfl) ⟨by omega, by omega⟩ dX12_withoutNow_20 (fun _ _ h => False.elim h) (fun v4 σ' hp5 => ?_)
  obtain ⟨hp5, rfl⟩ := hp5
  cases (hp5 : _ = some (Value.ref (ad (21 + (p)))))
  show V g κ 4 (0) (0) (t, rO g ad N S F σ0) 23 [(2, .int (x3)), (0, .ref (ad (0))), (1, .int (nI (p)))] [.ref (ad (21 + (p)))]
  refine V_cast X (C := RX9) rfl cl_X12_74 (R_recv hK (q := 21 + (p)) (rlv (by omega)) (rCell_player (by omega))) dX12_withoutNow_23 ?_
  refine V_iconst (v := nI 1) X dX12_withoutNow_26 (by decide) ?_
  refine R_putf X fl_X12_115 zt_X9 hK (21 + (p)) (rlv (by omega)) (by omega) (rCell_player (by omega)) (Nat.le_of_ble_eq_true rfl) rfl rfl rfl rfl ((rCell_player (by omega)).trans rfl) dX12_withoutNow_27 (fun F6 hF6 => ?_)
  have hIF6 := hI.sk (i := p) hF6 (Or.inr (by decide))
  refine V_aload_n X dX12_withoutNow_30 1 rfl ?_
  refine V_aload_n X dX12_withoutNow_31 1 rfl ?_
  refine V_callV (rest := [.ref (ad (0))]) X E.room ml_X12_182 in_X12_all (ci := 16) rfl se_X12_all (R_recv hK (q := 0) (rlv (by omega)) rfl) (by omega) (by decide) (k_X12_all hK hIF6) rfl rfl (Nat.le_of_ble_eq_true rfl) ⟨by omega, by omega⟩ dX12_withoutNow_32 (fun _ _ h => False.elim h) (fun v32 σ' hp32 => ?_)
  obtain ⟨hp32, rfl⟩ := hp32
  cases (hp32 : _ = some (Value.int (nI (2 ^ N 2 - 1))))
  show V g κ 4 (0) (0) (t, rO g ad N S F6 σ0) 35 [(2, .int (x3)), (0, .ref (ad (0))), (1, .int (nI (p)))] [.int (nI (2 ^ N 2 - 1)), .ref (ad (0))]
  refine V_callV (rest := []) X E.room ml_X12_185 in_X12_needs (ci := 16) rfl se_X12_needs (R_recv hK (q := 0) (rlv (by omega)) rfl) (by omega) (by decide) (k_X12_needs_x hK hIF6 (nI (2 ^ N 2 - 1))) rfl rfl (Nat.le_of_ble_eq_true rfl) ⟨by omega, by omega⟩ dX12_withoutNow_35 (fun _ _ h => False.elim h) (fun v35 σ' hp35 => ?_)
  obtain ⟨r8, rfl, F7, rfl, hJF7, zF7, ndF7⟩ := hp35
  have hIF7 := hIF6.mv hJF7
  have hKF7 : rM N F6 F7 := hJF7.m
  show V g κ 4 (0) (0) (t, rO g ad N S F7 σ0) 38 [(2, .int (x3)), (0, .ref (ad (0))), (1, .int (nI (p)))] [.int (r8)]
  refine V_istore_n X [(3, .int (r8)), (2, .int (x3)), (0, .ref (ad (0))), (1, .int (nI (p)))] dX12_withoutNow_38 (by decide) rfl ?_
  refine V_aload_n X dX12_withoutNow_39 2 rfl ?_
  refine R_getf X fl_X12_16 hK (0) (rlv (by omega)) rfl rfl dX12_withoutNow_40 ?_
  refine V_iload_n X dX12_withoutNow_43 3 rfl ?_
  refine V_callV (rest := []) X E.room ml_X12_97 in_Jx4a65c_get_915e3 (ci := 3) rfl se_Jx4a65c_get_915e3 (rO_list hK (i := 1) (by decide)) (by omega) (by decide) (r_get hK 1 (by decide) (j := p) (by omega) (by omega)) rfl rfl (Nat.le_of_ble_eq_true rfl) ⟨by omega, by omega⟩ dX12_withoutNow_44 (fun _ _ h => False.elim h) (fun v9 σ' hp10 => ?_)
  obtain ⟨hp10, rfl⟩ := hp10
  cases (hp10 : _ = some (Value.ref (ad (21 + (p)))))
  show V g κ 4 (0) (0) (t, rO g ad N S F7 σ0) 47 [(3, .int (r8)), (2, .int (x3)), (0, .ref (ad (0))), (1, .int (nI (p)))] [.ref (ad (21 + (p)))]
  refine V_cast X (C := RX9) rfl cl_X12_74 (R_recv hK (q := 21 + (p)) (rlv (by omega)) (rCell_player (by omega))) dX12_withoutNow_47 ?_
  refine V_iload_n X dX12_withoutNow_50 1 rfl ?_
  refine R_putf X fl_X12_115 zt_X9 hK (21 + (p)) (rlv (by omega)) (by omega) (rCell_player (by omega)) (Nat.le_of_ble_eq_true rfl) rfl rfl (zbool hx3) (zfitb hx3) ((rCell_player (by omega)).trans rfl) dX12_withoutNow_51 (fun F11 hF11 => ?_)
  have hJF11 : rM N F F11 := rJ.undo hF6 hJF7 hF11 ex3
  have hIF11 := hIF7.sk (i := p) hF11 hx3
  refine V_iload_n X dX12_withoutNow_54 0 rfl ?_
  exact V_iret X E (by omega) (by omega) ⟨_, rfl, by rw [← hF6]; exact (rNd_few ndF7), _, _, rfl, hJF11, hIF11, by rw [hF11, fset_ne (by omega), zF7, hF6, fset_ne (by omega)]⟩ dX12_withoutNow_55
set_option maxRecDepth 100000 in
set_option maxHeartbeats 4000000 in
theorem k_X12_without {g : zG} {t : Nat × Nat} {ad N : Nat → Nat} {S : Int64} {σ0 : Nat → Option va_E} {F : Nat → Nat → Int32} (hK : rK g ad N) (hI : rI N F) (a1 : Int32) : Ct g 26 yX12_without cX12_without 2 (some FieldType.int) 0 0 [.ref (ad (0)), .int (a1)] (t, rO g ad N S F σ0) (qEx g ad N S σ0 (fun x F' => zR2 (F' 0 0) (zlt (N 1) a1) True (rM N F F') (∃ p : Nat, a1 = nI p ∧ p < N 1 ∧ mFew (zFR N (fset F (21 + p) 3 (nI 1)) (nI (2 ^ N 2 - 1))) x ∧ rM N F F'))) zNo := by
  refine Ct.of (lv := [(0, .ref (ad (0))), (1, .int (a1))]) (by decide) (Nat.le_of_ble_eq_true rfl) rfl ?_
  intro κ X E B _
  have X : zX g κ RX12 cX12_without 2 := X
  obtain ⟨b0, b1, b2, b3, b4⟩ := hI.bnd
  refine V_aload_n X dX12_without_0 0 rfl ?_
  refine V_iconst (v := nI 0) X dX12_without_1 (by decide) ?_
  refine R_putf X fl_X12_38 zt_X12 hK (0) (rlv (by omega)) (by omega) rfl (Nat.le_of_ble_eq_true rfl) rfl rfl rfl rfl rfl dX12_without_2 (fun F1 hF1 => ?_)
  have hJF1 := (rM.rfl' : rM N F F).set hF1 (by omega)
  have hIF1 := hI.st hF1 (by omega)
  refine V_aload_n X dX12_without_5 0 rfl ?_
  refine V_iload_n X dX12_without_6 1 rfl ?_
  refine V_callV (rest := []) X E.room ml_X12_118 in_X12_isPlayer (ci := 16) rfl se_X12_isPlayer (R_recv hK (q := 0) (rlv (by omega)) rfl) (by omega) (by decide) (k_X12_isPlayer hK hIF1 (a1)) rfl rfl (Nat.le_of_ble_eq_true rfl) ⟨by omega, by omega⟩ dX12_without_7 (fun _ _ h => False.elim h) (fun v7 σ' hp7 => ?_)
  obtain ⟨hp7, rfl⟩ := hp7
  rcases hp7 with ⟨rfl, z2⟩ | ⟨rfl, z2⟩
  · -- yes
    obtain ⟨j3, ej3, uj3⟩ := id z2
    subst ej3
    show V g κ 2 (0) (0) (t, rO g ad N S F1 σ0) 10 [(0, .ref (ad (0))), (1, .int (nI (j3)))] [.int (nI (1))]
    refine V_ifeqN X (by omega) (tgt := 21) dX12_without_10 (by decide) (fun h4 => absurd h4 (by omega)) (fun h4 => ?_)
    refine V_aload_n X dX12_without_13 0 rfl ?_
    refine V_iload_n X dX12_without_14 1 rfl ?_
    refine V_callV (rest := []) X E.room ml_X12_319 in_X12_withoutNow (ci := 16) rfl se_X12_withoutNow (R_recv hK (q := 0) (rlv (by omega)) rfl) (by omega) (by decide) (k_X12_withoutNow hK hIF1 (j3) (by omega)) rfl rfl (Nat.le_of_ble_eq_true rfl) ⟨by omega, by omega⟩ dX12_without_15 (fun _ _ h => False.elim h) (fun v15 σ' hp15 => ?_)
    obtain ⟨r5, rfl, fr5, t7, F6, rfl, hMF6, hIF6, hZF6⟩ := hp15
    have hKF6 : rM N F F6 := (hJF1 : rM N F F1).trans hMF6
    show V g κ 2 (0) (0) (t7, rO g ad N S F6 σ0) 18 [(0, .ref (ad (0))), (1, .int (nI (j3)))] [.int (r5)]
    refine V_goto (tgt := 26) X dX12_without_18 (by decide) ?_
    exact V_iret X E (by omega) (by omega) ⟨_, rfl, _, _, rfl, hIF6, Or.inr (Or.inr ⟨hZF6.trans (by rw [hF1, fset_eq]), ⟨_, rfl, by omega⟩, trivial, _, rfl, by omega, by rw [← zFR_mv (((rJ.rfl' : rJ F F).set hF1 (rsc_t (by omega))).fs)]; exact fr5, hKF6⟩)⟩ dX12_without_26
  · -- no
    show V g κ 2 (0) (0) (t, rO g ad N S F1 σ0) 10 [(0, .ref (ad (0))), (1, .int (a1))] [.int (nI (0))]
    refine V_ifeqN X (by omega) (tgt := 21) dX12_without_10 (by decide) (fun h8 => ?_) (fun h8 => absurd h8 (by omega))
    refine V_aload_n X dX12_without_21 0 rfl ?_
    refine V_iconst (v := nI 1) X dX12_without_22 (by decide) ?_
    refine V_callV (rest := []) X E.room ml_X12_50 in_X12_refuse (ci := 16) rfl se_X12_refuse (R_recv hK (q := 0) (rlv (by omega)) rfl) (by omega) (by decide) (k_X12_refuse hK hIF1 (nI (1))) rfl rfl (Nat.le_of_ble_eq_true rfl) ⟨by omega, by omega⟩ dX12_without_23 (fun _ _ h => False.elim h) (fun v23 σ' hp23 => ?_)
    obtain ⟨hp23, F9, rfl, hF9⟩ := hp23
    have hKF9 : rM N F F9 := (hJF1 : rM N F F1).set hF9 (by omega)
    have hIF9 := hIF1.st hF9 (by omega)
    cases (hp23 : _ = some (Value.int (nI (0))))
    show V g κ 2 (0) (0) (t, rO g ad N S F9 σ0) 26 [(0, .ref (ad (0))), (1, .int (a1))] [.int (nI (0))]
    exact V_iret X E (by omega) (by omega) ⟨_, rfl, _, _, rfl, hIF9, Or.inl ⟨(by rw [hF9, fset_eq]), by assumption, hKF9⟩⟩ dX12_without_26
set_option maxRecDepth 100000 in
set_option maxHeartbeats 4000000 in
theorem k_X12_would {g : zG} {t : Nat × Nat} {ad N : Nat → Nat} {S : Int64} {σ0 : Nat → Option va_E} {F : Nat → Nat → Int32} (hK : rK g ad N) (hI : rI N F) (a1 : Int32) : Ct g 25 yX12_would cX12_would 2 (some FieldType.int) 0 0 [.ref (ad (0)), .int (a1)] (t, rO g ad N S F σ0) (qEx g ad N S σ0 (fun x F' => zR2 (F' 0 0) (zin 0 (2 ^ N 2 - 1) a1) True (rM N F F') (mFew (zFR N F (nI (2 ^ N 2 - 1) &&& (a1 ^^^ (-1)))) x ∧ rM N F F'))) zNo := by
  refine Ct.of (lv := [(0, .ref (ad (0))), (1, .int (a1))]) (by decide) (Nat.le_of_ble_eq_true rfl) rfl ?_
  intro κ X E B _
  have X : zX g κ RX12 cX12_would 2 := X
  obtain ⟨b0, b1, b2, b3, b4⟩ := hI.bnd
  have h64 : 2 ^ N 2 ≤ 64 := zp2 (n := 6) (by omega)
  refine V_aload_n X dX12_would_0 0 rfl ?_
  refine V_iconst (v := nI 0) X dX12_would_1 (by decide) ?_
  refine R_putf X fl_X12_38 zt_X12 hK (0) (rlv (by omega)) (by omega) rfl (Nat.le_of_ble_eq_true rfl) rfl rfl rfl rfl rfl dX12_would_2 (fun F1 hF1 => ?_)
  have hJF1 := (rM.rfl' : rM N F F).set hF1 (by omega)
  have hIF1 := hI.st hF1 (by omega)
  refine V_iload_n X dX12_would_5 1 rfl ?_
  refine V_iconst (v := nI 0) X dX12_would_6 (by decide) ?_
  refine V_aload_n X dX12_would_7 0 rfl ?_
  refine V_callV (rest := [.int (nI (0)), .int (a1)]) X E.room ml_X12_182 in_X12_all (ci := 16) rfl se_X12_all (R_recv hK (q := 0) (rlv (by omega)) rfl) (by omega) (by decide) (k_X12_all hK hIF1) rfl rfl (Nat.le_of_ble_eq_true rfl) ⟨by omega, by omega⟩ dX12_would_8 (fun _ _ h => False.elim h) (fun v8 σ' hp8 => ?_)
  obtain ⟨hp8, rfl⟩ := hp8
  cases (hp8 : _ = some (Value.int (nI (2 ^ N 2 - 1))))
  show V g κ 2 (0) (0) (t, rO g ad N S F1 σ0) 11 [(0, .ref (ad (0))), (1, .int (a1))] [.int (nI (2 ^ N 2 - 1)), .int (nI (0)), .int (a1)]
  refine V_callS (rest := []) X E.room ml_X12_46 st_X12_is (by omega) (by decide) (k_X12_is (σ := (t, rO g ad N S F1 σ0)) (a1) (nI (0)) (nI (2 ^ N 2 - 1))) rfl rfl (Nat.le_of_ble_eq_true rfl) ⟨by omega, by omega⟩ dX12_would_11 (fun _ _ h => False.elim h) (fun v11 σ' hp11 => ?_)
  obtain ⟨hp11, rfl⟩ := hp11
  rcases hp11 with ⟨rfl, z2⟩ | ⟨rfl, z2⟩
  · -- yes
    show V g κ 2 (0) (0) (t, rO g ad N S F1 σ0) 14 [(0, .ref (ad (0))), (1, .int (a1))] [.int (nI (1))]
    refine V_ifeqN X (by omega) (tgt := 32) dX12_would_14 (by decide) (fun h3 => absurd h3 (by omega)) (fun h3 => ?_)
    refine V_aload_n X dX12_would_17 0 rfl ?_
    refine V_aload_n X dX12_would_18 0 rfl ?_
    refine V_callV (rest := [.ref (ad (0))]) X E.room ml_X12_182 in_X12_all (ci := 16) rfl se_X12_all (R_recv hK (q := 0) (rlv (by omega)) rfl) (by omega) (by decide) (k_X12_all hK hIF1) rfl rfl (Nat.le_of_ble_eq_true rfl) ⟨by omega, by omega⟩ dX12_would_19 (fun _ _ h => False.elim h) (fun v19 σ' hp19 => ?_)
    obtain ⟨hp19, rfl⟩ := hp19
    cases (hp19 : _ = some (Value.int (nI (2 ^ N 2 - 1))))
    show V g κ 2 (0) (0) (t, rO g ad N S F1 σ0) 22 [(0, .ref (ad (0))), (1, .int (a1))] [.int (nI (2 ^ N 2 - 1)), .ref (ad (0))]
    refine V_iload_n X dX12_would_22 1 rfl ?_
    refine V_iconst (v := (-1)) X dX12_would_23 (by decide) ?_
    refine V_ixor X dX12_would_24 (V.topi (fun w4 ew4 => ?_))
    refine V_iand X dX12_would_25 (V.topi (fun w5 ew5 => ?_))
    refine V_callV (rest := []) X E.room ml_X12_185 in_X12_needs (ci := 16) rfl se_X12_needs (R_recv hK (q := 0) (rlv (by omega)) rfl) (by omega) (by decide) (k_X12_needs_x hK hIF1 (w5)) rfl rfl (Nat.le_of_ble_eq_true rfl) ⟨by omega, by omega⟩ dX12_would_26 (fun _ _ h => False.elim h) (fun v26 σ' hp26 => ?_)
    obtain ⟨r7, rfl, F6, rfl, hJF6, zF6, ndF6⟩ := hp26
    have hIF6 := hIF1.mv hJF6
    have hKF6 : rM N F F6 := hJF1.trans hJF6.m
    show V g κ 2 (0) (0) (t, rO g ad N S F6 σ0) 29 [(0, .ref (ad (0))), (1, .int (a1))] [.int (r7)]
    refine V_goto (tgt := 37) X dX12_would_29 (by decide) ?_
    exact V_iret X E (by omega) (by omega) ⟨_, rfl, _, _, rfl, hIF6, Or.inr (Or.inr ⟨zF6.trans (by rw [hF1, fset_eq]), zin_ok (by assumption) (by decide) (by omega), trivial, by rw [← zFR_mv ((rJ.rfl' : rJ F F).set hF1 (rsc_t (by omega))), ← ew4, ← ew5]; exact (rNd_few ndF6), hKF6⟩)⟩ dX12_would_37
  · -- no
    show V g κ 2 (0) (0) (t, rO g ad N S F1 σ0) 14 [(0, .ref (ad (0))), (1, .int (a1))] [.int (nI (0))]
    refine V_ifeqN X (by omega) (tgt := 32) dX12_would_14 (by decide) (fun h8 => ?_) (fun h8 => absurd h8 (by omega))
    refine V_aload_n X dX12_would_32 0 rfl ?_
    refine V_iconst (v := nI 1) X dX12_would_33 (by decide) ?_
    refine V_callV (rest := []) X E.room ml_X12_50 in_X12_refuse (ci := 16) rfl se_X12_refuse (R_recv hK (q := 0) (rlv (by omega)) rfl) (by omega) (by decide) (k_X12_refuse hK hIF1 (nI (1))) rfl rfl (Nat.le_of_ble_eq_true rfl) ⟨by omega, by omega⟩ dX12_would_34 (fun _ _ h => False.elim h) (fun v34 σ' hp34 => ?_)
    obtain ⟨hp34, F9, rfl, hF9⟩ := hp34
    have hKF9 : rM N F F9 := (hJF1 : rM N F F1).set hF9 (by omega)
    have hIF9 := hIF1.st hF9 (by omega)
    cases (hp34 : _ = some (Value.int (nI (0))))
    show V g κ 2 (0) (0) (t, rO g ad N S F9 σ0) 37 [(0, .ref (ad (0))), (1, .int (a1))] [.int (nI (0))]
    exact V_iret X E (by omega) (by omega) ⟨_, rfl, _, _, rfl, hIF9, Or.inl ⟨(by rw [hF9, fset_eq]), fun q => absurd (zin_no (by decide) (by omega) q) (by assumption), hKF9⟩⟩ dX12_would_37
set_option maxRecDepth 100000 in
set_option maxHeartbeats 4000000 in
theorem k_X12_knock {g : zG} {t : Nat × Nat} {ad N : Nat → Nat} {S : Int64} {σ0 : Nat → Option va_E} {F : Nat → Nat → Int32} (hK : rK g ad N) (hI : rI N F)  : Ct g 10 yX12_knock cX12_knock 1 (some FieldType.int) 0 0 [.ref (ad (0))] (t, rO g ad N S F σ0) (fun v σ' => v = some (.int (F 0 9 + nI 1)) ∧ ∃ F' : Nat → Nat → Int32, σ' = (t, rO g ad N S F' σ0) ∧ rI N F' ∧ rM N (fset F 0 9 (F 0 9 + nI 1)) F') zNo := by
  refine Ct.of (lv := [(0, .ref (ad (0)))]) (by decide) (Nat.le_of_ble_eq_true rfl) rfl ?_
  intro κ X E B _
  have X : zX g κ RX12 cX12_knock 1 := X
  obtain ⟨b0, b1, b2, b3, b4⟩ := hI.bnd
  refine V_aload_n X dX12_knock_0 0 rfl ?_
  refine V_iconst (v := nI 0) X dX12_knock_1 (by decide) ?_
  refine R_putf X fl_X12_38 zt_X12 hK (0) (rlv (by omega)) (by omega) rfl (Nat.le_of_ble_eq_true rfl) rfl rfl rfl rfl rfl dX12_knock_2 (fun F1 hF1 => ?_)
  have hIF1 := hI.st hF1 (by omega)
  refine V_aload_n X dX12_knock_5 0 rfl ?_
  refine V_dup X dX12_knock_6 rfl ?_
  refine R_getf X fl_X12_238 hK (0) (rlv (by omega)) rfl rfl dX12_knock_7 (V.topi (fun x2 ex2 => ?_))
  refine V_iconst (v := nI 1) X dX12_knock_10 (by decide) ?_
  refine V_iadd X dX12_knock_11 (V.topi (fun w3 ew3 => ?_))
  refine R_putf X fl_X12_238 zt_X12 hK (0) (rlv (by omega)) (by omega) rfl (Nat.le_of_ble_eq_true rfl) rfl rfl rfl rfl rfl dX12_knock_12 (fun F4 hF4 => ?_)
  have hIF4 := hIF1.st hF4 (by omega)
  have hJF4 : rM N (fset F 0 9 (F 0 9 + nI 1)) F4 := by rw [hF4]; subst_vars; rw [fset_ne (show (0 : Nat) ≠ 0 ∨ (9 : Nat) ≠ 0 from Or.inr (by decide))]; exact ((rE.rfl'.set rfl (by omega) : rE F _).fs).m
  refine V_aload_n X dX12_knock_15 0 rfl ?_
  refine R_getf X fl_X12_238 hK (0) (rlv (by omega)) rfl rfl dX12_knock_16 (V.topi (fun x5 ex5 => ?_))
  exact V_iret X E (by omega) (by omega) ⟨by subst_vars; simp only [fset_eq, fset_ne (show (0 : Nat) ≠ 0 ∨ (9 : Nat) ≠ 0 from Or.inr (by decide))], _, rfl, hIF4, hJF4⟩ dX12_knock_19
