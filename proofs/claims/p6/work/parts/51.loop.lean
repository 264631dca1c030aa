/-! ===== the law's loop ===== -/
set_option maxRecDepth 100000 in
set_option maxHeartbeats 4000000 in
theorem lc_loop {g : zG} {κ : zC} {X0 Oa b L : Nat} {xs : Nat → Int32} (Cx : zCx g κ X0 Oa b L xs) {M : Nat} {B0 : Nat → Option va_E}
    (hend : ∀ (k n : Nat) (σ : zS) (lv : List (Nat × Value)), k ≤ 823735 → n ≤ 6624900 → V g κ 7 k n σ 1055 lv []) :
    ∀ (r j : Nat), r = 513 - j → 4 * j ≤ L → ∀ {t : Nat × Nat} {ad N : Nat → Nat} {S : Int64} {G F : Nat → Nat → Int32} {m : Int64}, zLI g X0 Oa M ad N G F → V g κ 7 (100 + 410 * j) (600 + 2050 * j) (t, zW g X0 F ad N S G B0 Oa m) 27 [(4, .int (nI (4 * j))), (3, .ref Oa), (2, .ref M), (1, .ref X0), (0, .ref b)] [] := by
  intro r
  induction r using Nat.strongRecOn with
  | ind r ih =>
  intro j hr hj t ad N S G F m I
  obtain ⟨X, Hh, hXs, hb, hL, hG, hEm, hX, hO, gO⟩ := id Cx
  have done : ∀ (i : Nat), i = 4 * j → i + 4 ≤ L → ∀ (t : Nat × Nat) (ad N : Nat → Nat) (S : Int64) (G F : Nat → Nat → Int32) (m : Int64), zLI g X0 Oa M ad N G F → V g κ 7 (100 + 410 * j + 410) (600 + 2050 * j + 2050) (t, zW g X0 F ad N S G B0 Oa m) 1049 [(4, .int (nI i)), (3, .ref Oa), (2, .ref M), (1, .ref X0), (0, .ref b)] [] := by
    intro i ei hi t ad N S G F m I
    subst ei
    refine V_iinc X (nI (4 * (j + 1))) [(4, .int (nI (4 * (j + 1)))), (3, .ref Oa), (2, .ref M), (1, .ref X0), (0, .ref b)] dL_law_1049 0 rfl ((zinc4 _).trans rfl) (by decide) rfl ?_
    refine V_goto (tgt := 27) X dL_law_1052 (by decide) ?_
    exact V.widen (by omega) (by omega) (ih (513 - (j + 1)) (by omega) (j + 1) rfl (by omega) I)
  have go : ∀ (i : Nat), i = 4 * j → V g κ 7 (100 + 410 * j) (600 + 2050 * j) (t, zW g X0 F ad N S G B0 Oa m) 27 [(4, .int (nI i)), (3, .ref Oa), (2, .ref M), (1, .ref X0), (0, .ref b)] [] := by
    intro i ei
    refine V_iload X dL_law_27 0 rfl ?_
    refine V_aload_n X dL_law_29 4 rfl ?_
    refine V_slen X hXs hb dL_law_30 ?_
    refine V_iconst (v := nI 4) X dL_law_31 (by decide) ?_
    refine V_isub X dL_law_32 ?_
    refine V_icmpgt X (tgt := 1055) dL_law_33 (by decide) (fun _ => ?_) (fun hlt => ?_)
    · exact hend _ _ _ _ (by omega) (by omega)
    · have hi : i + 4 ≤ L := zroom4 (by omega) (by omega) hlt
      refine V_aload_n X dL_law_36 4 rfl ?_
      refine V_iload X dL_law_37 0 rfl ?_
      refine V_sld X hXs hb (vp_in_nI (by omega) (by omega)) dL_law_39 (V.topi (fun a0 _ => ?_))
      refine V_bipush (v := nI 31) X dL_law_40 (by decide) ?_
      refine V_iand X dL_law_42 ?_
      obtain ⟨c, hc, ec⟩ := zand31 a0
      rw [ec]
      rcases (show c = 0 ∨ c = 1 ∨ c = 2 ∨ c = 3 ∨ c = 4 ∨ c = 5 ∨ c = 6 ∨ c = 7 ∨ c = 8 ∨ c = 9 ∨ c = 10 ∨ c = 11 ∨ c = 12 ∨ c = 13 ∨ c = 14 ∨ c = 15 ∨ c = 16 ∨ c = 17 ∨ c = 18 ∨ c = 19 ∨ c = 20 ∨ c = 21 ∨ c = 22 ∨ c = 23 ∨ c = 24 ∨ c = 25 ∨ c = 26 ∨ c = 27 ∨ c = 28 ∨ c = 29 ∨ c = 30 ∨ c = 31 by omega) with rfl | rfl | rfl | rfl | rfl | rfl | rfl | rfl | rfl | rfl | rfl | rfl | rfl | rfl | rfl | rfl | rfl | rfl | rfl | rfl | rfl | rfl | rfl | rfl | rfl | rfl | rfl | rfl | rfl | rfl | rfl | rfl
      · refine V_tableIn (tgt := 152) X dL_law_43 (by decide) (by decide) rfl (by decide) ?_
        exact lc_0 Cx hi (by omega) (by omega) (done i ei hi) I
      · refine V_tableIn (tgt := 204) X dL_law_43 (by decide) (by decide) rfl (by decide) ?_
        exact lc_1 Cx hi (by omega) (by omega) (done i ei hi) I
      · refine V_tableIn (tgt := 256) X dL_law_43 (by decide) (by decide) rfl (by decide) ?_
        exact lc_2 Cx hi (by omega) (by omega) (done i ei hi) I
      · refine V_tableIn (tgt := 296) X dL_law_43 (by decide) (by decide) rfl (by decide) ?_
        exact lc_3 Cx hi (by omega) (by omega) (done i ei hi) I
      · refine V_tableIn (tgt := 336) X dL_law_43 (by decide) (by decide) rfl (by decide) ?_
        exact lc_4 Cx hi (by omega) (by omega) (done i ei hi) I
      · refine V_tableIn (tgt := 421) X dL_law_43 (by decide) (by decide) rfl (by decide) ?_
        exact lc_5 Cx hi (by omega) (by omega) (done i ei hi) I
      · refine V_tableIn (tgt := 473) X dL_law_43 (by decide) (by decide) rfl (by decide) ?_
        exact lc_6 Cx hi (by omega) (by omega) (done i ei hi) I
      · refine V_tableIn (tgt := 513) X dL_law_43 (by decide) (by decide) rfl (by decide) ?_
        exact lc_7 Cx hi (by omega) (by omega) (done i ei hi) I
      · refine V_tableIn (tgt := 553) X dL_law_43 (by decide) (by decide) rfl (by decide) ?_
        exact lc_8 Cx hi (by omega) (by omega) (done i ei hi) I
      · refine V_tableIn (tgt := 605) X dL_law_43 (by decide) (by decide) rfl (by decide) ?_
        exact lc_9 Cx hi (by omega) (by omega) (done i ei hi) I
      · refine V_tableIn (tgt := 633) X dL_law_43 (by decide) (by decide) rfl (by decide) ?_
        exact lc_10 Cx hi (by omega) (by omega) (done i ei hi) I
      · refine V_tableIn (tgt := 646) X dL_law_43 (by decide) (by decide) rfl (by decide) ?_
        exact lc_11 Cx hi (by omega) (by omega) (done i ei hi) I
      · refine V_tableIn (tgt := 686) X dL_law_43 (by decide) (by decide) rfl (by decide) ?_
        exact lc_12 Cx hi (by omega) (by omega) (done i ei hi) I
      · refine V_tableIn (tgt := 726) X dL_law_43 (by decide) (by decide) rfl (by decide) ?_
        exact lc_13 Cx hi (by omega) (by omega) (done i ei hi) I
      · refine V_tableIn (tgt := 766) X dL_law_43 (by decide) (by decide) rfl (by decide) ?_
        exact lc_14 Cx hi (by omega) (by omega) (done i ei hi) I
      · refine V_tableIn (tgt := 806) X dL_law_43 (by decide) (by decide) rfl (by decide) ?_
        exact lc_15 Cx hi (by omega) (by omega) (done i ei hi) I
      · refine V_tableIn (tgt := 846) X dL_law_43 (by decide) (by decide) rfl (by decide) ?_
        exact lc_16 Cx hi (by omega) (by omega) (done i ei hi) I
      · refine V_tableIn (tgt := 874) X dL_law_43 (by decide) (by decide) rfl (by decide) ?_
        exact lc_17 Cx hi (by omega) (by omega) (done i ei hi) I
      · refine V_tableIn (tgt := 887) X dL_law_43 (by decide) (by decide) rfl (by decide) ?_
        exact lc_18 Cx hi (by omega) (by omega) (done i ei hi) I
      · refine V_tableIn (tgt := 927) X dL_law_43 (by decide) (by decide) rfl (by decide) ?_
        exact lc_19 Cx hi (by omega) (by omega) (done i ei hi) I
      · refine V_tableIn (tgt := 955) X dL_law_43 (by decide) (by decide) rfl (by decide) ?_
        exact lc_20 Cx hi (by omega) (by omega) (done i ei hi) I
      · refine V_tableIn (tgt := 983) X dL_law_43 (by decide) (by decide) rfl (by decide) ?_
        exact lc_21 Cx hi (by omega) (by omega) (done i ei hi) I
      · refine V_tableIn (tgt := 1023) X dL_law_43 (by decide) (by decide) rfl (by decide) ?_
        exact lc_22 Cx hi (by omega) (by omega) (done i ei hi) I
      · refine V_tableIn (tgt := 1036) X dL_law_43 (by decide) (by decide) rfl (by decide) ?_
        exact lc_23 Cx hi (by omega) (by omega) (done i ei hi) I
      · refine V_tableOut (tgt := 1049) X dL_law_43 (by decide) (by decide) ?_
        exact V.widen (by omega) (by omega) (done i ei hi _ _ _ _ _ _ _ I)
      · refine V_tableOut (tgt := 1049) X dL_law_43 (by decide) (by decide) ?_
        exact V.widen (by omega) (by omega) (done i ei hi _ _ _ _ _ _ _ I)
      · refine V_tableOut (tgt := 1049) X dL_law_43 (by decide) (by decide) ?_
        exact V.widen (by omega) (by omega) (done i ei hi _ _ _ _ _ _ _ I)
      · refine V_tableOut (tgt := 1049) X dL_law_43 (by decide) (by decide) ?_
        exact V.widen (by omega) (by omega) (done i ei hi _ _ _ _ _ _ _ I)
      · refine V_tableOut (tgt := 1049) X dL_law_43 (by decide) (by decide) ?_
        exact V.widen (by omega) (by omega) (done i ei hi _ _ _ _ _ _ _ I)
      · refine V_tableOut (tgt := 1049) X dL_law_43 (by decide) (by decide) ?_
        exact V.widen (by omega) (by omega) (done i ei hi _ _ _ _ _ _ _ I)
      · refine V_tableOut (tgt := 1049) X dL_law_43 (by decide) (by decide) ?_
        exact V.widen (by omega) (by omega) (done i ei hi _ _ _ _ _ _ _ I)
      · refine V_tableOut (tgt := 1049) X dL_law_43 (by decide) (by decide) ?_
        exact V.widen (by omega) (by omega) (done i ei hi _ _ _ _ _ _ _ I)
  exact go _ rfl
