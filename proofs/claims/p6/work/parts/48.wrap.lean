/-! ===== the law's wrappers ===== -/
theorem cl_L_19 : Cond.classLink RL 19 RIAE ∈ zTBL := tb4 (j := 126) (by decide +kernel) rfl
theorem cs_RIAE : Cond.castable RIAE RIAE ∈ zNL := nb3 (j := 14) (by decide +kernel) rfl
theorem cl_L_21 : Cond.classLink RL 21 RISE ∈ zTBL := tb4 (j := 127) (by decide +kernel) rfl
theorem cs_RISE : Cond.castable RISE RISE ∈ zNL := nb4 (j := 137) (by decide +kernel) rfl
theorem cl_L_33 : Cond.classLink RL 33 RIOB ∈ zTBL := tb4 (j := 188) (by decide +kernel) rfl
theorem cs_RIOB : Cond.castable RIOB RIOB ∈ zNL := nb4 (j := 7) (by decide +kernel) rfl
theorem mw_L_part : zMW RL 90 yL_part cL_part 6 (some .int) [(0, 13, 16, 19), (0, 13, 20, 21)] 5 := ⟨tb4 (j := 125) (by decide +kernel) rfl, nz_L, by decide +kernel, tb4 (j := 123) (by decide +kernel) rfl⟩
theorem st_L_part : Cond.static yL_part ∈ zTBL := tb4 (j := 124) (by decide +kernel) rfl
set_option maxRecDepth 100000 in
set_option maxHeartbeats 4000000 in
theorem k_L_part {g : zG} {t : Nat × Nat} {X0 Oa : Nat} {σb : Nat → Option va_E} {F : Nat → Nat → Int32} {n0 : Int64} (hX : g.2.1.size ≤ X0) (hG : g.1.stackTraces = false) (hO : Oa < X0 ∨ X0 + 61 ≤ Oa) (gO : g.2.1.size ≤ Oa) {nP nS nA nC nT : Nat} (hI : cI nP nS nA nC nT F) (a1 a2 a3 : Int32) (hB : cBd nP nS nA F) (hC : cK F) : CtW g 45 yL_part cL_part 6 (some .int) [(0, 13, 16, 19), (0, 13, 20, 21)] 1 6 [.ref X0, .int a1, .int a2, .int a3, .ref Oa] (t, cW g X0 F (zup σb Oa (.inr (10, [.long n0])))) (qW g X0 σb Oa (fun x n' F' => zR2 x (zin 0 3 a1 ∧ zin 0 3 a2 ∧ zin 0 9 a3) (nP < 7) (cM F F') (n' = (nI nP).toInt64 ∧ cI (nP + 1) nS nA nC nT F' ∧ cM (fset (fset (fset (fset ((fset F 12 3 (nI 0))) 2 nP a1) 3 nP a2) 4 nP a3) 1 5 (nI (nP + 1))) F'))) := by
  refine CtW.of (lv := [(0, .ref X0), (1, .int a1), (2, .int a2), (3, .int a3), (4, .ref Oa)]) (by decide) (Nat.le_of_ble_eq_true rfl) rfl ?_
  intro κ X E
  have X : zX g κ RL cL_part 6 := X
  have H1 : ∀ (t' : Nat × Nat) (F' : Nat → Nat → Int32) (q : Nat), ¬ (zin 0 3 a1 ∧ zin 0 3 a2 ∧ zin 0 9 a3) → cM F F' → V g κ 6 (0 + 1) (0 + 6) (t', cW g X0 F' (zup σb Oa (.inr (10, [.long n0])))) 16 [(0, .ref X0), (1, .int a1), (2, .int a2), (3, .int a3), (4, .ref Oa)] [.ref q] := by
    intro t' F' q n1 hm
    refine V_astore X [(5, .ref q), (0, .ref X0), (1, .int a1), (2, .int a2), (3, .int a3), (4, .ref Oa)] dL_part_16 (by decide) rfl ?_
    refine V_iconst (v := nI 1) X dL_part_18 (by decide) ?_
    exact V_iretW X E (by omega) (by omega) ⟨_, rfl, _, _, _, rfl, Or.inl ⟨rfl, n1, hm⟩⟩ dL_part_19
  have H2 : ∀ (t' : Nat × Nat) (F' : Nat → Nat → Int32) (q : Nat), (zin 0 3 a1 ∧ zin 0 3 a2 ∧ zin 0 9 a3) → ¬ (nP < 7) → cM F F' → V g κ 6 (0 + 1) (0 + 6) (t', cW g X0 F' (zup σb Oa (.inr (10, [.long n0])))) 20 [(0, .ref X0), (1, .int a1), (2, .int a2), (3, .int a3), (4, .ref Oa)] [.ref q] := by
    intro t' F' q p1 n2 hm
    refine V_astore X [(5, .ref q), (0, .ref X0), (1, .int a1), (2, .int a2), (3, .int a3), (4, .ref Oa)] dL_part_20 (by decide) rfl ?_
    refine V_iconst (v := nI 2) X dL_part_22 (by decide) ?_
    exact V_iretW X E (by omega) (by omega) ⟨_, rfl, _, _, _, rfl, Or.inr (Or.inl ⟨rfl, p1, n2, hm⟩)⟩ dL_part_23
  refine V_aload X dL_part_0 4 rfl ?_
  refine V_aload_n X dL_part_2 0 rfl ?_
  refine V_iload_n X dL_part_3 1 rfl ?_
  refine V_iload_n X dL_part_4 2 rfl ?_
  refine V_iload_n X dL_part_5 3 rfl ?_
  refine V_callV (rest := [.ref Oa]) X E.room ml_L_7 in_X5_part (ci := 9) rfl se_X5_part (C_recv (q := 0) (by decide) rfl) (by decide) (by decide) (k_X5_part hX hI hG a1 a2 a3 hB hC) rfl rfl (Nat.le_of_ble_eq_true rfl) ⟨Nat.le_refl _, Nat.le_refl _⟩ dL_part_6 (fun Ex σ' h => ?_) (fun v9 σ' hp9 => ?_)
  · obtain ⟨hE, t', F', rfl, hm⟩ := h
    rcases hE with hE | hE
    · rcases hE with ⟨n, rfl⟩ | ⟨p0, ⟨n, rfl⟩ | ⟨p1, ⟨n, rfl⟩ | ⟨p2, ⟨n, rfl⟩ | ⟨p3, hE⟩⟩⟩⟩
      · exact VX_c1 X ⟨0, 13, 16, 19⟩ [⟨0, 13, 20, 21⟩] E.2.2.1 (by decide) (by decide) cl_L_19 cs_RIAE (fun q => H1 t' F' q (fun z => n z.1) hm)
      · exact VX_c1 X ⟨0, 13, 16, 19⟩ [⟨0, 13, 20, 21⟩] E.2.2.1 (by decide) (by decide) cl_L_19 cs_RIAE (fun q => H1 t' F' q (fun z => n z.2.1) hm)
      · exact VX_c1 X ⟨0, 13, 16, 19⟩ [⟨0, 13, 20, 21⟩] E.2.2.1 (by decide) (by decide) cl_L_19 cs_RIAE (fun q => H1 t' F' q (fun z => n z.2.2) hm)
      · exact VX_c3 X ⟨0, 13, 16, 19⟩ ⟨0, 13, 20, 21⟩ [] E.2.2.1 (by decide) (by decide) (by decide) cl_L_19 cl_L_21 (zNcE X).1 cs_RISE (fun q => H2 t' F' q ⟨p0, p1, p2⟩ (fun z => n z) hm)
      · exact False.elim hE
    · exact False.elim hE
  · obtain ⟨rfl, hg1, hg2, F', rfl, hI', hz⟩ := hp9
    refine V_i2l X dL_part_9 ?_
    refine V_putf X fl_L_13 zt_X6 ((cW_out hO).trans zup_eq) gO (Nat.le_of_ble_eq_true rfl) rfl (ty := .long) rfl rfl rfl dL_part_10 ?_
    refine V.so (σ' := (t, cW g X0 F' (zup σb Oa (.inr (10, [.long _]))))) (congrArg (Prod.mk _) (by show zup (cW g X0 F' (zup _ _ _)) _ _ = _; rw [cW_zup hO, zup_zup]; rfl)) ?_
    refine V_goto (tgt := 24) X dL_part_13 (by decide) ?_
    refine V_iconst (v := nI 0) X dL_part_24 (by decide) ?_
    exact V_iretW X E (by omega) (by omega) ⟨_, rfl, _, _, _, rfl, Or.inr (Or.inr ⟨rfl, hg1, hg2, rfl, hI', hz⟩)⟩ dL_part_25
theorem mw_L_player : zMW RL 96 yL_player cL_player 6 (some .int) [(0, 13, 16, 19), (0, 13, 20, 21)] 5 := ⟨tb4 (j := 161) (by decide +kernel) rfl, nz_L, by decide +kernel, tb4 (j := 159) (by decide +kernel) rfl⟩
theorem st_L_player : Cond.static yL_player ∈ zTBL := tb4 (j := 160) (by decide +kernel) rfl
set_option maxRecDepth 100000 in
set_option maxHeartbeats 4000000 in
theorem k_L_player {g : zG} {t : Nat × Nat} {X0 Oa : Nat} {σb : Nat → Option va_E} {F : Nat → Nat → Int32} {n0 : Int64} (hX : g.2.1.size ≤ X0) (hG : g.1.stackTraces = false) (hO : Oa < X0 ∨ X0 + 61 ≤ Oa) (gO : g.2.1.size ≤ Oa) {nP nS nA nC nT : Nat} (hI : cI nP nS nA nC nT F) (a1 a2 a3 : Int32) (hB : cBd nP nS nA F) (hC : cK F) : CtW g 45 yL_player cL_player 6 (some .int) [(0, 13, 16, 19), (0, 13, 20, 21)] 1 6 [.ref X0, .int a1, .int a2, .int a3, .ref Oa] (t, cW g X0 F (zup σb Oa (.inr (10, [.long n0])))) (qW g X0 σb Oa (fun x n' F' => zR2 x (zlt (2 ^ 4) a1 ∧ zin 1 9 a2 ∧ zin 1 5 a3) (nA < 5) (cM F F') (n' = (nI nA).toInt64 ∧ cI nP nS (nA + 1) nC nT F' ∧ cM (fset (fset (fset (fset ((fset F 12 3 (nI 0))) 8 nA a1) 9 nA a2) 10 nA a3) 7 4 (nI (nA + 1))) F'))) := by
  refine CtW.of (lv := [(0, .ref X0), (1, .int a1), (2, .int a2), (3, .int a3), (4, .ref Oa)]) (by decide) (Nat.le_of_ble_eq_true rfl) rfl ?_
  intro κ X E
  have X : zX g κ RL cL_player 6 := X
  have H1 : ∀ (t' : Nat × Nat) (F' : Nat → Nat → Int32) (q : Nat), ¬ (zlt (2 ^ 4) a1 ∧ zin 1 9 a2 ∧ zin 1 5 a3) → cM F F' → V g κ 6 (0 + 1) (0 + 6) (t', cW g X0 F' (zup σb Oa (.inr (10, [.long n0])))) 16 [(0, .ref X0), (1, .int a1), (2, .int a2), (3, .int a3), (4, .ref Oa)] [.ref q] := by
    intro t' F' q n1 hm
    refine V_astore X [(5, .ref q), (0, .ref X0), (1, .int a1), (2, .int a2), (3, .int a3), (4, .ref Oa)] dL_player_16 (by decide) rfl ?_
    refine V_iconst (v := nI 1) X dL_player_18 (by decide) ?_
    exact V_iretW X E (by omega) (by omega) ⟨_, rfl, _, _, _, rfl, Or.inl ⟨rfl, n1, hm⟩⟩ dL_player_19
  have H2 : ∀ (t' : Nat × Nat) (F' : Nat → Nat → Int32) (q : Nat), (zlt (2 ^ 4) a1 ∧ zin 1 9 a2 ∧ zin 1 5 a3) → ¬ (nA < 5) → cM F F' → V g κ 6 (0 + 1) (0 + 6) (t', cW g X0 F' (zup σb Oa (.inr (10, [.long n0])))) 20 [(0, .ref X0), (1, .int a1), (2, .int a2), (3, .int a3), (4, .ref Oa)] [.ref q] := by
    intro t' F' q p1 n2 hm
    refine V_astore X [(5, .ref q), (0, .ref X0), (1, .int a1), (2, .int a2), (3, .int a3), (4, .ref Oa)] dL_player_20 (by decide) rfl ?_
    refine V_iconst (v := nI 2) X dL_player_22 (by decide) ?_
    exact V_iretW X E (by omega) (by omega) ⟨_, rfl, _, _, _, rfl, Or.inr (Or.inl ⟨rfl, p1, n2, hm⟩)⟩ dL_player_23
  refine V_aload X dL_player_0 4 rfl ?_
  refine V_aload_n X dL_player_2 0 rfl ?_
  refine V_iload_n X dL_player_3 1 rfl ?_
  refine V_iload_n X dL_player_4 2 rfl ?_
  refine V_iload_n X dL_player_5 3 rfl ?_
  refine V_callV (rest := [.ref Oa]) X E.room ml_L_23 in_X5_player (ci := 9) rfl se_X5_player (C_recv (q := 0) (by decide) rfl) (by decide) (by decide) (k_X5_player hX hI hG a1 a2 a3 hB hC) rfl rfl (Nat.le_of_ble_eq_true rfl) ⟨Nat.le_refl _, Nat.le_refl _⟩ dL_player_6 (fun Ex σ' h => ?_) (fun v9 σ' hp9 => ?_)
  · obtain ⟨hE, t', F', rfl, hm⟩ := h
    rcases hE with hE | hE
    · rcases hE with ⟨n, rfl⟩ | ⟨p0, ⟨n, rfl⟩ | ⟨p1, ⟨n, rfl⟩ | ⟨p2, ⟨n, rfl⟩ | ⟨p3, hE⟩⟩⟩⟩
      · exact VX_c1 X ⟨0, 13, 16, 19⟩ [⟨0, 13, 20, 21⟩] E.2.2.1 (by decide) (by decide) cl_L_19 cs_RIAE (fun q => H1 t' F' q (fun z => n z.1) hm)
      · exact VX_c1 X ⟨0, 13, 16, 19⟩ [⟨0, 13, 20, 21⟩] E.2.2.1 (by decide) (by decide) cl_L_19 cs_RIAE (fun q => H1 t' F' q (fun z => n z.2.1) hm)
      · exact VX_c1 X ⟨0, 13, 16, 19⟩ [⟨0, 13, 20, 21⟩] E.2.2.1 (by decide) (by decide) cl_L_19 cs_RIAE (fun q => H1 t' F' q (fun z => n z.2.2) hm)
      · exact VX_c3 X ⟨0, 13, 16, 19⟩ ⟨0, 13, 20, 21⟩ [] E.2.2.1 (by decide) (by decide) (by decide) cl_L_19 cl_L_21 (zNcE X).1 cs_RISE (fun q => H2 t' F' q ⟨p0, p1, p2⟩ (fun z => n z) hm)
      · exact False.elim hE
    · exact False.elim hE
  · obtain ⟨rfl, hg1, hg2, F', rfl, hI', hz⟩ := hp9
    refine V_i2l X dL_player_9 ?_
    refine V_putf X fl_L_13 zt_X6 ((cW_out hO).trans zup_eq) gO (Nat.le_of_ble_eq_true rfl) rfl (ty := .long) rfl rfl rfl dL_player_10 ?_
    refine V.so (σ' := (t, cW g X0 F' (zup σb Oa (.inr (10, [.long _]))))) (congrArg (Prod.mk _) (by show zup (cW g X0 F' (zup _ _ _)) _ _ = _; rw [cW_zup hO, zup_zup]; rfl)) ?_
    refine V_goto (tgt := 24) X dL_player_13 (by decide) ?_
    refine V_iconst (v := nI 0) X dL_player_24 (by decide) ?_
    exact V_iretW X E (by omega) (by omega) ⟨_, rfl, _, _, _, rfl, Or.inr (Or.inr ⟨rfl, hg1, hg2, rfl, hI', hz⟩)⟩ dL_player_25
theorem mw_L_scene : zMW RL 99 yL_scene cL_scene 5 (some .int) [(0, 11, 14, 19), (0, 11, 18, 21)] 4 := ⟨tb4 (j := 176) (by decide +kernel) rfl, nz_L, by decide +kernel, tb4 (j := 174) (by decide +kernel) rfl⟩
theorem st_L_scene : Cond.static yL_scene ∈ zTBL := tb4 (j := 175) (by decide +kernel) rfl
set_option maxRecDepth 100000 in
set_option maxHeartbeats 4000000 in
theorem k_L_scene {g : zG} {t : Nat × Nat} {X0 Oa : Nat} {σb : Nat → Option va_E} {F : Nat → Nat → Int32} {n0 : Int64} (hX : g.2.1.size ≤ X0) (hG : g.1.stackTraces = false) (hO : Oa < X0 ∨ X0 + 61 ≤ Oa) (gO : g.2.1.size ≤ Oa) {nP nS nA nC nT : Nat} (hI : cI nP nS nA nC nT F) (a1 a2 : Int32) (hB : cBd nP nS nA F) (hC : cK F) : CtW g 45 yL_scene cL_scene 5 (some .int) [(0, 11, 14, 19), (0, 11, 18, 21)] 1 6 [.ref X0, .int a1, .int a2, .ref Oa] (t, cW g X0 F (zup σb Oa (.inr (10, [.long n0])))) (qW g X0 σb Oa (fun x n' F' => zR2 x (zlt (2 ^ nP) a1 ∧ zin 1 127 a1 ∧ zin 0 9 a2) (nS < 6) (cM F F') (n' = (nI nS).toInt64 ∧ cI nP (nS + 1) nA nC nT F' ∧ cM (fset (fset (fset ((fset F 12 3 (nI 0))) 5 nS a1) 6 nS a2) 1 6 (nI (nS + 1))) F'))) := by
  refine CtW.of (lv := [(0, .ref X0), (1, .int a1), (2, .int a2), (3, .ref Oa)]) (by decide) (Nat.le_of_ble_eq_true rfl) rfl ?_
  intro κ X E
  have X : zX g κ RL cL_scene 5 := X
  have H1 : ∀ (t' : Nat × Nat) (F' : Nat → Nat → Int32) (q : Nat), ¬ (zlt (2 ^ nP) a1 ∧ zin 1 127 a1 ∧ zin 0 9 a2) → cM F F' → V g κ 5 (0 + 1) (0 + 6) (t', cW g X0 F' (zup σb Oa (.inr (10, [.long n0])))) 14 [(0, .ref X0), (1, .int a1), (2, .int a2), (3, .ref Oa)] [.ref q] := by
    intro t' F' q n1 hm
    refine V_astore X [(4, .ref q), (0, .ref X0), (1, .int a1), (2, .int a2), (3, .ref Oa)] dL_scene_14 (by decide) rfl ?_
    refine V_iconst (v := nI 1) X dL_scene_16 (by decide) ?_
    exact V_iretW X E (by omega) (by omega) ⟨_, rfl, _, _, _, rfl, Or.inl ⟨rfl, n1, hm⟩⟩ dL_scene_17
  have H2 : ∀ (t' : Nat × Nat) (F' : Nat → Nat → Int32) (q : Nat), (zlt (2 ^ nP) a1 ∧ zin 1 127 a1 ∧ zin 0 9 a2) → ¬ (nS < 6) → cM F F' → V g κ 5 (0 + 1) (0 + 6) (t', cW g X0 F' (zup σb Oa (.inr (10, [.long n0])))) 18 [(0, .ref X0), (1, .int a1), (2, .int a2), (3, .ref Oa)] [.ref q] := by
    intro t' F' q p1 n2 hm
    refine V_astore X [(4, .ref q), (0, .ref X0), (1, .int a1), (2, .int a2), (3, .ref Oa)] dL_scene_18 (by decide) rfl ?_
    refine V_iconst (v := nI 2) X dL_scene_20 (by decide) ?_
    exact V_iretW X E (by omega) (by omega) ⟨_, rfl, _, _, _, rfl, Or.inr (Or.inl ⟨rfl, p1, n2, hm⟩)⟩ dL_scene_21
  refine V_aload_n X dL_scene_0 3 rfl ?_
  refine V_aload_n X dL_scene_1 0 rfl ?_
  refine V_iload_n X dL_scene_2 1 rfl ?_
  refine V_iload_n X dL_scene_3 2 rfl ?_
  refine V_callV (rest := [.ref Oa]) X E.room ml_L_26 in_X5_scene (ci := 9) rfl se_X5_scene (C_recv (q := 0) (by decide) rfl) (by decide) (by decide) (k_X5_scene hX hI hG a1 a2 hB hC) rfl rfl (Nat.le_of_ble_eq_true rfl) ⟨Nat.le_refl _, Nat.le_refl _⟩ dL_scene_4 (fun Ex σ' h => ?_) (fun v9 σ' hp9 => ?_)
  · obtain ⟨hE, t', F', rfl, hm⟩ := h
    rcases hE with hE | hE
    · rcases hE with ⟨n, rfl⟩ | ⟨p0, ⟨n, rfl⟩ | ⟨p1, ⟨n, rfl⟩ | ⟨p2, ⟨n, rfl⟩ | ⟨p3, hE⟩⟩⟩⟩
      · exact VX_c1 X ⟨0, 11, 14, 19⟩ [⟨0, 11, 18, 21⟩] E.2.2.1 (by decide) (by decide) cl_L_19 cs_RIAE (fun q => H1 t' F' q (fun z => n z.1) hm)
      · exact VX_c1 X ⟨0, 11, 14, 19⟩ [⟨0, 11, 18, 21⟩] E.2.2.1 (by decide) (by decide) cl_L_19 cs_RIAE (fun q => H1 t' F' q (fun z => n z.2.1) hm)
      · exact VX_c1 X ⟨0, 11, 14, 19⟩ [⟨0, 11, 18, 21⟩] E.2.2.1 (by decide) (by decide) cl_L_19 cs_RIAE (fun q => H1 t' F' q (fun z => n z.2.2) hm)
      · exact VX_c3 X ⟨0, 11, 14, 19⟩ ⟨0, 11, 18, 21⟩ [] E.2.2.1 (by decide) (by decide) (by decide) cl_L_19 cl_L_21 (zNcE X).1 cs_RISE (fun q => H2 t' F' q ⟨p0, p1, p2⟩ (fun z => n z) hm)
      · exact False.elim hE
    · exact False.elim hE
  · obtain ⟨rfl, hg1, hg2, F', rfl, hI', hz⟩ := hp9
    refine V_i2l X dL_scene_7 ?_
    refine V_putf X fl_L_13 zt_X6 ((cW_out hO).trans zup_eq) gO (Nat.le_of_ble_eq_true rfl) rfl (ty := .long) rfl rfl rfl dL_scene_8 ?_
    refine V.so (σ' := (t, cW g X0 F' (zup σb Oa (.inr (10, [.long _]))))) (congrArg (Prod.mk _) (by show zup (cW g X0 F' (zup _ _ _)) _ _ = _; rw [cW_zup hO, zup_zup]; rfl)) ?_
    refine V_goto (tgt := 22) X dL_scene_11 (by decide) ?_
    refine V_iconst (v := nI 0) X dL_scene_22 (by decide) ?_
    exact V_iretW X E (by omega) (by omega) ⟨_, rfl, _, _, _, rfl, Or.inr (Or.inr ⟨rfl, hg1, hg2, rfl, hI', hz⟩)⟩ dL_scene_23
theorem mw_L_pause : zMW RL 103 yL_pause cL_pause 5 (some .int) [(0, 11, 14, 33), (0, 11, 18, 19)] 4 := ⟨tb4 (j := 187) (by decide +kernel) rfl, nz_L, by decide +kernel, tb4 (j := 185) (by decide +kernel) rfl⟩
theorem st_L_pause : Cond.static yL_pause ∈ zTBL := tb4 (j := 186) (by decide +kernel) rfl
set_option maxRecDepth 100000 in
set_option maxHeartbeats 4000000 in
theorem k_L_pause {g : zG} {t : Nat × Nat} {X0 Oa : Nat} {σb : Nat → Option va_E} {F : Nat → Nat → Int32} {n0 : Int64} (hX : g.2.1.size ≤ X0) (hG : g.1.stackTraces = false) (hO : Oa < X0 ∨ X0 + 61 ≤ Oa) (gO : g.2.1.size ≤ Oa) {nP nS nA nC nT : Nat} (hI : cI nP nS nA nC nT F) (a1 a2 : Int32) (hB : cBd nP nS nA F) (hC : cK F) : CtW g 45 yL_pause cL_pause 5 (some .int) [(0, 11, 14, 33), (0, 11, 18, 19)] 1 6 [.ref X0, .int a1, .int a2, .ref Oa] (t, cW g X0 F (zup σb Oa (.inr (10, [.long n0])))) (qW g X0 σb Oa (fun x n' F' => zR2 x (zlt nS a1) (zin 0 9 a2) (cM F F') (∃ s : Nat, a1 = nI s ∧ s < nS ∧ n' = (F 6 s).toInt64 ∧ cM (fset (fset F 12 3 (nI 0)) 6 s a2) F'))) := by
  refine CtW.of (lv := [(0, .ref X0), (1, .int a1), (2, .int a2), (3, .ref Oa)]) (by decide) (Nat.le_of_ble_eq_true rfl) rfl ?_
  intro κ X E
  have X : zX g κ RL cL_pause 5 := X
  have H1 : ∀ (t' : Nat × Nat) (F' : Nat → Nat → Int32) (q : Nat), ¬ (zlt nS a1) → cM F F' → V g κ 5 (0 + 1) (0 + 6) (t', cW g X0 F' (zup σb Oa (.inr (10, [.long n0])))) 14 [(0, .ref X0), (1, .int a1), (2, .int a2), (3, .ref Oa)] [.ref q] := by
    intro t' F' q n1 hm
    refine V_astore X [(4, .ref q), (0, .ref X0), (1, .int a1), (2, .int a2), (3, .ref Oa)] dL_pause_14 (by decide) rfl ?_
    refine V_iconst (v := nI 1) X dL_pause_16 (by decide) ?_
    exact V_iretW X E (by omega) (by omega) ⟨_, rfl, _, _, _, rfl, Or.inl ⟨rfl, n1, hm⟩⟩ dL_pause_17
  have H2 : ∀ (t' : Nat × Nat) (F' : Nat → Nat → Int32) (q : Nat), (zlt nS a1) → ¬ (zin 0 9 a2) → cM F F' → V g κ 5 (0 + 1) (0 + 6) (t', cW g X0 F' (zup σb Oa (.inr (10, [.long n0])))) 18 [(0, .ref X0), (1, .int a1), (2, .int a2), (3, .ref Oa)] [.ref q] := by
    intro t' F' q p1 n2 hm
    refine V_astore X [(4, .ref q), (0, .ref X0), (1, .int a1), (2, .int a2), (3, .ref Oa)] dL_pause_18 (by decide) rfl ?_
    refine V_iconst (v := nI 2) X dL_pause_20 (by decide) ?_
    exact V_iretW X E (by omega) (by omega) ⟨_, rfl, _, _, _, rfl, Or.inr (Or.inl ⟨rfl, p1, n2, hm⟩)⟩ dL_pause_21
  refine V_aload_n X dL_pause_0 3 rfl ?_
  refine V_aload_n X dL_pause_1 0 rfl ?_
  refine V_iload_n X dL_pause_2 1 rfl ?_
  refine V_iload_n X dL_pause_3 2 rfl ?_
  refine V_callV (rest := [.ref Oa]) X E.room ml_L_30 in_X5_pause (ci := 9) rfl se_X5_pause (C_recv (q := 0) (by decide) rfl) (by decide) (by decide) (k_X5_pause hX hI hG a1 a2 hB hC) rfl rfl (Nat.le_of_ble_eq_true rfl) ⟨Nat.le_refl _, Nat.le_refl _⟩ dL_pause_4 (fun Ex σ' h => ?_) (fun v9 σ' hp9 => ?_)
  · obtain ⟨hE, t', F', rfl, hm⟩ := h
    rcases hE with hE | hE
    · rcases hE with ⟨n, rfl⟩ | ⟨p0, ⟨n, rfl⟩ | ⟨p1, hE⟩⟩
      · exact VX_c1 X ⟨0, 11, 14, 33⟩ [⟨0, 11, 18, 19⟩] E.2.2.1 (by decide) (by decide) cl_L_33 cs_RIOB (fun q => H1 t' F' q (fun z => n z) hm)
      · exact VX_c3 X ⟨0, 11, 14, 33⟩ ⟨0, 11, 18, 19⟩ [] E.2.2.1 (by decide) (by decide) (by decide) cl_L_33 cl_L_19 (zNcE X).2.1 cs_RIAE (fun q => H2 t' F' q p0 (fun z => n z) hm)
      · exact False.elim hE
    · exact False.elim hE
  · obtain ⟨s9, e9, l9, z9, rfl, F', rfl, hz⟩ := hp9
    refine V_i2l X dL_pause_7 ?_
    refine V_putf X fl_L_13 zt_X6 ((cW_out hO).trans zup_eq) gO (Nat.le_of_ble_eq_true rfl) rfl (ty := .long) rfl rfl rfl dL_pause_8 ?_
    refine V.so (σ' := (t, cW g X0 F' (zup σb Oa (.inr (10, [.long _]))))) (congrArg (Prod.mk _) (by show zup (cW g X0 F' (zup _ _ _)) _ _ = _; rw [cW_zup hO, zup_zup]; rfl)) ?_
    refine V_goto (tgt := 22) X dL_pause_11 (by decide) ?_
    refine V_iconst (v := nI 0) X dL_pause_22 (by decide) ?_
    exact V_iretW X E (by omega) (by omega) ⟨_, rfl, _, _, _, rfl, Or.inr (Or.inr ⟨rfl, ⟨s9, e9, l9⟩, z9, s9, e9, l9, rfl, hz⟩)⟩ dL_pause_23
theorem mw_L_sick : zMW RL 106 yL_sick cL_sick 5 (some .int) [(0, 11, 14, 33)] 4 := ⟨tb4 (j := 195) (by decide +kernel) rfl, nz_L, by decide +kernel, tb4 (j := 193) (by decide +kernel) rfl⟩
theorem st_L_sick : Cond.static yL_sick ∈ zTBL := tb4 (j := 194) (by decide +kernel) rfl
set_option maxRecDepth 100000 in
set_option maxHeartbeats 4000000 in
theorem k_L_sick {g : zG} {t : Nat × Nat} {X0 Oa : Nat} {σb : Nat → Option va_E} {F : Nat → Nat → Int32} {n0 : Int64} (hX : g.2.1.size ≤ X0) (hG : g.1.stackTraces = false) (hO : Oa < X0 ∨ X0 + 61 ≤ Oa) (gO : g.2.1.size ≤ Oa) {nP nS nA nC nT : Nat} (hI : cI nP nS nA nC nT F) (a1 a2 : Int32) (hB : cBd nP nS nA F) (hC : cK F) : CtW g 45 yL_sick cL_sick 5 (some .int) [(0, 11, 14, 33)] 1 6 [.ref X0, .int a1, .int a2, .ref Oa] (t, cW g X0 F (zup σb Oa (.inr (10, [.long n0])))) (qW g X0 σb Oa (fun x n' F' => zR2 x (zlt nA a1) (True) (cM F F') (∃ p : Nat, a1 = nI p ∧ p < nA ∧ n' = (nI nA - zbc (F' 7 5)).toInt64 ∧ cM (fset (fset F 12 3 (nI 0)) 7 5 (zsk (F 7 5) p a2)) F'))) := by
  refine CtW.of (lv := [(0, .ref X0), (1, .int a1), (2, .int a2), (3, .ref Oa)]) (by decide) (Nat.le_of_ble_eq_true rfl) rfl ?_
  intro κ X E
  have X : zX g κ RL cL_sick 5 := X
  have H1 : ∀ (t' : Nat × Nat) (F' : Nat → Nat → Int32) (q : Nat), ¬ (zlt nA a1) → cM F F' → V g κ 5 (0 + 1) (0 + 6) (t', cW g X0 F' (zup σb Oa (.inr (10, [.long n0])))) 14 [(0, .ref X0), (1, .int a1), (2, .int a2), (3, .ref Oa)] [.ref q] := by
    intro t' F' q n1 hm
    refine V_astore X [(4, .ref q), (0, .ref X0), (1, .int a1), (2, .int a2), (3, .ref Oa)] dL_sick_14 (by decide) rfl ?_
    refine V_iconst (v := nI 1) X dL_sick_16 (by decide) ?_
    exact V_iretW X E (by omega) (by omega) ⟨_, rfl, _, _, _, rfl, Or.inl ⟨rfl, n1, hm⟩⟩ dL_sick_17
  refine V_aload_n X dL_sick_0 3 rfl ?_
  refine V_aload_n X dL_sick_1 0 rfl ?_
  refine V_iload_n X dL_sick_2 1 rfl ?_
  refine V_iload_n X dL_sick_3 2 rfl ?_
  refine V_callV (rest := [.ref Oa]) X E.room ml_L_35 in_X5_sick (ci := 9) rfl se_X5_sick (C_recv (q := 0) (by decide) rfl) (by decide) (by decide) (k_X5_sick hX hI hG a1 a2 hB hC) rfl rfl (Nat.le_of_ble_eq_true rfl) ⟨Nat.le_refl _, Nat.le_refl _⟩ dL_sick_4 (fun Ex σ' h => ?_) (fun v9 σ' hp9 => ?_)
  · obtain ⟨hE, t', F', rfl, hm⟩ := h
    rcases hE with hE | hE
    · rcases hE with ⟨n, rfl⟩ | ⟨p0, hE⟩
      · exact VX_c1 X ⟨0, 11, 14, 33⟩ [] E.2.2.1 (by decide) (by decide) cl_L_33 cs_RIOB (fun q => H1 t' F' q (fun z => n z) hm)
      · exact False.elim hE
    · exact False.elim hE
  · obtain ⟨s9, e9, l9, F', rfl, rfl, hz⟩ := hp9
    refine V_i2l X dL_sick_7 ?_
    refine V_putf X fl_L_13 zt_X6 ((cW_out hO).trans zup_eq) gO (Nat.le_of_ble_eq_true rfl) rfl (ty := .long) rfl rfl rfl dL_sick_8 ?_
    refine V.so (σ' := (t, cW g X0 F' (zup σb Oa (.inr (10, [.long _]))))) (congrArg (Prod.mk _) (by show zup (cW g X0 F' (zup _ _ _)) _ _ = _; rw [cW_zup hO, zup_zup]; rfl)) ?_
    refine V_goto (tgt := 18) X dL_sick_11 (by decide) ?_
    refine V_iconst (v := nI 0) X dL_sick_18 (by decide) ?_
    exact V_iretW X E (by omega) (by omega) ⟨_, rfl, _, _, _, rfl, Or.inr (Or.inr ⟨rfl, ⟨s9, e9, l9⟩, trivial, s9, e9, l9, rfl, hz⟩)⟩ dL_sick_19
theorem mw_L_coat : zMW RL 114 yL_coat cL_coat 6 (some .int) [(0, 13, 16, 19), (0, 13, 20, 21)] 5 := ⟨tb4 (j := 202) (by decide +kernel) rfl, nz_L, by decide +kernel, tb4 (j := 200) (by decide +kernel) rfl⟩
theorem st_L_coat : Cond.static yL_coat ∈ zTBL := tb4 (j := 201) (by decide +kernel) rfl
set_option maxRecDepth 100000 in
set_option maxHeartbeats 4000000 in
theorem k_L_coat {g : zG} {t : Nat × Nat} {X0 Oa : Nat} {σb : Nat → Option va_E} {F : Nat → Nat → Int32} {n0 : Int64} (hX : g.2.1.size ≤ X0) (hG : g.1.stackTraces = false) (hO : Oa < X0 ∨ X0 + 61 ≤ Oa) (gO : g.2.1.size ≤ Oa) {nP nS nA nC nT : Nat} (hI : cI nP nS nA nC nT F) (a1 a2 a3 : Int32) (hB : cBd nP nS nA F) (hC : cK F) : CtW g 45 yL_coat cL_coat 6 (some .int) [(0, 13, 16, 19), (0, 13, 20, 21)] 1 6 [.ref X0, .int a1, .int a2, .int a3, .ref Oa] (t, cW g X0 F (zup σb Oa (.inr (10, [.long n0])))) (qW g X0 σb Oa (fun x n' F' => zR2 x (zin 0 3 a1 ∧ zin 1 9 a2 ∧ zin 1 99 a3) (nC < 6) (cM F F') (n' = (nI nC).toInt64 ∧ cI nP nS nA (nC + 1) nT F' ∧ cM (fset (fset (fset (fset F 19 nC a1) 20 nC a2) 21 nC a3) 18 3 (nI (nC + 1))) F'))) := by
  refine CtW.of (lv := [(0, .ref X0), (1, .int a1), (2, .int a2), (3, .int a3), (4, .ref Oa)]) (by decide) (Nat.le_of_ble_eq_true rfl) rfl ?_
  intro κ X E
  have X : zX g κ RL cL_coat 6 := X
  have H1 : ∀ (t' : Nat × Nat) (F' : Nat → Nat → Int32) (q : Nat), ¬ (zin 0 3 a1 ∧ zin 1 9 a2 ∧ zin 1 99 a3) → cM F F' → V g κ 6 (0 + 1) (0 + 6) (t', cW g X0 F' (zup σb Oa (.inr (10, [.long n0])))) 16 [(0, .ref X0), (1, .int a1), (2, .int a2), (3, .int a3), (4, .ref Oa)] [.ref q] := by
    intro t' F' q n1 hm
    refine V_astore X [(5, .ref q), (0, .ref X0), (1, .int a1), (2, .int a2), (3, .int a3), (4, .ref Oa)] dL_coat_16 (by decide) rfl ?_
    refine V_iconst (v := nI 1) X dL_coat_18 (by decide) ?_
    exact V_iretW X E (by omega) (by omega) ⟨_, rfl, _, _, _, rfl, Or.inl ⟨rfl, n1, hm⟩⟩ dL_coat_19
  have H2 : ∀ (t' : Nat × Nat) (F' : Nat → Nat → Int32) (q : Nat), (zin 0 3 a1 ∧ zin 1 9 a2 ∧ zin 1 99 a3) → ¬ (nC < 6) → cM F F' → V g κ 6 (0 + 1) (0 + 6) (t', cW g X0 F' (zup σb Oa (.inr (10, [.long n0])))) 20 [(0, .ref X0), (1, .int a1), (2, .int a2), (3, .int a3), (4, .ref Oa)] [.ref q] := by
    intro t' F' q p1 n2 hm
    refine V_astore X [(5, .ref q), (0, .ref X0), (1, .int a1), (2, .int a2), (3, .int a3), (4, .ref Oa)] dL_coat_20 (by decide) rfl ?_
    refine V_iconst (v := nI 2) X dL_coat_22 (by decide) ?_
    exact V_iretW X E (by omega) (by omega) ⟨_, rfl, _, _, _, rfl, Or.inr (Or.inl ⟨rfl, p1, n2, hm⟩)⟩ dL_coat_23
  refine V_aload X dL_coat_0 4 rfl ?_
  refine V_aload_n X dL_coat_2 0 rfl ?_
  refine V_iload_n X dL_coat_3 1 rfl ?_
  refine V_iload_n X dL_coat_4 2 rfl ?_
  refine V_iload_n X dL_coat_5 3 rfl ?_
  refine V_callV (rest := [.ref Oa]) X E.room ml_L_39 in_X5_coat (ci := 9) rfl se_X5_coat (C_recv (q := 0) (by decide) rfl) (by decide) (by decide) (k_X5_coat hX hI hG a1 a2 a3 hB hC) rfl rfl (Nat.le_of_ble_eq_true rfl) ⟨Nat.le_refl _, Nat.le_refl _⟩ dL_coat_6 (fun Ex σ' h => ?_) (fun v9 σ' hp9 => ?_)
  · obtain ⟨hE, t', F', rfl, hm⟩ := h
    rcases hE with hE | hE
    · rcases hE with ⟨n, rfl⟩ | ⟨p0, ⟨n, rfl⟩ | ⟨p1, ⟨n, rfl⟩ | ⟨p2, ⟨n, rfl⟩ | ⟨p3, hE⟩⟩⟩⟩
      · exact VX_c1 X ⟨0, 13, 16, 19⟩ [⟨0, 13, 20, 21⟩] E.2.2.1 (by decide) (by decide) cl_L_19 cs_RIAE (fun q => H1 t' F' q (fun z => n z.1) hm)
      · exact VX_c1 X ⟨0, 13, 16, 19⟩ [⟨0, 13, 20, 21⟩] E.2.2.1 (by decide) (by decide) cl_L_19 cs_RIAE (fun q => H1 t' F' q (fun z => n z.2.1) hm)
      · exact VX_c1 X ⟨0, 13, 16, 19⟩ [⟨0, 13, 20, 21⟩] E.2.2.1 (by decide) (by decide) cl_L_19 cs_RIAE (fun q => H1 t' F' q (fun z => n z.2.2) hm)
      · exact VX_c3 X ⟨0, 13, 16, 19⟩ ⟨0, 13, 20, 21⟩ [] E.2.2.1 (by decide) (by decide) (by decide) cl_L_19 cl_L_21 (zNcE X).1 cs_RISE (fun q => H2 t' F' q ⟨p0, p1, p2⟩ (fun z => n z) hm)
      · exact False.elim hE
    · exact False.elim hE
  · obtain ⟨rfl, hg1, hg2, F', rfl, hI', hz⟩ := hp9
    refine V_i2l X dL_coat_9 ?_
    refine V_putf X fl_L_13 zt_X6 ((cW_out hO).trans zup_eq) gO (Nat.le_of_ble_eq_true rfl) rfl (ty := .long) rfl rfl rfl dL_coat_10 ?_
    refine V.so (σ' := (t, cW g X0 F' (zup σb Oa (.inr (10, [.long _]))))) (congrArg (Prod.mk _) (by show zup (cW g X0 F' (zup _ _ _)) _ _ = _; rw [cW_zup hO, zup_zup]; rfl)) ?_
    refine V_goto (tgt := 24) X dL_coat_13 (by decide) ?_
    refine V_iconst (v := nI 0) X dL_coat_24 (by decide) ?_
    exact V_iretW X E (by omega) (by omega) ⟨_, rfl, _, _, _, rfl, Or.inr (Or.inr ⟨rfl, hg1, hg2, rfl, hI', hz⟩)⟩ dL_coat_25
theorem mw_L_pawn : zMW RL 117 yL_pawn cL_pawn 5 (some .int) [(0, 11, 14, 33), (0, 11, 18, 21)] 4 := ⟨tb4 (j := 213) (by decide +kernel) rfl, nz_L, by decide +kernel, tb4 (j := 211) (by decide +kernel) rfl⟩
theorem st_L_pawn : Cond.static yL_pawn ∈ zTBL := tb4 (j := 212) (by decide +kernel) rfl
set_option maxRecDepth 100000 in
set_option maxHeartbeats 4000000 in
theorem k_L_pawn {g : zG} {t : Nat × Nat} {X0 Oa : Nat} {σb : Nat → Option va_E} {F : Nat → Nat → Int32} {n0 : Int64} (hX : g.2.1.size ≤ X0) (hG : g.1.stackTraces = false) (hO : Oa < X0 ∨ X0 + 61 ≤ Oa) (gO : g.2.1.size ≤ Oa) {nP nS nA nC nT : Nat} (hI : cI nP nS nA nC nT F) (a1 a2 : Int32) (hB : cBd nP nS nA F) (hC : cK F) : CtW g 45 yL_pawn cL_pawn 5 (some .int) [(0, 11, 14, 33), (0, 11, 18, 21)] 1 6 [.ref X0, .int a1, .int a2, .ref Oa] (t, cW g X0 F (zup σb Oa (.inr (10, [.long n0])))) (qW g X0 σb Oa (fun x n' F' => zR2 x (zlt nC a1 ∧ zlt nA a2) (¬ zIn (F 18 4) a1) (cM F F') (∃ c p : Nat, a1 = nI c ∧ c < nC ∧ a2 = nI p ∧ p < nA ∧ n' = (F 11 p + F 21 c).toInt64 ∧ F' = cPw F c p))) := by
  refine CtW.of (lv := [(0, .ref X0), (1, .int a1), (2, .int a2), (3, .ref Oa)]) (by decide) (Nat.le_of_ble_eq_true rfl) rfl ?_
  intro κ X E
  have X : zX g κ RL cL_pawn 5 := X
  have H1 : ∀ (t' : Nat × Nat) (F' : Nat → Nat → Int32) (q : Nat), ¬ (zlt nC a1 ∧ zlt nA a2) → cM F F' → V g κ 5 (0 + 1) (0 + 6) (t', cW g X0 F' (zup σb Oa (.inr (10, [.long n0])))) 14 [(0, .ref X0), (1, .int a1), (2, .int a2), (3, .ref Oa)] [.ref q] := by
    intro t' F' q n1 hm
    refine V_astore X [(4, .ref q), (0, .ref X0), (1, .int a1), (2, .int a2), (3, .ref Oa)] dL_pawn_14 (by decide) rfl ?_
    refine V_iconst (v := nI 1) X dL_pawn_16 (by decide) ?_
    exact V_iretW X E (by omega) (by omega) ⟨_, rfl, _, _, _, rfl, Or.inl ⟨rfl, n1, hm⟩⟩ dL_pawn_17
  have H2 : ∀ (t' : Nat × Nat) (F' : Nat → Nat → Int32) (q : Nat), (zlt nC a1 ∧ zlt nA a2) → ¬ (¬ zIn (F 18 4) a1) → cM F F' → V g κ 5 (0 + 1) (0 + 6) (t', cW g X0 F' (zup σb Oa (.inr (10, [.long n0])))) 18 [(0, .ref X0), (1, .int a1), (2, .int a2), (3, .ref Oa)] [.ref q] := by
    intro t' F' q p1 n2 hm
    refine V_astore X [(4, .ref q), (0, .ref X0), (1, .int a1), (2, .int a2), (3, .ref Oa)] dL_pawn_18 (by decide) rfl ?_
    refine V_iconst (v := nI 2) X dL_pawn_20 (by decide) ?_
    exact V_iretW X E (by omega) (by omega) ⟨_, rfl, _, _, _, rfl, Or.inr (Or.inl ⟨rfl, p1, n2, hm⟩)⟩ dL_pawn_21
  refine V_aload_n X dL_pawn_0 3 rfl ?_
  refine V_aload_n X dL_pawn_1 0 rfl ?_
  refine V_iload_n X dL_pawn_2 1 rfl ?_
  refine V_iload_n X dL_pawn_3 2 rfl ?_
  refine V_callV (rest := [.ref Oa]) X E.room ml_L_42 in_X5_pawn (ci := 9) rfl se_X5_pawn (C_recv (q := 0) (by decide) rfl) (by decide) (by decide) (k_X5_pawn hX hI hG a1 a2 hB hC) rfl rfl (Nat.le_of_ble_eq_true rfl) ⟨Nat.le_refl _, Nat.le_refl _⟩ dL_pawn_4 (fun Ex σ' h => ?_) (fun v9 σ' hp9 => ?_)
  · obtain ⟨hE, t', F', rfl, hm⟩ := h
    rcases hE with hE | hE
    · rcases hE with ⟨n, rfl⟩ | ⟨p0, ⟨n, rfl⟩ | ⟨p1, ⟨n, rfl⟩ | ⟨p2, hE⟩⟩⟩
      · exact VX_c1 X ⟨0, 11, 14, 33⟩ [⟨0, 11, 18, 21⟩] E.2.2.1 (by decide) (by decide) cl_L_33 cs_RIOB (fun q => H1 t' F' q (fun z => n z.1) hm)
      · exact VX_c1 X ⟨0, 11, 14, 33⟩ [⟨0, 11, 18, 21⟩] E.2.2.1 (by decide) (by decide) cl_L_33 cs_RIOB (fun q => H1 t' F' q (fun z => n z.2) hm)
      · exact VX_c3 X ⟨0, 11, 14, 33⟩ ⟨0, 11, 18, 21⟩ [] E.2.2.1 (by decide) (by decide) (by decide) cl_L_33 cl_L_21 (zNcE X).2.2 cs_RISE (fun q => H2 t' F' q ⟨p0, p1⟩ (fun z => n z) hm)
      · exact False.elim hE
    · exact False.elim hE
  · obtain ⟨c9, p9, e9, l9, f9, u9, z9, rfl, hs9⟩ := hp9
    obtain ⟨F', hF9⟩ : ∃ F' : Nat → Nat → Int32, F' = cPw F c9 p9 := ⟨_, rfl⟩
    rw [← hF9] at hs9
    subst hs9
    refine V_i2l X dL_pawn_7 ?_
    refine V_putf X fl_L_13 zt_X6 ((cW_out hO).trans zup_eq) gO (Nat.le_of_ble_eq_true rfl) rfl (ty := .long) rfl rfl rfl dL_pawn_8 ?_
    refine V.so (σ' := (t, cW g X0 F' (zup σb Oa (.inr (10, [.long _]))))) (congrArg (Prod.mk _) (by show zup (cW g X0 F' (zup _ _ _)) _ _ = _; rw [cW_zup hO, zup_zup]; rfl)) ?_
    refine V_goto (tgt := 22) X dL_pawn_11 (by decide) ?_
    refine V_iconst (v := nI 0) X dL_pawn_22 (by decide) ?_
    exact V_iretW X E (by omega) (by omega) ⟨_, rfl, _, _, _, rfl, Or.inr (Or.inr ⟨rfl, ⟨⟨c9, e9, l9⟩, ⟨p9, f9, u9⟩⟩, z9, c9, p9, e9, l9, f9, u9, rfl, hF9⟩)⟩ dL_pawn_23
theorem mw_L_redeem : zMW RL 120 yL_redeem cL_redeem 5 (some .int) [(0, 11, 14, 33), (0, 11, 18, 21)] 4 := ⟨tb4 (j := 221) (by decide +kernel) rfl, nz_L, by decide +kernel, tb4 (j := 219) (by decide +kernel) rfl⟩
theorem st_L_redeem : Cond.static yL_redeem ∈ zTBL := tb4 (j := 220) (by decide +kernel) rfl
set_option maxRecDepth 100000 in
set_option maxHeartbeats 4000000 in
theorem k_L_redeem {g : zG} {t : Nat × Nat} {X0 Oa : Nat} {σb : Nat → Option va_E} {F : Nat → Nat → Int32} {n0 : Int64} (hX : g.2.1.size ≤ X0) (hG : g.1.stackTraces = false) (hO : Oa < X0 ∨ X0 + 61 ≤ Oa) (gO : g.2.1.size ≤ Oa) {nP nS nA nC nT : Nat} (hI : cI nP nS nA nC nT F) (a1 a2 : Int32) (hB : cBd nP nS nA F) (hC : cK F) : CtW g 45 yL_redeem cL_redeem 5 (some .int) [(0, 11, 14, 33), (0, 11, 18, 21)] 1 6 [.ref X0, .int a1, .int a2, .ref Oa] (t, cW g X0 F (zup σb Oa (.inr (10, [.long n0])))) (qW g X0 σb Oa (fun x n' F' => zR2 x (zlt nC a1 ∧ zlt nA a2) (zRd F a1 a2) (cM F F') (∃ c p : Nat, a1 = nI c ∧ c < nC ∧ a2 = nI p ∧ p < nA ∧ n' = (F 11 p - zCo F c).toInt64 ∧ F' = cRd F c p))) := by
  refine CtW.of (lv := [(0, .ref X0), (1, .int a1), (2, .int a2), (3, .ref Oa)]) (by decide) (Nat.le_of_ble_eq_true rfl) rfl ?_
  intro κ X E
  have X : zX g κ RL cL_redeem 5 := X
  have H1 : ∀ (t' : Nat × Nat) (F' : Nat → Nat → Int32) (q : Nat), ¬ (zlt nC a1 ∧ zlt nA a2) → cM F F' → V g κ 5 (0 + 1) (0 + 6) (t', cW g X0 F' (zup σb Oa (.inr (10, [.long n0])))) 14 [(0, .ref X0), (1, .int a1), (2, .int a2), (3, .ref Oa)] [.ref q] := by
    intro t' F' q n1 hm
    refine V_astore X [(4, .ref q), (0, .ref X0), (1, .int a1), (2, .int a2), (3, .ref Oa)] dL_redeem_14 (by decide) rfl ?_
    refine V_iconst (v := nI 1) X dL_redeem_16 (by decide) ?_
    exact V_iretW X E (by omega) (by omega) ⟨_, rfl, _, _, _, rfl, Or.inl ⟨rfl, n1, hm⟩⟩ dL_redeem_17
  have H2 : ∀ (t' : Nat × Nat) (F' : Nat → Nat → Int32) (q : Nat), (zlt nC a1 ∧ zlt nA a2) → ¬ (zRd F a1 a2) → cM F F' → V g κ 5 (0 + 1) (0 + 6) (t', cW g X0 F' (zup σb Oa (.inr (10, [.long n0])))) 18 [(0, .ref X0), (1, .int a1), (2, .int a2), (3, .ref Oa)] [.ref q] := by
    intro t' F' q p1 n2 hm
    refine V_astore X [(4, .ref q), (0, .ref X0), (1, .int a1), (2, .int a2), (3, .ref Oa)] dL_redeem_18 (by decide) rfl ?_
    refine V_iconst (v := nI 2) X dL_redeem_20 (by decide) ?_
    exact V_iretW X E (by omega) (by omega) ⟨_, rfl, _, _, _, rfl, Or.inr (Or.inl ⟨rfl, p1, n2, hm⟩)⟩ dL_redeem_21
  refine V_aload_n X dL_redeem_0 3 rfl ?_
  refine V_aload_n X dL_redeem_1 0 rfl ?_
  refine V_iload_n X dL_redeem_2 1 rfl ?_
  refine V_iload_n X dL_redeem_3 2 rfl ?_
  refine V_callV (rest := [.ref Oa]) X E.room ml_L_45 in_X5_redeem (ci := 9) rfl se_X5_redeem (C_recv (q := 0) (by decide) rfl) (by decide) (by decide) (k_X5_redeem hX hI hG a1 a2 hB hC) rfl rfl (Nat.le_of_ble_eq_true rfl) ⟨Nat.le_refl _, Nat.le_refl _⟩ dL_redeem_4 (fun Ex σ' h => ?_) (fun v9 σ' hp9 => ?_)
  · obtain ⟨hE, t', F', rfl, hm⟩ := h
    rcases hE with hE | hE
    · rcases hE with ⟨n, rfl⟩ | ⟨p0, ⟨n, rfl⟩ | ⟨p1, ⟨n, rfl⟩ | ⟨p2, hE⟩⟩⟩
      · exact VX_c1 X ⟨0, 11, 14, 33⟩ [⟨0, 11, 18, 21⟩] E.2.2.1 (by decide) (by decide) cl_L_33 cs_RIOB (fun q => H1 t' F' q (fun z => n z.1) hm)
      · exact VX_c1 X ⟨0, 11, 14, 33⟩ [⟨0, 11, 18, 21⟩] E.2.2.1 (by decide) (by decide) cl_L_33 cs_RIOB (fun q => H1 t' F' q (fun z => n z.2) hm)
      · exact VX_c3 X ⟨0, 11, 14, 33⟩ ⟨0, 11, 18, 21⟩ [] E.2.2.1 (by decide) (by decide) (by decide) cl_L_33 cl_L_21 (zNcE X).2.2 cs_RISE (fun q => H2 t' F' q ⟨p0, p1⟩ (fun z => n z) hm)
      · exact False.elim hE
    · exact False.elim hE
  · obtain ⟨c9, p9, e9, l9, f9, u9, z9, rfl, hs9⟩ := hp9
    obtain ⟨F', hF9⟩ : ∃ F' : Nat → Nat → Int32, F' = cRd F c9 p9 := ⟨_, rfl⟩
    rw [← hF9] at hs9
    subst hs9
    refine V_i2l X dL_redeem_7 ?_
    refine V_putf X fl_L_13 zt_X6 ((cW_out hO).trans zup_eq) gO (Nat.le_of_ble_eq_true rfl) rfl (ty := .long) rfl rfl rfl dL_redeem_8 ?_
    refine V.so (σ' := (t, cW g X0 F' (zup σb Oa (.inr (10, [.long _]))))) (congrArg (Prod.mk _) (by show zup (cW g X0 F' (zup _ _ _)) _ _ = _; rw [cW_zup hO, zup_zup]; rfl)) ?_
    refine V_goto (tgt := 22) X dL_redeem_11 (by decide) ?_
    refine V_iconst (v := nI 0) X dL_redeem_22 (by decide) ?_
    exact V_iretW X E (by omega) (by omega) ⟨_, rfl, _, _, _, rfl, Or.inr (Or.inr ⟨rfl, ⟨⟨c9, e9, l9⟩, ⟨p9, f9, u9⟩⟩, z9, c9, p9, e9, l9, f9, u9, rfl, hF9⟩)⟩ dL_redeem_23
theorem mw_L_town : zMW RL 123 yL_town cL_town 6 (some .int) [(0, 13, 16, 19), (0, 13, 20, 21)] 5 := ⟨tb4 (j := 229) (by decide +kernel) rfl, nz_L, by decide +kernel, tb4 (j := 227) (by decide +kernel) rfl⟩
theorem st_L_town : Cond.static yL_town ∈ zTBL := tb4 (j := 228) (by decide +kernel) rfl
set_option maxRecDepth 100000 in
set_option maxHeartbeats 4000000 in
theorem k_L_town {g : zG} {t : Nat × Nat} {X0 Oa : Nat} {σb : Nat → Option va_E} {F : Nat → Nat → Int32} {n0 : Int64} (hX : g.2.1.size ≤ X0) (hG : g.1.stackTraces = false) (hO : Oa < X0 ∨ X0 + 61 ≤ Oa) (gO : g.2.1.size ≤ Oa) {nP nS nA nC nT : Nat} (hI : cI nP nS nA nC nT F) (a1 a2 a3 : Int32) (hB : cBd nP nS nA F) (hC : cK F) : CtW g 45 yL_town cL_town 6 (some .int) [(0, 13, 16, 19), (0, 13, 20, 21)] 1 6 [.ref X0, .int a1, .int a2, .int a3, .ref Oa] (t, cW g X0 F (zup σb Oa (.inr (10, [.long n0])))) (qW g X0 σb Oa (fun x n' F' => zR2 x (zin 0 99 a1 ∧ zin 0 99 a2 ∧ zin 0 999 a3) (nT < 5) (cM F F') (n' = (nI nT).toInt64 ∧ cI nP nS nA nC (nT + 1) F' ∧ cRw sRo (fset (fset (fset (fset F 24 nT a1) 25 nT a2) 26 nT a3) 23 4 (nI (nT + 1))) F'))) := by
  refine CtW.of (lv := [(0, .ref X0), (1, .int a1), (2, .int a2), (3, .int a3), (4, .ref Oa)]) (by decide) (Nat.le_of_ble_eq_true rfl) rfl ?_
  intro κ X E
  have X : zX g κ RL cL_town 6 := X
  have H1 : ∀ (t' : Nat × Nat) (F' : Nat → Nat → Int32) (q : Nat), ¬ (zin 0 99 a1 ∧ zin 0 99 a2 ∧ zin 0 999 a3) → cM F F' → V g κ 6 (0 + 1) (0 + 6) (t', cW g X0 F' (zup σb Oa (.inr (10, [.long n0])))) 16 [(0, .ref X0), (1, .int a1), (2, .int a2), (3, .int a3), (4, .ref Oa)] [.ref q] := by
    intro t' F' q n1 hm
    refine V_astore X [(5, .ref q), (0, .ref X0), (1, .int a1), (2, .int a2), (3, .int a3), (4, .ref Oa)] dL_town_16 (by decide) rfl ?_
    refine V_iconst (v := nI 1) X dL_town_18 (by decide) ?_
    exact V_iretW X E (by omega) (by omega) ⟨_, rfl, _, _, _, rfl, Or.inl ⟨rfl, n1, hm⟩⟩ dL_town_19
  have H2 : ∀ (t' : Nat × Nat) (F' : Nat → Nat → Int32) (q : Nat), (zin 0 99 a1 ∧ zin 0 99 a2 ∧ zin 0 999 a3) → ¬ (nT < 5) → cM F F' → V g κ 6 (0 + 1) (0 + 6) (t', cW g X0 F' (zup σb Oa (.inr (10, [.long n0])))) 20 [(0, .ref X0), (1, .int a1), (2, .int a2), (3, .int a3), (4, .ref Oa)] [.ref q] := by
    intro t' F' q p1 n2 hm
    refine V_astore X [(5, .ref q), (0, .ref X0), (1, .int a1), (2, .int a2), (3, .int a3), (4, .ref Oa)] dL_town_20 (by decide) rfl ?_
    refine V_iconst (v := nI 2) X dL_town_22 (by decide) ?_
    exact V_iretW X E (by omega) (by omega) ⟨_, rfl, _, _, _, rfl, Or.inr (Or.inl ⟨rfl, p1, n2, hm⟩)⟩ dL_town_23
  refine V_aload X dL_town_0 4 rfl ?_
  refine V_aload_n X dL_town_2 0 rfl ?_
  refine V_iload_n X dL_town_3 1 rfl ?_
  refine V_iload_n X dL_town_4 2 rfl ?_
  refine V_iload_n X dL_town_5 3 rfl ?_
  refine V_callV (rest := [.ref Oa]) X E.room ml_L_48 in_X5_town (ci := 9) rfl se_X5_town (C_recv (q := 0) (by decide) rfl) (by decide) (by decide) (k_X5_town hX hI hG a1 a2 a3 hB hC) rfl rfl (Nat.le_of_ble_eq_true rfl) ⟨Nat.le_refl _, Nat.le_refl _⟩ dL_town_6 (fun Ex σ' h => ?_) (fun v9 σ' hp9 => ?_)
  · obtain ⟨hE, t', F', rfl, hm⟩ := h
    rcases hE with hE | hE
    · rcases hE with ⟨n, rfl⟩ | ⟨p0, ⟨n, rfl⟩ | ⟨p1, ⟨n, rfl⟩ | ⟨p2, ⟨n, rfl⟩ | ⟨p3, hE⟩⟩⟩⟩
      · exact VX_c1 X ⟨0, 13, 16, 19⟩ [⟨0, 13, 20, 21⟩] E.2.2.1 (by decide) (by decide) cl_L_19 cs_RIAE (fun q => H1 t' F' q (fun z => n z.1) hm)
      · exact VX_c1 X ⟨0, 13, 16, 19⟩ [⟨0, 13, 20, 21⟩] E.2.2.1 (by decide) (by decide) cl_L_19 cs_RIAE (fun q => H1 t' F' q (fun z => n z.2.1) hm)
      · exact VX_c1 X ⟨0, 13, 16, 19⟩ [⟨0, 13, 20, 21⟩] E.2.2.1 (by decide) (by decide) cl_L_19 cs_RIAE (fun q => H1 t' F' q (fun z => n z.2.2) hm)
      · exact VX_c3 X ⟨0, 13, 16, 19⟩ ⟨0, 13, 20, 21⟩ [] E.2.2.1 (by decide) (by decide) (by decide) cl_L_19 cl_L_21 (zNcE X).1 cs_RISE (fun q => H2 t' F' q ⟨p0, p1, p2⟩ (fun z => n z) hm)
      · exact False.elim hE
    · exact False.elim hE
  · obtain ⟨rfl, hg1, hg2, F', rfl, hI', hz⟩ := hp9
    refine V_i2l X dL_town_9 ?_
    refine V_putf X fl_L_13 zt_X6 ((cW_out hO).trans zup_eq) gO (Nat.le_of_ble_eq_true rfl) rfl (ty := .long) rfl rfl rfl dL_town_10 ?_
    refine V.so (σ' := (t, cW g X0 F' (zup σb Oa (.inr (10, [.long _]))))) (congrArg (Prod.mk _) (by show zup (cW g X0 F' (zup _ _ _)) _ _ = _; rw [cW_zup hO, zup_zup]; rfl)) ?_
    refine V_goto (tgt := 24) X dL_town_13 (by decide) ?_
    refine V_iconst (v := nI 0) X dL_town_24 (by decide) ?_
    exact V_iretW X E (by omega) (by omega) ⟨_, rfl, _, _, _, rfl, Or.inr (Or.inr ⟨rfl, hg1, hg2, rfl, hI', hz⟩)⟩ dL_town_25
theorem mw_L_night : zMW RL 126 yL_night cL_night 4 (some .int) [(0, 10, 13, 33), (0, 10, 16, 21)] 3 := ⟨tb5 (j := 10) (by decide +kernel) rfl, nz_L, by decide +kernel, tb5 (j := 8) (by decide +kernel) rfl⟩
theorem st_L_night : Cond.static yL_night ∈ zTBL := tb5 (j := 9) (by decide +kernel) rfl
set_option maxRecDepth 100000 in
set_option maxHeartbeats 4000000 in
theorem k_L_night {g : zG} {t : Nat × Nat} {X0 Oa : Nat} {σb : Nat → Option va_E} {F : Nat → Nat → Int32} {n0 : Int64} (hX : g.2.1.size ≤ X0) (hG : g.1.stackTraces = false) (hO : Oa < X0 ∨ X0 + 61 ≤ Oa) (gO : g.2.1.size ≤ Oa) {nP nS nA nC nT : Nat} (hI : cI nP nS nA nC nT F) (a1 : Int32) (hB : cBd nP nS nA F) (hC : cK F) : CtW g 45 yL_night cL_night 4 (some .int) [(0, 10, 13, 33), (0, 10, 16, 21)] 1 6 [.ref X0, .int a1, .ref Oa] (t, cW g X0 F (zup σb Oa (.inr (10, [.long n0])))) (qW g X0 σb Oa (fun x n' F' => zR2 x (zlt nT a1) (zNi nP nS nA F) (cM F F') (∃ p : Nat, a1 = nI p ∧ p < nT ∧ n' = (F 26 p).toInt64 ∧ cNi nP nS nA F p F'))) := by
  refine CtW.of (lv := [(0, .ref X0), (1, .int a1), (2, .ref Oa)]) (by decide) (Nat.le_of_ble_eq_true rfl) rfl ?_
  intro κ X E
  have X : zX g κ RL cL_night 4 := X
  have H1 : ∀ (t' : Nat × Nat) (F' : Nat → Nat → Int32) (q : Nat), ¬ (zlt nT a1) → cM F F' → V g κ 4 (0 + 1) (0 + 6) (t', cW g X0 F' (zup σb Oa (.inr (10, [.long n0])))) 13 [(0, .ref X0), (1, .int a1), (2, .ref Oa)] [.ref q] := by
    intro t' F' q n1 hm
    refine V_astore_n X [(3, .ref q), (0, .ref X0), (1, .int a1), (2, .ref Oa)] dL_night_13 (by decide) rfl ?_
    refine V_iconst (v := nI 1) X dL_night_14 (by decide) ?_
    exact V_iretW X E (by omega) (by omega) ⟨_, rfl, _, _, _, rfl, Or.inl ⟨rfl, n1, hm⟩⟩ dL_night_15
  have H2 : ∀ (t' : Nat × Nat) (F' : Nat → Nat → Int32) (q : Nat), (zlt nT a1) → ¬ (zNi nP nS nA F) → cM F F' → V g κ 4 (0 + 1) (0 + 6) (t', cW g X0 F' (zup σb Oa (.inr (10, [.long n0])))) 16 [(0, .ref X0), (1, .int a1), (2, .ref Oa)] [.ref q] := by
    intro t' F' q p1 n2 hm
    refine V_astore_n X [(3, .ref q), (0, .ref X0), (1, .int a1), (2, .ref Oa)] dL_night_16 (by decide) rfl ?_
    refine V_iconst (v := nI 2) X dL_night_17 (by decide) ?_
    exact V_iretW X E (by omega) (by omega) ⟨_, rfl, _, _, _, rfl, Or.inr (Or.inl ⟨rfl, p1, n2, hm⟩)⟩ dL_night_18
  refine V_aload_n X dL_night_0 2 rfl ?_
  refine V_aload_n X dL_night_1 0 rfl ?_
  refine V_iload_n X dL_night_2 1 rfl ?_
  refine V_callV (rest := [.ref Oa]) X E.room ml_L_51 in_X5_night (ci := 9) rfl se_X5_night (C_recv (q := 0) (by decide) rfl) (by decide) (by decide) (k_X5_night hX hI hG a1 hB hC) rfl rfl (Nat.le_of_ble_eq_true rfl) ⟨Nat.le_refl _, Nat.le_refl _⟩ dL_night_3 (fun Ex σ' h => ?_) (fun v9 σ' hp9 => ?_)
  · obtain ⟨hE, t', F', rfl, hm⟩ := h
    rcases hE with hE | hE
    · rcases hE with ⟨n, rfl⟩ | ⟨p0, ⟨n, rfl⟩ | ⟨p1, hE⟩⟩
      · exact VX_c1 X ⟨0, 10, 13, 33⟩ [⟨0, 10, 16, 21⟩] E.2.2.1 (by decide) (by decide) cl_L_33 cs_RIOB (fun q => H1 t' F' q (fun z => n z) hm)
      · exact VX_c3 X ⟨0, 10, 13, 33⟩ ⟨0, 10, 16, 21⟩ [] E.2.2.1 (by decide) (by decide) (by decide) cl_L_33 cl_L_21 (zNcE X).2.2 cs_RISE (fun q => H2 t' F' q p0 (fun z => n z) hm)
      · exact False.elim hE
    · exact False.elim hE
  · obtain ⟨p9, e9, l9, z9, rfl, F', rfl, hz⟩ := hp9
    refine V_i2l X dL_night_6 ?_
    refine V_putf X fl_L_13 zt_X6 ((cW_out hO).trans zup_eq) gO (Nat.le_of_ble_eq_true rfl) rfl (ty := .long) rfl rfl rfl dL_night_7 ?_
    refine V.so (σ' := (t, cW g X0 F' (zup σb Oa (.inr (10, [.long _]))))) (congrArg (Prod.mk _) (by show zup (cW g X0 F' (zup _ _ _)) _ _ = _; rw [cW_zup hO, zup_zup]; rfl)) ?_
    refine V_goto (tgt := 19) X dL_night_10 (by decide) ?_
    refine V_iconst (v := nI 0) X dL_night_19 (by decide) ?_
    exact V_iretW X E (by omega) (by omega) ⟨_, rfl, _, _, _, rfl, Or.inr (Or.inr ⟨rfl, ⟨p9, e9, l9⟩, z9, p9, e9, l9, rfl, hz⟩)⟩ dL_night_20
theorem mw_L_ofPart : zMW RL 134 yL_ofPart cL_ofPart 5 (some .int) [(0, 11, 14, 33), (0, 11, 18, 19)] 4 := ⟨tb5 (j := 18) (by decide +kernel) rfl, nz_L, by decide +kernel, tb5 (j := 16) (by decide +kernel) rfl⟩
theorem st_L_ofPart : Cond.static yL_ofPart ∈ zTBL := tb5 (j := 17) (by decide +kernel) rfl
set_option maxRecDepth 100000 in
set_option maxHeartbeats 4000000 in
theorem k_L_ofPart {g : zG} {t : Nat × Nat} {X0 Oa : Nat} {σb : Nat → Option va_E} {F : Nat → Nat → Int32} {n0 : Int64} (hX : g.2.1.size ≤ X0) (hG : g.1.stackTraces = false) (hO : Oa < X0 ∨ X0 + 61 ≤ Oa) (gO : g.2.1.size ≤ Oa) {nP nS nA nC nT : Nat} (hI : cI nP nS nA nC nT F) (a1 a2 : Int32) (hB : cBd nP nS nA F) (hC : cK F) : CtW g 45 yL_ofPart cL_ofPart 5 (some .int) [(0, 11, 14, 33), (0, 11, 18, 19)] 1 6 [.ref X0, .int a1, .int a2, .ref Oa] (t, cW g X0 F (zup σb Oa (.inr (10, [.long n0])))) (qW g X0 σb Oa (fun x n' F' => zR2 x (zlt nP a1) (zin 0 6 a2) (cM F F') (∃ p w : Nat, a1 = nI p ∧ p < nP ∧ a2 = nI w ∧ w ≤ 6 ∧ ∃ y : Int32, n' = y.toInt64 ∧ cPt nP nS nA F p w y ∧ cM F F'))) := by
  refine CtW.of (lv := [(0, .ref X0), (1, .int a1), (2, .int a2), (3, .ref Oa)]) (by decide) (Nat.le_of_ble_eq_true rfl) rfl ?_
  intro κ X E
  have X : zX g κ RL cL_ofPart 5 := X
  have H1 : ∀ (t' : Nat × Nat) (F' : Nat → Nat → Int32) (q : Nat), ¬ (zlt nP a1) → cM F F' → V g κ 5 (0 + 1) (0 + 6) (t', cW g X0 F' (zup σb Oa (.inr (10, [.long n0])))) 14 [(0, .ref X0), (1, .int a1), (2, .int a2), (3, .ref Oa)] [.ref q] := by
    intro t' F' q n1 hm
    refine V_astore X [(4, .ref q), (0, .ref X0), (1, .int a1), (2, .int a2), (3, .ref Oa)] dL_ofPart_14 (by decide) rfl ?_
    refine V_iconst (v := nI 1) X dL_ofPart_16 (by decide) ?_
    exact V_iretW X E (by omega) (by omega) ⟨_, rfl, _, _, _, rfl, Or.inl ⟨rfl, n1, hm⟩⟩ dL_ofPart_17
  have H2 : ∀ (t' : Nat × Nat) (F' : Nat → Nat → Int32) (q : Nat), (zlt nP a1) → ¬ (zin 0 6 a2) → cM F F' → V g κ 5 (0 + 1) (0 + 6) (t', cW g X0 F' (zup σb Oa (.inr (10, [.long n0])))) 18 [(0, .ref X0), (1, .int a1), (2, .int a2), (3, .ref Oa)] [.ref q] := by
    intro t' F' q p1 n2 hm
    refine V_astore X [(4, .ref q), (0, .ref X0), (1, .int a1), (2, .int a2), (3, .ref Oa)] dL_ofPart_18 (by decide) rfl ?_
    refine V_iconst (v := nI 2) X dL_ofPart_20 (by decide) ?_
    exact V_iretW X E (by omega) (by omega) ⟨_, rfl, _, _, _, rfl, Or.inr (Or.inl ⟨rfl, p1, n2, hm⟩)⟩ dL_ofPart_21
  refine V_aload_n X dL_ofPart_0 3 rfl ?_
  refine V_aload_n X dL_ofPart_1 0 rfl ?_
  refine V_iload_n X dL_ofPart_2 1 rfl ?_
  refine V_iload_n X dL_ofPart_3 2 rfl ?_
  refine V_callV (rest := [.ref Oa]) X E.room ml_L_55 in_X5_ofPart (ci := 9) rfl se_X5_ofPart (C_recv (q := 0) (by decide) rfl) (by decide) (by decide) (k_X5_ofPart hX hI hG a1 a2 hB hC) rfl rfl (Nat.le_of_ble_eq_true rfl) ⟨Nat.le_refl _, Nat.le_refl _⟩ dL_ofPart_4 (fun Ex σ' h => ?_) (fun v9 σ' hp9 => ?_)
  · obtain ⟨hE, t', F', rfl, hm⟩ := h
    rcases hE with hE | hE
    · rcases hE with ⟨n, rfl⟩ | ⟨p0, ⟨n, rfl⟩ | ⟨p1, hE⟩⟩
      · exact VX_c1 X ⟨0, 11, 14, 33⟩ [⟨0, 11, 18, 19⟩] E.2.2.1 (by decide) (by decide) cl_L_33 cs_RIOB (fun q => H1 t' F' q (fun z => n z) hm)
      · exact VX_c3 X ⟨0, 11, 14, 33⟩ ⟨0, 11, 18, 19⟩ [] E.2.2.1 (by decide) (by decide) (by decide) cl_L_33 cl_L_19 (zNcE X).2.1 cs_RIAE (fun q => H2 t' F' q p0 (fun z => n z) hm)
      · exact False.elim hE
    · exact False.elim hE
  · obtain ⟨p9, w9, e9, l9, f9, u9, x9, rfl, q9, F', rfl, hz⟩ := hp9
    refine V_i2l X dL_ofPart_7 ?_
    refine V_putf X fl_L_13 zt_X6 ((cW_out hO).trans zup_eq) gO (Nat.le_of_ble_eq_true rfl) rfl (ty := .long) rfl rfl rfl dL_ofPart_8 ?_
    refine V.so (σ' := (t, cW g X0 F' (zup σb Oa (.inr (10, [.long _]))))) (congrArg (Prod.mk _) (by show zup (cW g X0 F' (zup _ _ _)) _ _ = _; rw [cW_zup hO, zup_zup]; rfl)) ?_
    refine V_goto (tgt := 22) X dL_ofPart_11 (by decide) ?_
    refine V_iconst (v := nI 0) X dL_ofPart_22 (by decide) ?_
    exact V_iretW X E (by omega) (by omega) ⟨_, rfl, _, _, _, rfl, Or.inr (Or.inr ⟨rfl, ⟨p9, e9, l9⟩, ⟨w9, f9, Nat.zero_le _, u9⟩, p9, w9, e9, l9, f9, u9, x9, rfl, q9, hz⟩)⟩ dL_ofPart_23
theorem mw_L_ofPlayer : zMW RL 137 yL_ofPlayer cL_ofPlayer 5 (some .int) [(0, 11, 14, 33), (0, 11, 18, 19)] 4 := ⟨tb5 (j := 22) (by decide +kernel) rfl, nz_L, by decide +kernel, tb5 (j := 20) (by decide +kernel) rfl⟩
theorem st_L_ofPlayer : Cond.static yL_ofPlayer ∈ zTBL := tb5 (j := 21) (by decide +kernel) rfl
set_option maxRecDepth 100000 in
set_option maxHeartbeats 4000000 in
theorem k_L_ofPlayer {g : zG} {t : Nat × Nat} {X0 Oa : Nat} {σb : Nat → Option va_E} {F : Nat → Nat → Int32} {n0 : Int64} (hX : g.2.1.size ≤ X0) (hG : g.1.stackTraces = false) (hO : Oa < X0 ∨ X0 + 61 ≤ Oa) (gO : g.2.1.size ≤ Oa) {nP nS nA nC nT : Nat} (hI : cI nP nS nA nC nT F) (a1 a2 : Int32) (hB : cBd nP nS nA F) (hC : cK F) : CtW g 45 yL_ofPlayer cL_ofPlayer 5 (some .int) [(0, 11, 14, 33), (0, 11, 18, 19)] 1 6 [.ref X0, .int a1, .int a2, .ref Oa] (t, cW g X0 F (zup σb Oa (.inr (10, [.long n0])))) (qW g X0 σb Oa (fun x n' F' => zR2 x (zlt nA a1) (zin 0 5 a2) (cM F F') (∃ p w : Nat, a1 = nI p ∧ p < nA ∧ a2 = nI w ∧ w ≤ 5 ∧ ∃ y : Int32, n' = y.toInt64 ∧ cPl nP nS nA F p w y ∧ cM F F'))) := by
  refine CtW.of (lv := [(0, .ref X0), (1, .int a1), (2, .int a2), (3, .ref Oa)]) (by decide) (Nat.le_of_ble_eq_true rfl) rfl ?_
  intro κ X E
  have X : zX g κ RL cL_ofPlayer 5 := X
  have H1 : ∀ (t' : Nat × Nat) (F' : Nat → Nat → Int32) (q : Nat), ¬ (zlt nA a1) → cM F F' → V g κ 5 (0 + 1) (0 + 6) (t', cW g X0 F' (zup σb Oa (.inr (10, [.long n0])))) 14 [(0, .ref X0), (1, .int a1), (2, .int a2), (3, .ref Oa)] [.ref q] := by
    intro t' F' q n1 hm
    refine V_astore X [(4, .ref q), (0, .ref X0), (1, .int a1), (2, .int a2), (3, .ref Oa)] dL_ofPlayer_14 (by decide) rfl ?_
    refine V_iconst (v := nI 1) X dL_ofPlayer_16 (by decide) ?_
    exact V_iretW X E (by omega) (by omega) ⟨_, rfl, _, _, _, rfl, Or.inl ⟨rfl, n1, hm⟩⟩ dL_ofPlayer_17
  have H2 : ∀ (t' : Nat × Nat) (F' : Nat → Nat → Int32) (q : Nat), (zlt nA a1) → ¬ (zin 0 5 a2) → cM F F' → V g κ 5 (0 + 1) (0 + 6) (t', cW g X0 F' (zup σb Oa (.inr (10, [.long n0])))) 18 [(0, .ref X0), (1, .int a1), (2, .int a2), (3, .ref Oa)] [.ref q] := by
    intro t' F' q p1 n2 hm
    refine V_astore X [(4, .ref q), (0, .ref X0), (1, .int a1), (2, .int a2), (3, .ref Oa)] dL_ofPlayer_18 (by decide) rfl ?_
    refine V_iconst (v := nI 2) X dL_ofPlayer_20 (by decide) ?_
    exact V_iretW X E (by omega) (by omega) ⟨_, rfl, _, _, _, rfl, Or.inr (Or.inl ⟨rfl, p1, n2, hm⟩)⟩ dL_ofPlayer_21
  refine V_aload_n X dL_ofPlayer_0 3 rfl ?_
  refine V_aload_n X dL_ofPlayer_1 0 rfl ?_
  refine V_iload_n X dL_ofPlayer_2 1 rfl ?_
  refine V_iload_n X dL_ofPlayer_3 2 rfl ?_
  refine V_callV (rest := [.ref Oa]) X E.room ml_L_58 in_X5_ofPlayer (ci := 9) rfl se_X5_ofPlayer (C_recv (q := 0) (by decide) rfl) (by decide) (by decide) (k_X5_ofPlayer hX hI hG a1 a2 hB hC) rfl rfl (Nat.le_of_ble_eq_true rfl) ⟨Nat.le_refl _, Nat.le_refl _⟩ dL_ofPlayer_4 (fun Ex σ' h => ?_) (fun v9 σ' hp9 => ?_)
  · obtain ⟨hE, t', F', rfl, hm⟩ := h
    rcases hE with hE | hE
    · rcases hE with ⟨n, rfl⟩ | ⟨p0, ⟨n, rfl⟩ | ⟨p1, hE⟩⟩
      · exact VX_c1 X ⟨0, 11, 14, 33⟩ [⟨0, 11, 18, 19⟩] E.2.2.1 (by decide) (by decide) cl_L_33 cs_RIOB (fun q => H1 t' F' q (fun z => n z) hm)
      · exact VX_c3 X ⟨0, 11, 14, 33⟩ ⟨0, 11, 18, 19⟩ [] E.2.2.1 (by decide) (by decide) (by decide) cl_L_33 cl_L_19 (zNcE X).2.1 cs_RIAE (fun q => H2 t' F' q p0 (fun z => n z) hm)
      · exact False.elim hE
    · exact False.elim hE
  · obtain ⟨p9, w9, e9, l9, f9, u9, x9, rfl, q9, F', rfl, hz⟩ := hp9
    refine V_i2l X dL_ofPlayer_7 ?_
    refine V_putf X fl_L_13 zt_X6 ((cW_out hO).trans zup_eq) gO (Nat.le_of_ble_eq_true rfl) rfl (ty := .long) rfl rfl rfl dL_ofPlayer_8 ?_
    refine V.so (σ' := (t, cW g X0 F' (zup σb Oa (.inr (10, [.long _]))))) (congrArg (Prod.mk _) (by show zup (cW g X0 F' (zup _ _ _)) _ _ = _; rw [cW_zup hO, zup_zup]; rfl)) ?_
    refine V_goto (tgt := 22) X dL_ofPlayer_11 (by decide) ?_
    refine V_iconst (v := nI 0) X dL_ofPlayer_22 (by decide) ?_
    exact V_iretW X E (by omega) (by omega) ⟨_, rfl, _, _, _, rfl, Or.inr (Or.inr ⟨rfl, ⟨p9, e9, l9⟩, ⟨w9, f9, Nat.zero_le _, u9⟩, p9, w9, e9, l9, f9, u9, x9, rfl, q9, hz⟩)⟩ dL_ofPlayer_23
theorem mw_L_ofScene : zMW RL 140 yL_ofScene cL_ofScene 5 (some .int) [(0, 11, 14, 33), (0, 11, 18, 19)] 4 := ⟨tb5 (j := 26) (by decide +kernel) rfl, nz_L, by decide +kernel, tb5 (j := 24) (by decide +kernel) rfl⟩
theorem st_L_ofScene : Cond.static yL_ofScene ∈ zTBL := tb5 (j := 25) (by decide +kernel) rfl
set_option maxRecDepth 100000 in
set_option maxHeartbeats 4000000 in
theorem k_L_ofScene {g : zG} {t : Nat × Nat} {X0 Oa : Nat} {σb : Nat → Option va_E} {F : Nat → Nat → Int32} {n0 : Int64} (hX : g.2.1.size ≤ X0) (hG : g.1.stackTraces = false) (hO : Oa < X0 ∨ X0 + 61 ≤ Oa) (gO : g.2.1.size ≤ Oa) {nP nS nA nC nT : Nat} (hI : cI nP nS nA nC nT F) (a1 a2 : Int32) (hB : cBd nP nS nA F) (hC : cK F) : CtW g 45 yL_ofScene cL_ofScene 5 (some .int) [(0, 11, 14, 33), (0, 11, 18, 19)] 1 6 [.ref X0, .int a1, .int a2, .ref Oa] (t, cW g X0 F (zup σb Oa (.inr (10, [.long n0])))) (qW g X0 σb Oa (fun _ _ F' => cM F F')) := by
  refine CtW.of (lv := [(0, .ref X0), (1, .int a1), (2, .int a2), (3, .ref Oa)]) (by decide) (Nat.le_of_ble_eq_true rfl) rfl ?_
  intro κ X E
  have X : zX g κ RL cL_ofScene 5 := X
  have H1 : ∀ (t' : Nat × Nat) (F' : Nat → Nat → Int32) (q : Nat), cM F F' → V g κ 5 (0 + 1) (0 + 6) (t', cW g X0 F' (zup σb Oa (.inr (10, [.long n0])))) 14 [(0, .ref X0), (1, .int a1), (2, .int a2), (3, .ref Oa)] [.ref q] := by
    intro t' F' q hm
    refine V_astore X [(4, .ref q), (0, .ref X0), (1, .int a1), (2, .int a2), (3, .ref Oa)] dL_ofScene_14 (by decide) rfl ?_
    refine V_iconst (v := nI 1) X dL_ofScene_16 (by decide) ?_
    exact V_iretW X E (by omega) (by omega) ⟨_, rfl, _, _, _, rfl, hm⟩ dL_ofScene_17
  have H2 : ∀ (t' : Nat × Nat) (F' : Nat → Nat → Int32) (q : Nat), cM F F' → V g κ 5 (0 + 1) (0 + 6) (t', cW g X0 F' (zup σb Oa (.inr (10, [.long n0])))) 18 [(0, .ref X0), (1, .int a1), (2, .int a2), (3, .ref Oa)] [.ref q] := by
    intro t' F' q hm
    refine V_astore X [(4, .ref q), (0, .ref X0), (1, .int a1), (2, .int a2), (3, .ref Oa)] dL_ofScene_18 (by decide) rfl ?_
    refine V_iconst (v := nI 2) X dL_ofScene_20 (by decide) ?_
    exact V_iretW X E (by omega) (by omega) ⟨_, rfl, _, _, _, rfl, hm⟩ dL_ofScene_21
  refine V_aload_n X dL_ofScene_0 3 rfl ?_
  refine V_aload_n X dL_ofScene_1 0 rfl ?_
  refine V_iload_n X dL_ofScene_2 1 rfl ?_
  refine V_iload_n X dL_ofScene_3 2 rfl ?_
  refine V_callV (rest := [.ref Oa]) X E.room ml_L_61 in_X5_ofScene (ci := 9) rfl se_X5_ofScene (C_recv (q := 0) (by decide) rfl) (by decide) (by decide) (k_X5_ofScene hX hI hG a1 a2 hB hC) rfl rfl (Nat.le_of_ble_eq_true rfl) ⟨Nat.le_refl _, Nat.le_refl _⟩ dL_ofScene_4 (fun Ex σ' h => ?_) (fun v9 σ' hp9 => ?_)
  · obtain ⟨hE, t', F', rfl, hm⟩ := h
    have h9 : Ex = RIOB ∨ Ex = RIAE := by
      rcases hE with hE | hE
      · have h8 := zThr_mem hE
        simp only [List.map_cons, List.map_nil, List.mem_cons, List.not_mem_nil, or_false] at h8
        rcases h8 with h | h <;> first | exact h | exact Or.inl h | exact Or.inr h
      · first | exact False.elim hE | exact hE | exact Or.inl hE | exact Or.inr hE
    rcases h9 with rfl | rfl
    · exact VX_c1 X ⟨0, 11, 14, 33⟩ [⟨0, 11, 18, 19⟩] E.2.2.1 (by decide) (by decide) cl_L_33 cs_RIOB (fun q => H1 t' F' q hm)
    · exact VX_c2 X ⟨0, 11, 14, 33⟩ ⟨0, 11, 18, 19⟩ [] E.2.2.1 (by decide) (by decide) (by decide) (by decide) cl_L_33 cl_L_19 cs_RIOB cs_RIAE (fun q => H1 t' F' q hm) (fun q => H2 t' F' q hm)
  · obtain ⟨⟨x9, rfl⟩, F', rfl, hm⟩ := hp9
    refine V_i2l X dL_ofScene_7 ?_
    refine V_putf X fl_L_13 zt_X6 ((cW_out hO).trans zup_eq) gO (Nat.le_of_ble_eq_true rfl) rfl (ty := .long) rfl rfl rfl dL_ofScene_8 ?_
    refine V.so (σ' := (t, cW g X0 F' (zup σb Oa (.inr (10, [.long _]))))) (congrArg (Prod.mk _) (by show zup (cW g X0 F' (zup _ _ _)) _ _ = _; rw [cW_zup hO, zup_zup]; rfl)) ?_
    refine V_goto (tgt := 22) X dL_ofScene_11 (by decide) ?_
    refine V_iconst (v := nI 0) X dL_ofScene_22 (by decide) ?_
    exact V_iretW X E (by omega) (by omega) ⟨_, rfl, _, _, _, rfl, hm⟩ dL_ofScene_23
theorem mw_L_ofCoat : zMW RL 143 yL_ofCoat cL_ofCoat 5 (some .int) [(0, 11, 14, 33), (0, 11, 18, 19)] 4 := ⟨tb5 (j := 30) (by decide +kernel) rfl, nz_L, by decide +kernel, tb5 (j := 28) (by decide +kernel) rfl⟩
theorem st_L_ofCoat : Cond.static yL_ofCoat ∈ zTBL := tb5 (j := 29) (by decide +kernel) rfl
set_option maxRecDepth 100000 in
set_option maxHeartbeats 4000000 in
theorem k_L_ofCoat {g : zG} {t : Nat × Nat} {X0 Oa : Nat} {σb : Nat → Option va_E} {F : Nat → Nat → Int32} {n0 : Int64} (hX : g.2.1.size ≤ X0) (hG : g.1.stackTraces = false) (hO : Oa < X0 ∨ X0 + 61 ≤ Oa) (gO : g.2.1.size ≤ Oa) {nP nS nA nC nT : Nat} (hI : cI nP nS nA nC nT F) (a1 a2 : Int32) (hB : cBd nP nS nA F) (hC : cK F) : CtW g 45 yL_ofCoat cL_ofCoat 5 (some .int) [(0, 11, 14, 33), (0, 11, 18, 19)] 1 6 [.ref X0, .int a1, .int a2, .ref Oa] (t, cW g X0 F (zup σb Oa (.inr (10, [.long n0])))) (qW g X0 σb Oa (fun x n' F' => zR2 x (zlt nC a1) (zin 0 3 a2) (cM F F') (∃ p w : Nat, a1 = nI p ∧ p < nC ∧ a2 = nI w ∧ w ≤ 3 ∧ ∃ y : Int32, n' = y.toInt64 ∧ cCt F p w y ∧ cM F F'))) := by
  refine CtW.of (lv := [(0, .ref X0), (1, .int a1), (2, .int a2), (3, .ref Oa)]) (by decide) (Nat.le_of_ble_eq_true rfl) rfl ?_
  intro κ X E
  have X : zX g κ RL cL_ofCoat 5 := X
  have H1 : ∀ (t' : Nat × Nat) (F' : Nat → Nat → Int32) (q : Nat), ¬ (zlt nC a1) → cM F F' → V g κ 5 (0 + 1) (0 + 6) (t', cW g X0 F' (zup σb Oa (.inr (10, [.long n0])))) 14 [(0, .ref X0), (1, .int a1), (2, .int a2), (3, .ref Oa)] [.ref q] := by
    intro t' F' q n1 hm
    refine V_astore X [(4, .ref q), (0, .ref X0), (1, .int a1), (2, .int a2), (3, .ref Oa)] dL_ofCoat_14 (by decide) rfl ?_
    refine V_iconst (v := nI 1) X dL_ofCoat_16 (by decide) ?_
    exact V_iretW X E (by omega) (by omega) ⟨_, rfl, _, _, _, rfl, Or.inl ⟨rfl, n1, hm⟩⟩ dL_ofCoat_17
  have H2 : ∀ (t' : Nat × Nat) (F' : Nat → Nat → Int32) (q : Nat), (zlt nC a1) → ¬ (zin 0 3 a2) → cM F F' → V g κ 5 (0 + 1) (0 + 6) (t', cW g X0 F' (zup σb Oa (.inr (10, [.long n0])))) 18 [(0, .ref X0), (1, .int a1), (2, .int a2), (3, .ref Oa)] [.ref q] := by
    intro t' F' q p1 n2 hm
    refine V_astore X [(4, .ref q), (0, .ref X0), (1, .int a1), (2, .int a2), (3, .ref Oa)] dL_ofCoat_18 (by decide) rfl ?_
    refine V_iconst (v := nI 2) X dL_ofCoat_20 (by decide) ?_
    exact V_iretW X E (by omega) (by omega) ⟨_, rfl, _, _, _, rfl, Or.inr (Or.inl ⟨rfl, p1, n2, hm⟩)⟩ dL_ofCoat_21
  refine V_aload_n X dL_ofCoat_0 3 rfl ?_
  refine V_aload_n X dL_ofCoat_1 0 rfl ?_
  refine V_iload_n X dL_ofCoat_2 1 rfl ?_
  refine V_iload_n X dL_ofCoat_3 2 rfl ?_
  refine V_callV (rest := [.ref Oa]) X E.room ml_L_64 in_X5_ofCoat (ci := 9) rfl se_X5_ofCoat (C_recv (q := 0) (by decide) rfl) (by decide) (by decide) (k_X5_ofCoat hX hI hG a1 a2 hB hC) rfl rfl (Nat.le_of_ble_eq_true rfl) ⟨Nat.le_refl _, Nat.le_refl _⟩ dL_ofCoat_4 (fun Ex σ' h => ?_) (fun v9 σ' hp9 => ?_)
  · obtain ⟨hE, t', F', rfl, hm⟩ := h
    rcases hE with hE | hE
    · rcases hE with ⟨n, rfl⟩ | ⟨p0, ⟨n, rfl⟩ | ⟨p1, hE⟩⟩
      · exact VX_c1 X ⟨0, 11, 14, 33⟩ [⟨0, 11, 18, 19⟩] E.2.2.1 (by decide) (by decide) cl_L_33 cs_RIOB (fun q => H1 t' F' q (fun z => n z) hm)
      · exact VX_c3 X ⟨0, 11, 14, 33⟩ ⟨0, 11, 18, 19⟩ [] E.2.2.1 (by decide) (by decide) (by decide) cl_L_33 cl_L_19 (zNcE X).2.1 cs_RIAE (fun q => H2 t' F' q p0 (fun z => n z) hm)
      · exact False.elim hE
    · exact False.elim hE
  · obtain ⟨p9, w9, e9, l9, f9, u9, x9, rfl, q9, F', rfl, hz⟩ := hp9
    refine V_i2l X dL_ofCoat_7 ?_
    refine V_putf X fl_L_13 zt_X6 ((cW_out hO).trans zup_eq) gO (Nat.le_of_ble_eq_true rfl) rfl (ty := .long) rfl rfl rfl dL_ofCoat_8 ?_
    refine V.so (σ' := (t, cW g X0 F' (zup σb Oa (.inr (10, [.long _]))))) (congrArg (Prod.mk _) (by show zup (cW g X0 F' (zup _ _ _)) _ _ = _; rw [cW_zup hO, zup_zup]; rfl)) ?_
    refine V_goto (tgt := 22) X dL_ofCoat_11 (by decide) ?_
    refine V_iconst (v := nI 0) X dL_ofCoat_22 (by decide) ?_
    exact V_iretW X E (by omega) (by omega) ⟨_, rfl, _, _, _, rfl, Or.inr (Or.inr ⟨rfl, ⟨p9, e9, l9⟩, ⟨w9, f9, Nat.zero_le _, u9⟩, p9, w9, e9, l9, f9, u9, x9, rfl, q9, hz⟩)⟩ dL_ofCoat_23
theorem mw_L_ofTown : zMW RL 146 yL_ofTown cL_ofTown 5 (some .int) [(0, 11, 14, 33), (0, 11, 18, 19)] 4 := ⟨tb5 (j := 34) (by decide +kernel) rfl, nz_L, by decide +kernel, tb5 (j := 32) (by decide +kernel) rfl⟩
theorem st_L_ofTown : Cond.static yL_ofTown ∈ zTBL := tb5 (j := 33) (by decide +kernel) rfl
set_option maxRecDepth 100000 in
set_option maxHeartbeats 4000000 in
theorem k_L_ofTown {g : zG} {t : Nat × Nat} {X0 Oa : Nat} {σb : Nat → Option va_E} {F : Nat → Nat → Int32} {n0 : Int64} (hX : g.2.1.size ≤ X0) (hG : g.1.stackTraces = false) (hO : Oa < X0 ∨ X0 + 61 ≤ Oa) (gO : g.2.1.size ≤ Oa) {nP nS nA nC nT : Nat} (hI : cI nP nS nA nC nT F) (a1 a2 : Int32) (hB : cBd nP nS nA F) (hC : cK F) : CtW g 45 yL_ofTown cL_ofTown 5 (some .int) [(0, 11, 14, 33), (0, 11, 18, 19)] 1 6 [.ref X0, .int a1, .int a2, .ref Oa] (t, cW g X0 F (zup σb Oa (.inr (10, [.long n0])))) (qW g X0 σb Oa (fun x n' F' => zR2 x (zlt nT a1) (zin 0 3 a2) (cM F F') (∃ p w : Nat, a1 = nI p ∧ p < nT ∧ a2 = nI w ∧ w ≤ 3 ∧ ∃ y : Int32, n' = y.toInt64 ∧ cTn F p w y ∧ cM F F'))) := by
  refine CtW.of (lv := [(0, .ref X0), (1, .int a1), (2, .int a2), (3, .ref Oa)]) (by decide) (Nat.le_of_ble_eq_true rfl) rfl ?_
  intro κ X E
  have X : zX g κ RL cL_ofTown 5 := X
  have H1 : ∀ (t' : Nat × Nat) (F' : Nat → Nat → Int32) (q : Nat), ¬ (zlt nT a1) → cM F F' → V g κ 5 (0 + 1) (0 + 6) (t', cW g X0 F' (zup σb Oa (.inr (10, [.long n0])))) 14 [(0, .ref X0), (1, .int a1), (2, .int a2), (3, .ref Oa)] [.ref q] := by
    intro t' F' q n1 hm
    refine V_astore X [(4, .ref q), (0, .ref X0), (1, .int a1), (2, .int a2), (3, .ref Oa)] dL_ofTown_14 (by decide) rfl ?_
    refine V_iconst (v := nI 1) X dL_ofTown_16 (by decide) ?_
    exact V_iretW X E (by omega) (by omega) ⟨_, rfl, _, _, _, rfl, Or.inl ⟨rfl, n1, hm⟩⟩ dL_ofTown_17
  have H2 : ∀ (t' : Nat × Nat) (F' : Nat → Nat → Int32) (q : Nat), (zlt nT a1) → ¬ (zin 0 3 a2) → cM F F' → V g κ 5 (0 + 1) (0 + 6) (t', cW g X0 F' (zup σb Oa (.inr (10, [.long n0])))) 18 [(0, .ref X0), (1, .int a1), (2, .int a2), (3, .ref Oa)] [.ref q] := by
    intro t' F' q p1 n2 hm
    refine V_astore X [(4, .ref q), (0, .ref X0), (1, .int a1), (2, .int a2), (3, .ref Oa)] dL_ofTown_18 (by decide) rfl ?_
    refine V_iconst (v := nI 2) X dL_ofTown_20 (by decide) ?_
    exact V_iretW X E (by omega) (by omega) ⟨_, rfl, _, _, _, rfl, Or.inr (Or.inl ⟨rfl, p1, n2, hm⟩)⟩ dL_ofTown_21
  refine V_aload_n X dL_ofTown_0 3 rfl ?_
  refine V_aload_n X dL_ofTown_1 0 rfl ?_
  refine V_iload_n X dL_ofTown_2 1 rfl ?_
  refine V_iload_n X dL_ofTown_3 2 rfl ?_
  refine V_callV (rest := [.ref Oa]) X E.room ml_L_67 in_X5_ofTown (ci := 9) rfl se_X5_ofTown (C_recv (q := 0) (by decide) rfl) (by decide) (by decide) (k_X5_ofTown hX hI hG a1 a2 hB hC) rfl rfl (Nat.le_of_ble_eq_true rfl) ⟨Nat.le_refl _, Nat.le_refl _⟩ dL_ofTown_4 (fun Ex σ' h => ?_) (fun v9 σ' hp9 => ?_)
  · obtain ⟨hE, t', F', rfl, hm⟩ := h
    rcases hE with hE | hE
    · rcases hE with ⟨n, rfl⟩ | ⟨p0, ⟨n, rfl⟩ | ⟨p1, hE⟩⟩
      · exact VX_c1 X ⟨0, 11, 14, 33⟩ [⟨0, 11, 18, 19⟩] E.2.2.1 (by decide) (by decide) cl_L_33 cs_RIOB (fun q => H1 t' F' q (fun z => n z) hm)
      · exact VX_c3 X ⟨0, 11, 14, 33⟩ ⟨0, 11, 18, 19⟩ [] E.2.2.1 (by decide) (by decide) (by decide) cl_L_33 cl_L_19 (zNcE X).2.1 cs_RIAE (fun q => H2 t' F' q p0 (fun z => n z) hm)
      · exact False.elim hE
    · exact False.elim hE
  · obtain ⟨p9, w9, e9, l9, f9, u9, x9, rfl, q9, F', rfl, hz⟩ := hp9
    refine V_i2l X dL_ofTown_7 ?_
    refine V_putf X fl_L_13 zt_X6 ((cW_out hO).trans zup_eq) gO (Nat.le_of_ble_eq_true rfl) rfl (ty := .long) rfl rfl rfl dL_ofTown_8 ?_
    refine V.so (σ' := (t, cW g X0 F' (zup σb Oa (.inr (10, [.long _]))))) (congrArg (Prod.mk _) (by show zup (cW g X0 F' (zup _ _ _)) _ _ = _; rw [cW_zup hO, zup_zup]; rfl)) ?_
    refine V_goto (tgt := 22) X dL_ofTown_11 (by decide) ?_
    refine V_iconst (v := nI 0) X dL_ofTown_22 (by decide) ?_
    exact V_iretW X E (by omega) (by omega) ⟨_, rfl, _, _, _, rfl, Or.inr (Or.inr ⟨rfl, ⟨p9, e9, l9⟩, ⟨w9, f9, Nat.zero_le _, u9⟩, p9, w9, e9, l9, f9, u9, x9, rfl, q9, hz⟩)⟩ dL_ofTown_23
theorem mw_L_house : zMW RL 149 yL_house cL_house 4 (some .int) [(0, 10, 13, 19)] 3 := ⟨tb5 (j := 38) (by decide +kernel) rfl, nz_L, by decide +kernel, tb5 (j := 36) (by decide +kernel) rfl⟩
theorem st_L_house : Cond.static yL_house ∈ zTBL := tb5 (j := 37) (by decide +kernel) rfl
set_option maxRecDepth 100000 in
set_option maxHeartbeats 4000000 in
theorem k_L_house {g : zG} {t : Nat × Nat} {X0 Oa : Nat} {σb : Nat → Option va_E} {F : Nat → Nat → Int32} {n0 : Int64} (hX : g.2.1.size ≤ X0) (hG : g.1.stackTraces = false) (hO : Oa < X0 ∨ X0 + 61 ≤ Oa) (gO : g.2.1.size ≤ Oa) {nP nS nA nC nT : Nat} (hI : cI nP nS nA nC nT F) (a1 : Int32) (hB : cBd nP nS nA F) (hC : cK F) : CtW g 45 yL_house cL_house 4 (some .int) [(0, 10, 13, 19)] 1 6 [.ref X0, .int a1, .ref Oa] (t, cW g X0 F (zup σb Oa (.inr (10, [.long n0])))) (qW g X0 σb Oa (fun _ _ F' => cM F F')) := by
  refine CtW.of (lv := [(0, .ref X0), (1, .int a1), (2, .ref Oa)]) (by decide) (Nat.le_of_ble_eq_true rfl) rfl ?_
  intro κ X E
  have X : zX g κ RL cL_house 4 := X
  have H1 : ∀ (t' : Nat × Nat) (F' : Nat → Nat → Int32) (q : Nat), cM F F' → V g κ 4 (0 + 1) (0 + 6) (t', cW g X0 F' (zup σb Oa (.inr (10, [.long n0])))) 13 [(0, .ref X0), (1, .int a1), (2, .ref Oa)] [.ref q] := by
    intro t' F' q hm
    refine V_astore_n X [(3, .ref q), (0, .ref X0), (1, .int a1), (2, .ref Oa)] dL_house_13 (by decide) rfl ?_
    refine V_iconst (v := nI 1) X dL_house_14 (by decide) ?_
    exact V_iretW X E (by omega) (by omega) ⟨_, rfl, _, _, _, rfl, hm⟩ dL_house_15
  refine V_aload_n X dL_house_0 2 rfl ?_
  refine V_aload_n X dL_house_1 0 rfl ?_
  refine V_iload_n X dL_house_2 1 rfl ?_
  refine V_callV (rest := [.ref Oa]) X E.room ml_L_70 in_X5_house (ci := 9) rfl se_X5_house (C_recv (q := 0) (by decide) rfl) (by decide) (by decide) (k_X5_house hX hI hG a1 hB hC) rfl rfl (Nat.le_of_ble_eq_true rfl) ⟨Nat.le_refl _, Nat.le_refl _⟩ dL_house_3 (fun Ex σ' h => ?_) (fun v9 σ' hp9 => ?_)
  · obtain ⟨hE, t', F', rfl, hm⟩ := h
    have h9 : Ex = RIAE := by
      rcases hE with hE | hE
      · have h8 := zThr_mem hE
        simp only [List.map_cons, List.map_nil, List.mem_cons, List.not_mem_nil, or_false] at h8
        first | exact h8 | exact Or.inl h8 | exact Or.inr h8
      · first | exact False.elim hE | exact hE | exact Or.inl hE | exact Or.inr hE
    rcases h9 with rfl
    · exact VX_c1 X ⟨0, 10, 13, 19⟩ [] E.2.2.1 (by decide) (by decide) cl_L_19 cs_RIAE (fun q => H1 t' F' q hm)
  · obtain ⟨⟨x9, rfl⟩, F', rfl, hm⟩ := hp9
    refine V_i2l X dL_house_6 ?_
    refine V_putf X fl_L_13 zt_X6 ((cW_out hO).trans zup_eq) gO (Nat.le_of_ble_eq_true rfl) rfl (ty := .long) rfl rfl rfl dL_house_7 ?_
    refine V.so (σ' := (t, cW g X0 F' (zup σb Oa (.inr (10, [.long _]))))) (congrArg (Prod.mk _) (by show zup (cW g X0 F' (zup _ _ _)) _ _ = _; rw [cW_zup hO, zup_zup]; rfl)) ?_
    refine V_goto (tgt := 16) X dL_house_10 (by decide) ?_
    refine V_iconst (v := nI 0) X dL_house_16 (by decide) ?_
    exact V_iretW X E (by omega) (by omega) ⟨_, rfl, _, _, _, rfl, hm⟩ dL_house_17
theorem mw_L_tour : zMW RL 157 yL_tour cL_tour 5 (some .int) [(0, 11, 14, 19)] 4 := ⟨tb5 (j := 42) (by decide +kernel) rfl, nz_L, by decide +kernel, tb5 (j := 40) (by decide +kernel) rfl⟩
theorem st_L_tour : Cond.static yL_tour ∈ zTBL := tb5 (j := 41) (by decide +kernel) rfl
set_option maxRecDepth 100000 in
set_option maxHeartbeats 4000000 in
theorem k_L_tour {g : zG} {t : Nat × Nat} {X0 Oa : Nat} {σb : Nat → Option va_E} {F : Nat → Nat → Int32} {n0 : Int64} (hX : g.2.1.size ≤ X0) (hG : g.1.stackTraces = false) (hO : Oa < X0 ∨ X0 + 61 ≤ Oa) (gO : g.2.1.size ≤ Oa) {nP nS nA nC nT : Nat} (hI : cI nP nS nA nC nT F) (a1 a2 : Int32) (hB : cBd nP nS nA F) (hC : cK F) : CtW g 45 yL_tour cL_tour 5 (some .int) [(0, 11, 14, 19)] 1 6 [.ref X0, .int a1, .int a2, .ref Oa] (t, cW g X0 F (zup σb Oa (.inr (10, [.long n0])))) (qW g X0 σb Oa (fun _ _ F' => cM F F')) := by
  refine CtW.of (lv := [(0, .ref X0), (1, .int a1), (2, .int a2), (3, .ref Oa)]) (by decide) (Nat.le_of_ble_eq_true rfl) rfl ?_
  intro κ X E
  have X : zX g κ RL cL_tour 5 := X
  have H1 : ∀ (t' : Nat × Nat) (F' : Nat → Nat → Int32) (q : Nat), cM F F' → V g κ 5 (0 + 1) (0 + 6) (t', cW g X0 F' (zup σb Oa (.inr (10, [.long n0])))) 14 [(0, .ref X0), (1, .int a1), (2, .int a2), (3, .ref Oa)] [.ref q] := by
    intro t' F' q hm
    refine V_astore X [(4, .ref q), (0, .ref X0), (1, .int a1), (2, .int a2), (3, .ref Oa)] dL_tour_14 (by decide) rfl ?_
    refine V_iconst (v := nI 1) X dL_tour_16 (by decide) ?_
    exact V_iretW X E (by omega) (by omega) ⟨_, rfl, _, _, _, rfl, hm⟩ dL_tour_17
  refine V_aload_n X dL_tour_0 3 rfl ?_
  refine V_aload_n X dL_tour_1 0 rfl ?_
  refine V_iload_n X dL_tour_2 1 rfl ?_
  refine V_iload_n X dL_tour_3 2 rfl ?_
  refine V_callV (rest := [.ref Oa]) X E.room ml_L_73 in_X5_tour (ci := 9) rfl se_X5_tour (C_recv (q := 0) (by decide) rfl) (by decide) (by decide) (k_X5_tour hX hI hG a1 a2 hB hC) rfl rfl (Nat.le_of_ble_eq_true rfl) ⟨Nat.le_refl _, Nat.le_refl _⟩ dL_tour_4 (fun Ex σ' h => ?_) (fun v9 σ' hp9 => ?_)
  · obtain ⟨hE, t', F', rfl, hm⟩ := h
    have h9 : Ex = RIAE := by
      rcases hE with hE | hE
      · have h8 := zThr_mem hE
        simp only [List.map_cons, List.map_nil, List.mem_cons, List.not_mem_nil, or_false] at h8
        rcases h8 with h | h <;> first | exact h | exact Or.inl h | exact Or.inr h
      · first | exact False.elim hE | exact hE | exact Or.inl hE | exact Or.inr hE
    rcases h9 with rfl
    · exact VX_c1 X ⟨0, 11, 14, 19⟩ [] E.2.2.1 (by decide) (by decide) cl_L_19 cs_RIAE (fun q => H1 t' F' q hm)
  · obtain ⟨⟨x9, rfl⟩, F', rfl, hm⟩ := hp9
    refine V_i2l X dL_tour_7 ?_
    refine V_putf X fl_L_13 zt_X6 ((cW_out hO).trans zup_eq) gO (Nat.le_of_ble_eq_true rfl) rfl (ty := .long) rfl rfl rfl dL_tour_8 ?_
    refine V.so (σ' := (t, cW g X0 F' (zup σb Oa (.inr (10, [.long _]))))) (congrArg (Prod.mk _) (by show zup (cW g X0 F' (zup _ _ _)) _ _ = _; rw [cW_zup hO, zup_zup]; rfl)) ?_
    refine V_goto (tgt := 18) X dL_tour_11 (by decide) ?_
    refine V_iconst (v := nI 0) X dL_tour_18 (by decide) ?_
    exact V_iretW X E (by omega) (by omega) ⟨_, rfl, _, _, _, rfl, hm⟩ dL_tour_19
theorem mw_L_would : zMW RL 160 yL_would cL_would 4 (some .int) [(0, 10, 13, 19)] 3 := ⟨tb5 (j := 46) (by decide +kernel) rfl, nz_L, by decide +kernel, tb5 (j := 44) (by decide +kernel) rfl⟩
theorem st_L_would : Cond.static yL_would ∈ zTBL := tb5 (j := 45) (by decide +kernel) rfl
set_option maxRecDepth 100000 in
set_option maxHeartbeats 4000000 in
theorem k_L_would {g : zG} {t : Nat × Nat} {X0 Oa : Nat} {σb : Nat → Option va_E} {F : Nat → Nat → Int32} {n0 : Int64} (hX : g.2.1.size ≤ X0) (hG : g.1.stackTraces = false) (hO : Oa < X0 ∨ X0 + 61 ≤ Oa) (gO : g.2.1.size ≤ Oa) {nP nS nA nC nT : Nat} (hI : cI nP nS nA nC nT F) (a1 : Int32) (hB : cBd nP nS nA F) (hC : cK F) : CtW g 45 yL_would cL_would 4 (some .int) [(0, 10, 13, 19)] 1 6 [.ref X0, .int a1, .ref Oa] (t, cW g X0 F (zup σb Oa (.inr (10, [.long n0])))) (qW g X0 σb Oa (fun x n' F' => zR2 x (zlt (2 ^ nS) a1) (True) (cM F F') (∃ y : Int32, n' = y.toInt64 ∧ mFew (zFC nP nS nA F (nI (2 ^ nS - 1) &&& (a1 ^^^ (-1)))) y ∧ cM F F'))) := by
  refine CtW.of (lv := [(0, .ref X0), (1, .int a1), (2, .ref Oa)]) (by decide) (Nat.le_of_ble_eq_true rfl) rfl ?_
  intro κ X E
  have X : zX g κ RL cL_would 4 := X
  have H1 : ∀ (t' : Nat × Nat) (F' : Nat → Nat → Int32) (q : Nat), ¬ (zlt (2 ^ nS) a1) → cM F F' → V g κ 4 (0 + 1) (0 + 6) (t', cW g X0 F' (zup σb Oa (.inr (10, [.long n0])))) 13 [(0, .ref X0), (1, .int a1), (2, .ref Oa)] [.ref q] := by
    intro t' F' q n1 hm
    refine V_astore_n X [(3, .ref q), (0, .ref X0), (1, .int a1), (2, .ref Oa)] dL_would_13 (by decide) rfl ?_
    refine V_iconst (v := nI 1) X dL_would_14 (by decide) ?_
    exact V_iretW X E (by omega) (by omega) ⟨_, rfl, _, _, _, rfl, Or.inl ⟨rfl, n1, hm⟩⟩ dL_would_15
  refine V_aload_n X dL_would_0 2 rfl ?_
  refine V_aload_n X dL_would_1 0 rfl ?_
  refine V_iload_n X dL_would_2 1 rfl ?_
  refine V_callV (rest := [.ref Oa]) X E.room ml_L_76 in_X5_would (ci := 9) rfl se_X5_would (C_recv (q := 0) (by decide) rfl) (by decide) (by decide) (k_X5_would hX hI hG a1 hB hC) rfl rfl (Nat.le_of_ble_eq_true rfl) ⟨Nat.le_refl _, Nat.le_refl _⟩ dL_would_3 (fun Ex σ' h => ?_) (fun v9 σ' hp9 => ?_)
  · obtain ⟨hE, t', F', rfl, hm⟩ := h
    rcases hE with hE | hE
    · rcases hE with ⟨n, rfl⟩ | ⟨p0, hE⟩
      · exact VX_c1 X ⟨0, 10, 13, 19⟩ [] E.2.2.1 (by decide) (by decide) cl_L_19 cs_RIAE (fun q => H1 t' F' q (fun z => n z) hm)
      · exact False.elim hE
    · exact False.elim hE
  · obtain ⟨hg, x9, rfl, hf9, F', rfl, hz⟩ := hp9
    refine V_i2l X dL_would_6 ?_
    refine V_putf X fl_L_13 zt_X6 ((cW_out hO).trans zup_eq) gO (Nat.le_of_ble_eq_true rfl) rfl (ty := .long) rfl rfl rfl dL_would_7 ?_
    refine V.so (σ' := (t, cW g X0 F' (zup σb Oa (.inr (10, [.long _]))))) (congrArg (Prod.mk _) (by show zup (cW g X0 F' (zup _ _ _)) _ _ = _; rw [cW_zup hO, zup_zup]; rfl)) ?_
    refine V_goto (tgt := 16) X dL_would_10 (by decide) ?_
    refine V_iconst (v := nI 0) X dL_would_16 (by decide) ?_
    exact V_iretW X E (by omega) (by omega) ⟨_, rfl, _, _, _, rfl, Or.inr (Or.inr ⟨rfl, hg, trivial, x9, rfl, hf9, hz⟩)⟩ dL_would_17
theorem mw_L_without : zMW RL 163 yL_without cL_without 4 (some .int) [(0, 10, 13, 33)] 3 := ⟨tb5 (j := 53) (by decide +kernel) rfl, nz_L, by decide +kernel, tb5 (j := 51) (by decide +kernel) rfl⟩
theorem st_L_without : Cond.static yL_without ∈ zTBL := tb5 (j := 52) (by decide +kernel) rfl
set_option maxRecDepth 100000 in
set_option maxHeartbeats 4000000 in
theorem k_L_without {g : zG} {t : Nat × Nat} {X0 Oa : Nat} {σb : Nat → Option va_E} {F : Nat → Nat → Int32} {n0 : Int64} (hX : g.2.1.size ≤ X0) (hG : g.1.stackTraces = false) (hO : Oa < X0 ∨ X0 + 61 ≤ Oa) (gO : g.2.1.size ≤ Oa) {nP nS nA nC nT : Nat} (hI : cI nP nS nA nC nT F) (a1 : Int32) (hB : cBd nP nS nA F) (hC : cK F) : CtW g 45 yL_without cL_without 4 (some .int) [(0, 10, 13, 33)] 1 6 [.ref X0, .int a1, .ref Oa] (t, cW g X0 F (zup σb Oa (.inr (10, [.long n0])))) (qW g X0 σb Oa (fun x n' F' => zR2 x (zlt nA a1) (True) (cM F F') (∃ p : Nat, a1 = nI p ∧ p < nA ∧ ∃ y : Int32, n' = y.toInt64 ∧ mFew (zFC nP nS nA (fset F 7 5 (F 7 5 ||| nI (2 ^ p))) (nI (2 ^ nS - 1))) y ∧ cM F F'))) := by
  refine CtW.of (lv := [(0, .ref X0), (1, .int a1), (2, .ref Oa)]) (by decide) (Nat.le_of_ble_eq_true rfl) rfl ?_
  intro κ X E
  have X : zX g κ RL cL_without 4 := X
  have H1 : ∀ (t' : Nat × Nat) (F' : Nat → Nat → Int32) (q : Nat), ¬ (zlt nA a1) → cM F F' → V g κ 4 (0 + 1) (0 + 6) (t', cW g X0 F' (zup σb Oa (.inr (10, [.long n0])))) 13 [(0, .ref X0), (1, .int a1), (2, .ref Oa)] [.ref q] := by
    intro t' F' q n1 hm
    refine V_astore_n X [(3, .ref q), (0, .ref X0), (1, .int a1), (2, .ref Oa)] dL_without_13 (by decide) rfl ?_
    refine V_iconst (v := nI 1) X dL_without_14 (by decide) ?_
    exact V_iretW X E (by omega) (by omega) ⟨_, rfl, _, _, _, rfl, Or.inl ⟨rfl, n1, hm⟩⟩ dL_without_15
  refine V_aload_n X dL_without_0 2 rfl ?_
  refine V_aload_n X dL_without_1 0 rfl ?_
  refine V_iload_n X dL_without_2 1 rfl ?_
  refine V_callV (rest := [.ref Oa]) X E.room ml_L_79 in_X5_without (ci := 9) rfl se_X5_without (C_recv (q := 0) (by decide) rfl) (by decide) (by decide) (k_X5_without hX hI hG a1 hB hC) rfl rfl (Nat.le_of_ble_eq_true rfl) ⟨Nat.le_refl _, Nat.le_refl _⟩ dL_without_3 (fun Ex σ' h => ?_) (fun v9 σ' hp9 => ?_)
  · obtain ⟨hE, t', F', rfl, hm⟩ := h
    rcases hE with hE | hE
    · rcases hE with ⟨n, rfl⟩ | ⟨p0, hE⟩
      · exact VX_c1 X ⟨0, 10, 13, 33⟩ [] E.2.2.1 (by decide) (by decide) cl_L_33 cs_RIOB (fun q => H1 t' F' q (fun z => n z) hm)
      · exact False.elim hE
    · exact False.elim hE
  · obtain ⟨s9, e9, l9, x9, rfl, hf9, F', rfl, hz⟩ := hp9
    refine V_i2l X dL_without_6 ?_
    refine V_putf X fl_L_13 zt_X6 ((cW_out hO).trans zup_eq) gO (Nat.le_of_ble_eq_true rfl) rfl (ty := .long) rfl rfl rfl dL_without_7 ?_
    refine V.so (σ' := (t, cW g X0 F' (zup σb Oa (.inr (10, [.long _]))))) (congrArg (Prod.mk _) (by show zup (cW g X0 F' (zup _ _ _)) _ _ = _; rw [cW_zup hO, zup_zup]; rfl)) ?_
    refine V_goto (tgt := 16) X dL_without_10 (by decide) ?_
    refine V_iconst (v := nI 0) X dL_without_16 (by decide) ?_
    exact V_iretW X E (by omega) (by omega) ⟨_, rfl, _, _, _, rfl, Or.inr (Or.inr ⟨rfl, ⟨s9, e9, l9⟩, trivial, s9, e9, l9, x9, rfl, hf9, hz⟩)⟩ dL_without_17
theorem mw_L_shareOf : zMW RL 166 yL_shareOf cL_shareOf 5 (some .int) [(0, 11, 14, 33), (0, 11, 18, 19)] 4 := ⟨tb5 (j := 57) (by decide +kernel) rfl, nz_L, by decide +kernel, tb5 (j := 55) (by decide +kernel) rfl⟩
theorem st_L_shareOf : Cond.static yL_shareOf ∈ zTBL := tb5 (j := 56) (by decide +kernel) rfl
set_option maxRecDepth 100000 in
set_option maxHeartbeats 4000000 in
theorem k_L_shareOf {g : zG} {t : Nat × Nat} {X0 Oa : Nat} {σb : Nat → Option va_E} {F : Nat → Nat → Int32} {n0 : Int64} (hX : g.2.1.size ≤ X0) (hG : g.1.stackTraces = false) (hO : Oa < X0 ∨ X0 + 61 ≤ Oa) (gO : g.2.1.size ≤ Oa) {nP nS nA nC nT : Nat} (hI : cI nP nS nA nC nT F) (a1 a2 : Int32) (hB : cBd nP nS nA F) (hC : cK F) : CtW g 45 yL_shareOf cL_shareOf 5 (some .int) [(0, 11, 14, 33), (0, 11, 18, 19)] 1 6 [.ref X0, .int a1, .int a2, .ref Oa] (t, cW g X0 F (zup σb Oa (.inr (10, [.long n0])))) (qW g X0 σb Oa (fun x n' F' => zR2 x (zlt nA a2) (zin 0 9999 a1) (cM F F') (∃ p : Nat, a2 = nI p ∧ p < nA ∧ ∃ y : Int32, n' = y.toInt64 ∧ cSh nP nS nA F a1 p y ∧ cM F F'))) := by
  refine CtW.of (lv := [(0, .ref X0), (1, .int a1), (2, .int a2), (3, .ref Oa)]) (by decide) (Nat.le_of_ble_eq_true rfl) rfl ?_
  intro κ X E
  have X : zX g κ RL cL_shareOf 5 := X
  have H1 : ∀ (t' : Nat × Nat) (F' : Nat → Nat → Int32) (q : Nat), ¬ (zlt nA a2) → cM F F' → V g κ 5 (0 + 1) (0 + 6) (t', cW g X0 F' (zup σb Oa (.inr (10, [.long n0])))) 14 [(0, .ref X0), (1, .int a1), (2, .int a2), (3, .ref Oa)] [.ref q] := by
    intro t' F' q n1 hm
    refine V_astore X [(4, .ref q), (0, .ref X0), (1, .int a1), (2, .int a2), (3, .ref Oa)] dL_shareOf_14 (by decide) rfl ?_
    refine V_iconst (v := nI 1) X dL_shareOf_16 (by decide) ?_
    exact V_iretW X E (by omega) (by omega) ⟨_, rfl, _, _, _, rfl, Or.inl ⟨rfl, n1, hm⟩⟩ dL_shareOf_17
  have H2 : ∀ (t' : Nat × Nat) (F' : Nat → Nat → Int32) (q : Nat), (zlt nA a2) → ¬ (zin 0 9999 a1) → cM F F' → V g κ 5 (0 + 1) (0 + 6) (t', cW g X0 F' (zup σb Oa (.inr (10, [.long n0])))) 18 [(0, .ref X0), (1, .int a1), (2, .int a2), (3, .ref Oa)] [.ref q] := by
    intro t' F' q p1 n2 hm
    refine V_astore X [(4, .ref q), (0, .ref X0), (1, .int a1), (2, .int a2), (3, .ref Oa)] dL_shareOf_18 (by decide) rfl ?_
    refine V_iconst (v := nI 2) X dL_shareOf_20 (by decide) ?_
    exact V_iretW X E (by omega) (by omega) ⟨_, rfl, _, _, _, rfl, Or.inr (Or.inl ⟨rfl, p1, n2, hm⟩)⟩ dL_shareOf_21
  refine V_aload_n X dL_shareOf_0 3 rfl ?_
  refine V_aload_n X dL_shareOf_1 0 rfl ?_
  refine V_iload_n X dL_shareOf_2 1 rfl ?_
  refine V_iload_n X dL_shareOf_3 2 rfl ?_
  refine V_callV (rest := [.ref Oa]) X E.room ml_L_82 in_X5_shareOf (ci := 9) rfl se_X5_shareOf (C_recv (q := 0) (by decide) rfl) (by decide) (by decide) (k_X5_shareOf hX hI hG a1 a2 hB hC) rfl rfl (Nat.le_of_ble_eq_true rfl) ⟨Nat.le_refl _, Nat.le_refl _⟩ dL_shareOf_4 (fun Ex σ' h => ?_) (fun v9 σ' hp9 => ?_)
  · obtain ⟨hE, t', F', rfl, hm⟩ := h
    rcases hE with hE | hE
    · rcases hE with ⟨n, rfl⟩ | ⟨p0, ⟨n, rfl⟩ | ⟨p1, hE⟩⟩
      · exact VX_c1 X ⟨0, 11, 14, 33⟩ [⟨0, 11, 18, 19⟩] E.2.2.1 (by decide) (by decide) cl_L_33 cs_RIOB (fun q => H1 t' F' q (fun z => n z) hm)
      · exact VX_c3 X ⟨0, 11, 14, 33⟩ ⟨0, 11, 18, 19⟩ [] E.2.2.1 (by decide) (by decide) (by decide) cl_L_33 cl_L_19 (zNcE X).2.1 cs_RIAE (fun q => H2 t' F' q p0 (fun z => n z) hm)
      · exact False.elim hE
    · exact False.elim hE
  · obtain ⟨p9, e9, l9, z9, x9, rfl, q9, F', rfl, hz⟩ := hp9
    refine V_i2l X dL_shareOf_7 ?_
    refine V_putf X fl_L_13 zt_X6 ((cW_out hO).trans zup_eq) gO (Nat.le_of_ble_eq_true rfl) rfl (ty := .long) rfl rfl rfl dL_shareOf_8 ?_
    refine V.so (σ' := (t, cW g X0 F' (zup σb Oa (.inr (10, [.long _]))))) (congrArg (Prod.mk _) (by show zup (cW g X0 F' (zup _ _ _)) _ _ = _; rw [cW_zup hO, zup_zup]; rfl)) ?_
    refine V_goto (tgt := 22) X dL_shareOf_11 (by decide) ?_
    refine V_iconst (v := nI 0) X dL_shareOf_22 (by decide) ?_
    exact V_iretW X E (by omega) (by omega) ⟨_, rfl, _, _, _, rfl, Or.inr (Or.inr ⟨rfl, ⟨p9, e9, l9⟩, z9, p9, e9, l9, x9, rfl, q9, hz⟩)⟩ dL_shareOf_23
