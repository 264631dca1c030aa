set_option maxRecDepth 100000 in
set_option maxHeartbeats 4000000 in
theorem k_X0_canPlaceFrom {g : zG} {t : Nat × Nat} {X0 : Nat} {σ0 : Nat → Option va_E} (hX : g.2.1.size ≤ X0) {nP nS nA nC nT : Nat} : ∀ (r : Nat) {F : Nat → Nat → Int32} (hI : cI nP nS nA nC nT F) (hO : cOb 7 F) (dep : Nat) (hr : 7 ≤ dep + r) (hd : dep ≤ 7) (a2 : Int32), Ct g (11 + r) yX0_canPlaceFrom cX0_canPlaceFrom 6 (some .boolean) 0 0 [.ref (X0 + 12), .int (nI dep), .int a2] (t, cW g X0 F σ0) (qC pB g t X0 F σ0) zNo := by
  intro r
  induction r using Nat.strongRecOn with
  | ind r ihr =>
  intro F hI hO dep hr hd a2
  refine Ct.of (lv := [(0, .ref (X0 + 12)), (1, .int (nI (dep))), (2, .int (a2))]) (by decide) (Nat.le_of_ble_eq_true rfl) rfl ?_
  intro κ X E B _
  have X : zX g κ RX0 cX0_canPlaceFrom 6 := X
  obtain ⟨b1, b2, b3, b4, b5⟩ := hI.bnd
  refine V_iload_n X dX0_canPlaceFrom_0 1 rfl ?_
  refine V_aload_n X dX0_canPlaceFrom_1 0 rfl ?_
  obtain ⟨m1, hm1, em1, pm1⟩ := id hO
  refine C_getfN (z := nI m1) X fl_X0_108 12 (by decide) rfl rfl em1 dX0_canPlaceFrom_2 ?_
  refine V_icmpltN X (by omega) (by omega) (tgt := 10) dX0_canPlaceFrom_5 (by decide) (fun h2 => ?_) (fun h2 => ?_)
  · -- 5 true
    refine V_aload_n X dX0_canPlaceFrom_10 0 rfl ?_
    refine C_getf X fl_X0_21 12 (by decide) rfl rfl dX0_canPlaceFrom_11 ?_
    refine V_iload_n X dX0_canPlaceFrom_14 1 rfl ?_
    refine C_iald X (N := 7) 16 (by decide) (dep) rfl (by omega) (by decide) rfl dX0_canPlaceFrom_15 ?_
    obtain ⟨p3, hp3, ep3⟩ := pm1 (dep) (by omega)
    rw [ep3]
    refine V_istore_n X [(3, .int (nI (p3))), (0, .ref (X0 + 12)), (1, .int (nI (dep))), (2, .int (a2))] dX0_canPlaceFrom_16 (by decide) rfl ?_
    refine V_iconst (v := nI 0) X dX0_canPlaceFrom_17 (by decide) ?_
    refine V_istore X [(4, .int (nI (0))), (3, .int (nI (p3))), (0, .ref (X0 + 12)), (1, .int (nI (dep))), (2, .int (a2))] dX0_canPlaceFrom_18 (by decide) rfl ?_
    have L20 : ∀ (n20 : Nat) (i20 : Nat) (G20 : Nat → Nat → Int32), n20 = 5 - i20 → i20 ≤ 5 → cJ F G20 → cOb 7 G20 → V g κ 6 0 0 (t, cW g X0 G20 σ0) 20 [(4, .int (nI (i20))), (3, .int (nI (p3))), (0, .ref (X0 + 12)), (1, .int (nI (dep))), (2, .int (a2))] [] := by
      intro n20
      induction n20 using Nat.strongRecOn with
      | ind n20 ih20 =>
        intro i20 G20 hn20 hi20 hJ20 hO20
        refine V_iload X dX0_canPlaceFrom_20 0 rfl ?_
        refine V_iconst (v := nI 5) X dX0_canPlaceFrom_22 (by decide) ?_
        refine V_icmpgeN X (by omega) (by omega) (tgt := 133) dX0_canPlaceFrom_23 (by decide) (fun h4 => ?_) (fun h4 => ?_)
        · -- 23 true
          refine V_iconst (v := nI 0) X dX0_canPlaceFrom_133 (by decide) ?_
          exact V_zret X E (zbool z01_0) (Nat.zero_le _) (Nat.zero_le _) ⟨⟨_, rfl, z01_0⟩, ⟨_, rfl, hJ20, hO20⟩⟩ dX0_canPlaceFrom_134
        · -- 23 false
          refine V_aload_n X dX0_canPlaceFrom_26 2 rfl ?_
          refine C_getf X fl_X0_24 12 (by decide) rfl rfl dX0_canPlaceFrom_27 ?_
          refine V_iload X dX0_canPlaceFrom_30 0 rfl ?_
          refine C_iald X (N := 5) 17 (by decide) (i20) rfl (by omega) (by decide) rfl dX0_canPlaceFrom_32 ?_
          refine V.topi (fun x5 ex5 => ?_)
          refine V_ifne X (tgt := 40) dX0_canPlaceFrom_33 (by decide) (fun h6 => ?_) (fun h6 => ?_)
          · -- 33 true
            refine V_iconst (v := nI 0) X dX0_canPlaceFrom_40 (by decide) ?_
            refine V_istore X [(5, .int (nI (0))), (4, .int (nI (i20))), (3, .int (nI (p3))), (0, .ref (X0 + 12)), (1, .int (nI (dep))), (2, .int (a2))] dX0_canPlaceFrom_41 (by decide) rfl ?_
            refine V_aload_n X dX0_canPlaceFrom_43 3 rfl ?_
            refine C_getf X fl_X0_15 12 (by decide) rfl rfl dX0_canPlaceFrom_44 ?_
            refine V_iload_n X dX0_canPlaceFrom_47 2 rfl ?_
            refine C_iald X (N := 7) 14 (by decide) (p3) rfl (by omega) (by decide) rfl dX0_canPlaceFrom_48 ?_
            refine V.topi (fun x7 ex7 => ?_)
            refine V_iload X dX0_canPlaceFrom_49 1 rfl ?_
            refine V_callSN (rest := []) X E.room ml_X0_86 st_X5_has (by omega) (by decide) (k_X5_has (σ := (t, cW g X0 G20 σ0)) (x7) (nI (i20))) rfl rfl (Nat.le_of_ble_eq_true rfl) ⟨Nat.le_refl _, Nat.le_refl _⟩ dX0_canPlaceFrom_51 (fun _ _ h => False.elim h) (fun v51 σ' hp51 => ?_)
            obtain ⟨hp51, rfl⟩ := hp51
            obtain ⟨r8, rfl, hr8, fr8⟩ := hp51
            show V g κ 6 0 0 (t, cW g X0 G20 σ0) 54 [(5, .int (nI (0))), (4, .int (nI (i20))), (3, .int (nI (p3))), (0, .ref (X0 + 12)), (1, .int (nI (dep))), (2, .int (a2))] [.int (r8)]
            refine V_ifeq X (tgt := 127) dX0_canPlaceFrom_54 (by decide) (fun h9 => ?_) (fun h9 => ?_)
            · -- 54 true
              have zh9 := mt fr8.mpr (not_not_intro h9)
              refine V_iinc X (nI (i20 + 1)) [(4, .int (nI (i20 + 1))), (5, .int (nI (0))), (3, .int (nI (p3))), (0, .ref (X0 + 12)), (1, .int (nI (dep))), (2, .int (a2))] dX0_canPlaceFrom_127 1 rfl (zinc _) (by decide) rfl ?_
              refine V_goto (tgt := 20) X dX0_canPlaceFrom_130 (by decide) ?_
              exact V.sub [0, 2, 3, 4, 5] rfl (ih20 _ (by omega) (i20 + 1) G20 rfl (by omega) hJ20 hO20)
            · -- 54 false
              have zh9 := fr8.mp h9
              refine V_aload_n X dX0_canPlaceFrom_57 3 rfl ?_
              refine C_getf X fl_X0_24 12 (by decide) rfl rfl dX0_canPlaceFrom_58 ?_
              refine V_iload X dX0_canPlaceFrom_61 1 rfl ?_
              refine C_iald X (N := 5) 17 (by decide) (i20) rfl (by omega) (by decide) rfl dX0_canPlaceFrom_63 ?_
              refine V.topi (fun x10 ex10 => ?_)
              refine V_aload_n X dX0_canPlaceFrom_64 3 rfl ?_
              refine C_getf X fl_X0_18 12 (by decide) rfl rfl dX0_canPlaceFrom_65 ?_
              refine V_iload_n X dX0_canPlaceFrom_68 2 rfl ?_
              refine C_iald X (N := 7) 15 (by decide) (p3) rfl (by omega) (by decide) rfl dX0_canPlaceFrom_69 ?_
              refine V.topi (fun x11 ex11 => ?_)
              refine V_iand X dX0_canPlaceFrom_70 (V.topi (fun w12 ew12 => ?_))
              refine V_ifne X (tgt := 127) dX0_canPlaceFrom_71 (by decide) (fun h13 => ?_) (fun h13 => ?_)
              · -- 71 true
                refine V_iinc X (nI (i20 + 1)) [(4, .int (nI (i20 + 1))), (5, .int (nI (0))), (3, .int (nI (p3))), (0, .ref (X0 + 12)), (1, .int (nI (dep))), (2, .int (a2))] dX0_canPlaceFrom_127 1 rfl (zinc _) (by decide) rfl ?_
                refine V_goto (tgt := 20) X dX0_canPlaceFrom_130 (by decide) ?_
                exact V.sub [0, 2, 3, 4, 5] rfl (ih20 _ (by omega) (i20 + 1) G20 rfl (by omega) hJ20 hO20)
              · -- 71 false
                refine V_iload X dX0_canPlaceFrom_74 0 rfl ?_
                refine V_iload_n X dX0_canPlaceFrom_76 5 rfl ?_
                refine V_icmple X (tgt := 83) dX0_canPlaceFrom_77 (by decide) (fun h14 => ?_) (fun h14 => ?_)
                · -- 77 true
                  refine V_aload_n X dX0_canPlaceFrom_83 3 rfl ?_
                  refine C_getf X fl_X0_24 12 (by decide) rfl rfl dX0_canPlaceFrom_84 ?_
                  refine V_iload X dX0_canPlaceFrom_87 1 rfl ?_
                  refine V_dup2 X dX0_canPlaceFrom_89 rfl rfl ?_
                  refine C_iald X (N := 5) 17 (by decide) (i20) rfl (by omega) (by decide) rfl dX0_canPlaceFrom_90 ?_
                  refine V.topi (fun x15 ex15 => ?_)
                  refine V_iconst (v := nI 1) X dX0_canPlaceFrom_91 (by decide) ?_
                  refine V_iload_n X dX0_canPlaceFrom_92 2 rfl ?_
                  refine V_ishl1 X (by omega) dX0_canPlaceFrom_93 ?_
                  refine V_ior X dX0_canPlaceFrom_94 (V.topi (fun w16 ew16 => ?_))
                  refine C_iast X (N := 5) 17 (by decide) hX (i20) rfl (by omega) (by decide) (fun _ => rfl) dX0_canPlaceFrom_95 (fun F17 hF17 => ?_)
                  have hOF17 := hO20.keep hF17 (by decide)
                  have hJF17 := (hJ20 : cJ F G20).set hF17 (zscr (by omega))
                  refine V_aload_n X dX0_canPlaceFrom_96 3 rfl ?_
                  refine V_iload_n X dX0_canPlaceFrom_97 4 rfl ?_
                  refine V_iconst (v := nI 1) X dX0_canPlaceFrom_98 (by decide) ?_
                  refine V_iaddN X dX0_canPlaceFrom_99 ?_
                  refine V_iload_n X dX0_canPlaceFrom_100 5 rfl ?_
                  refine V_iload X dX0_canPlaceFrom_101 0 rfl ?_
                  refine V_isub X dX0_canPlaceFrom_103 (V.topi (fun w18 ew18 => ?_))
                  refine V_callS (rest := []) X E.room ml_X0_111 st_X0_canPlaceFrom (show 11 + (r - 1) < 11 + r by omega) (by decide) (ihr (r - 1) (by omega) (hI.mv hJF17) hOF17 (dep + 1) (by omega) (by omega) (w18)) rfl rfl (Nat.le_of_ble_eq_true rfl) ⟨Nat.le_refl _, Nat.le_refl _⟩ dX0_canPlaceFrom_104 (fun _ _ h => False.elim h) (fun v104 σ' hp104 => ?_)
                  obtain ⟨hp104, F19, rfl, hJF19, hOF19⟩ := hp104
                  have hKF19 : cJ F F19 := (hJF17 : cJ F F17).trans hJF19
                  obtain ⟨r20, rfl, hr20⟩ := hp104
                  show V g κ 6 0 0 (t, cW g X0 F19 σ0) 107 [(5, .int (nI (0))), (4, .int (nI (i20))), (3, .int (nI (p3))), (0, .ref (X0 + 12)), (1, .int (nI (dep))), (2, .int (a2))] [.int (r20)]
                  refine V_ifeq X (tgt := 112) dX0_canPlaceFrom_107 (by decide) (fun h21 => ?_) (fun h21 => ?_)
                  · -- 107 true
                    refine V_aload_n X dX0_canPlaceFrom_112 3 rfl ?_
                    refine C_getf X fl_X0_24 12 (by decide) rfl rfl dX0_canPlaceFrom_113 ?_
                    refine V_iload X dX0_canPlaceFrom_116 1 rfl ?_
                    refine V_dup2 X dX0_canPlaceFrom_118 rfl rfl ?_
                    refine C_iald X (N := 5) 17 (by decide) (i20) rfl (by omega) (by decide) rfl dX0_canPlaceFrom_119 ?_
                    refine V.topi (fun x22 ex22 => ?_)
                    refine V_iconst (v := nI 1) X dX0_canPlaceFrom_120 (by decide) ?_
                    refine V_iload_n X dX0_canPlaceFrom_121 2 rfl ?_
                    refine V_ishl1 X (by omega) dX0_canPlaceFrom_122 ?_
                    refine V_iconst (v := (-1)) X dX0_canPlaceFrom_123 (by decide) ?_
                    refine V_ixor X dX0_canPlaceFrom_124 (V.topi (fun w23 ew23 => ?_))
                    refine V_iand X dX0_canPlaceFrom_125 (V.topi (fun w24 ew24 => ?_))
                    refine C_iast X (N := 5) 17 (by decide) hX (i20) rfl (by omega) (by decide) (fun _ => rfl) dX0_canPlaceFrom_126 (fun F25 hF25 => ?_)
                    have hOF25 := hOF19.keep hF25 (by decide)
                    have hJF25 := (hKF19 : cJ F F19).set hF25 (zscr (by omega))
                    refine V_iinc X (nI (i20 + 1)) [(4, .int (nI (i20 + 1))), (5, .int (nI (0))), (3, .int (nI (p3))), (0, .ref (X0 + 12)), (1, .int (nI (dep))), (2, .int (a2))] dX0_canPlaceFrom_127 1 rfl (zinc _) (by decide) rfl ?_
                    refine V_goto (tgt := 20) X dX0_canPlaceFrom_130 (by decide) ?_
                    exact V.sub [0, 2, 3, 4, 5] rfl (ih20 _ (by omega) (i20 + 1) F25 rfl (by omega) hJF25 hOF25)
                  · -- 107 false
                    refine V_iconst (v := nI 1) X dX0_canPlaceFrom_110 (by decide) ?_
                    exact V_zret X E (zbool z01_1) (Nat.zero_le _) (Nat.zero_le _) ⟨⟨_, rfl, z01_1⟩, ⟨_, rfl, hKF19, hOF19⟩⟩ dX0_canPlaceFrom_111
                · -- 77 false
                  refine V_goto (tgt := 127) X dX0_canPlaceFrom_80 (by decide) ?_
                  refine V_iinc X (nI (i20 + 1)) [(4, .int (nI (i20 + 1))), (5, .int (nI (0))), (3, .int (nI (p3))), (0, .ref (X0 + 12)), (1, .int (nI (dep))), (2, .int (a2))] dX0_canPlaceFrom_127 1 rfl (zinc _) (by decide) rfl ?_
                  refine V_goto (tgt := 20) X dX0_canPlaceFrom_130 (by decide) ?_
                  exact V.sub [0, 2, 3, 4, 5] rfl (ih20 _ (by omega) (i20 + 1) G20 rfl (by omega) hJ20 hO20)
          · -- 33 false
            refine V_iconst (v := nI 1) X dX0_canPlaceFrom_36 (by decide) ?_
            refine V_goto (tgt := 41) X dX0_canPlaceFrom_37 (by decide) ?_
            refine V_istore X [(5, .int (nI (1))), (4, .int (nI (i20))), (3, .int (nI (p3))), (0, .ref (X0 + 12)), (1, .int (nI (dep))), (2, .int (a2))] dX0_canPlaceFrom_41 (by decide) rfl ?_
            refine V_aload_n X dX0_canPlaceFrom_43 3 rfl ?_
            refine C_getf X fl_X0_15 12 (by decide) rfl rfl dX0_canPlaceFrom_44 ?_
            refine V_iload_n X dX0_canPlaceFrom_47 2 rfl ?_
            refine C_iald X (N := 7) 14 (by decide) (p3) rfl (by omega) (by decide) rfl dX0_canPlaceFrom_48 ?_
            refine V.topi (fun x26 ex26 => ?_)
            refine V_iload X dX0_canPlaceFrom_49 1 rfl ?_
            refine V_callSN (rest := []) X E.room ml_X0_86 st_X5_has (by omega) (by decide) (k_X5_has (σ := (t, cW g X0 G20 σ0)) (x26) (nI (i20))) rfl rfl (Nat.le_of_ble_eq_true rfl) ⟨Nat.le_refl _, Nat.le_refl _⟩ dX0_canPlaceFrom_51 (fun _ _ h => False.elim h) (fun v51 σ' hp51 => ?_)
            obtain ⟨hp51, rfl⟩ := hp51
            obtain ⟨r27, rfl, hr27, fr27⟩ := hp51
            show V g κ 6 0 0 (t, cW g X0 G20 σ0) 54 [(5, .int (nI (1))), (4, .int (nI (i20))), (3, .int (nI (p3))), (0, .ref (X0 + 12)), (1, .int (nI (dep))), (2, .int (a2))] [.int (r27)]
            refine V_ifeq X (tgt := 127) dX0_canPlaceFrom_54 (by decide) (fun h28 => ?_) (fun h28 => ?_)
            · -- 54 true
              have zh28 := mt fr27.mpr (not_not_intro h28)
              refine V_iinc X (nI (i20 + 1)) [(4, .int (nI (i20 + 1))), (5, .int (nI (1))), (3, .int (nI (p3))), (0, .ref (X0 + 12)), (1, .int (nI (dep))), (2, .int (a2))] dX0_canPlaceFrom_127 1 rfl (zinc _) (by decide) rfl ?_
              refine V_goto (tgt := 20) X dX0_canPlaceFrom_130 (by decide) ?_
              exact V.sub [0, 2, 3, 4, 5] rfl (ih20 _ (by omega) (i20 + 1) G20 rfl (by omega) hJ20 hO20)
            · -- 54 false
              have zh28 := fr27.mp h28
              refine V_aload_n X dX0_canPlaceFrom_57 3 rfl ?_
              refine C_getf X fl_X0_24 12 (by decide) rfl rfl dX0_canPlaceFrom_58 ?_
              refine V_iload X dX0_canPlaceFrom_61 1 rfl ?_
              refine C_iald X (N := 5) 17 (by decide) (i20) rfl (by omega) (by decide) rfl dX0_canPlaceFrom_63 ?_
              refine V.topi (fun x29 ex29 => ?_)
              refine V_aload_n X dX0_canPlaceFrom_64 3 rfl ?_
              refine C_getf X fl_X0_18 12 (by decide) rfl rfl dX0_canPlaceFrom_65 ?_
              refine V_iload_n X dX0_canPlaceFrom_68 2 rfl ?_
              refine C_iald X (N := 7) 15 (by decide) (p3) rfl (by omega) (by decide) rfl dX0_canPlaceFrom_69 ?_
              refine V.topi (fun x30 ex30 => ?_)
              refine V_iand X dX0_canPlaceFrom_70 (V.topi (fun w31 ew31 => ?_))
              refine V_ifne X (tgt := 127) dX0_canPlaceFrom_71 (by decide) (fun h32 => ?_) (fun h32 => ?_)
              · -- 71 true
                refine V_iinc X (nI (i20 + 1)) [(4, .int (nI (i20 + 1))), (5, .int (nI (1))), (3, .int (nI (p3))), (0, .ref (X0 + 12)), (1, .int (nI (dep))), (2, .int (a2))] dX0_canPlaceFrom_127 1 rfl (zinc _) (by decide) rfl ?_
                refine V_goto (tgt := 20) X dX0_canPlaceFrom_130 (by decide) ?_
                exact V.sub [0, 2, 3, 4, 5] rfl (ih20 _ (by omega) (i20 + 1) G20 rfl (by omega) hJ20 hO20)
              · -- 71 false
                refine V_iload X dX0_canPlaceFrom_74 0 rfl ?_
                refine V_iload_n X dX0_canPlaceFrom_76 5 rfl ?_
                refine V_icmple X (tgt := 83) dX0_canPlaceFrom_77 (by decide) (fun h33 => ?_) (fun h33 => ?_)
                · -- 77 true
                  refine V_aload_n X dX0_canPlaceFrom_83 3 rfl ?_
                  refine C_getf X fl_X0_24 12 (by decide) rfl rfl dX0_canPlaceFrom_84 ?_
                  refine V_iload X dX0_canPlaceFrom_87 1 rfl ?_
                  refine V_dup2 X dX0_canPlaceFrom_89 rfl rfl ?_
                  refine C_iald X (N := 5) 17 (by decide) (i20) rfl (by omega) (by decide) rfl dX0_canPlaceFrom_90 ?_
                  refine V.topi (fun x34 ex34 => ?_)
                  refine V_iconst (v := nI 1) X dX0_canPlaceFrom_91 (by decide) ?_
                  refine V_iload_n X dX0_canPlaceFrom_92 2 rfl ?_
                  refine V_ishl1 X (by omega) dX0_canPlaceFrom_93 ?_
                  refine V_ior X dX0_canPlaceFrom_94 (V.topi (fun w35 ew35 => ?_))
                  refine C_iast X (N := 5) 17 (by decide) hX (i20) rfl (by omega) (by decide) (fun _ => rfl) dX0_canPlaceFrom_95 (fun F36 hF36 => ?_)
                  have hOF36 := hO20.keep hF36 (by decide)
                  have hJF36 := (hJ20 : cJ F G20).set hF36 (zscr (by omega))
                  refine V_aload_n X dX0_canPlaceFrom_96 3 rfl ?_
                  refine V_iload_n X dX0_canPlaceFrom_97 4 rfl ?_
                  refine V_iconst (v := nI 1) X dX0_canPlaceFrom_98 (by decide) ?_
                  refine V_iaddN X dX0_canPlaceFrom_99 ?_
                  refine V_iload_n X dX0_canPlaceFrom_100 5 rfl ?_
                  refine V_iload X dX0_canPlaceFrom_101 0 rfl ?_
                  refine V_isub X dX0_canPlaceFrom_103 (V.topi (fun w37 ew37 => ?_))
                  refine V_callS (rest := []) X E.room ml_X0_111 st_X0_canPlaceFrom (show 11 + (r - 1) < 11 + r by omega) (by decide) (ihr (r - 1) (by omega) (hI.mv hJF36) hOF36 (dep + 1) (by omega) (by omega) (w37)) rfl rfl (Nat.le_of_ble_eq_true rfl) ⟨Nat.le_refl _, Nat.le_refl _⟩ dX0_canPlaceFrom_104 (fun _ _ h => False.elim h) (fun v104 σ' hp104 => ?_)
                  obtain ⟨hp104, F38, rfl, hJF38, hOF38⟩ := hp104
                  have hKF38 : cJ F F38 := (hJF36 : cJ F F36).trans hJF38
                  obtain ⟨r39, rfl, hr39⟩ := hp104
                  show V g κ 6 0 0 (t, cW g X0 F38 σ0) 107 [(5, .int (nI (1))), (4, .int (nI (i20))), (3, .int (nI (p3))), (0, .ref (X0 + 12)), (1, .int (nI (dep))), (2, .int (a2))] [.int (r39)]
                  refine V_ifeq X (tgt := 112) dX0_canPlaceFrom_107 (by decide) (fun h40 => ?_) (fun h40 => ?_)
                  · -- 107 true
                    refine V_aload_n X dX0_canPlaceFrom_112 3 rfl ?_
                    refine C_getf X fl_X0_24 12 (by decide) rfl rfl dX0_canPlaceFrom_113 ?_
                    refine V_iload X dX0_canPlaceFrom_116 1 rfl ?_
                    refine V_dup2 X dX0_canPlaceFrom_118 rfl rfl ?_
                    refine C_iald X (N := 5) 17 (by decide) (i20) rfl (by omega) (by decide) rfl dX0_canPlaceFrom_119 ?_
                    refine V.topi (fun x41 ex41 => ?_)
                    refine V_iconst (v := nI 1) X dX0_canPlaceFrom_120 (by decide) ?_
                    refine V_iload_n X dX0_canPlaceFrom_121 2 rfl ?_
                    refine V_ishl1 X (by omega) dX0_canPlaceFrom_122 ?_
                    refine V_iconst (v := (-1)) X dX0_canPlaceFrom_123 (by decide) ?_
                    refine V_ixor X dX0_canPlaceFrom_124 (V.topi (fun w42 ew42 => ?_))
                    refine V_iand X dX0_canPlaceFrom_125 (V.topi (fun w43 ew43 => ?_))
                    refine C_iast X (N := 5) 17 (by decide) hX (i20) rfl (by omega) (by decide) (fun _ => rfl) dX0_canPlaceFrom_126 (fun F44 hF44 => ?_)
                    have hOF44 := hOF38.keep hF44 (by decide)
                    have hJF44 := (hKF38 : cJ F F38).set hF44 (zscr (by omega))
                    refine V_iinc X (nI (i20 + 1)) [(4, .int (nI (i20 + 1))), (5, .int (nI (1))), (3, .int (nI (p3))), (0, .ref (X0 + 12)), (1, .int (nI (dep))), (2, .int (a2))] dX0_canPlaceFrom_127 1 rfl (zinc _) (by decide) rfl ?_
                    refine V_goto (tgt := 20) X dX0_canPlaceFrom_130 (by decide) ?_
                    exact V.sub [0, 2, 3, 4, 5] rfl (ih20 _ (by omega) (i20 + 1) F44 rfl (by omega) hJF44 hOF44)
                  · -- 107 false
                    refine V_iconst (v := nI 1) X dX0_canPlaceFrom_110 (by decide) ?_
                    exact V_zret X E (zbool z01_1) (Nat.zero_le _) (Nat.zero_le _) ⟨⟨_, rfl, z01_1⟩, ⟨_, rfl, hKF38, hOF38⟩⟩ dX0_canPlaceFrom_111
                · -- 77 false
                  refine V_goto (tgt := 127) X dX0_canPlaceFrom_80 (by decide) ?_
                  refine V_iinc X (nI (i20 + 1)) [(4, .int (nI (i20 + 1))), (5, .int (nI (1))), (3, .int (nI (p3))), (0, .ref (X0 + 12)), (1, .int (nI (dep))), (2, .int (a2))] dX0_canPlaceFrom_127 1 rfl (zinc _) (by decide) rfl ?_
                  refine V_goto (tgt := 20) X dX0_canPlaceFrom_130 (by decide) ?_
                  exact V.sub [0, 2, 3, 4, 5] rfl (ih20 _ (by omega) (i20 + 1) G20 rfl (by omega) hJ20 hO20)
    exact L20 _ 0 F rfl (by omega) cJ.rfl' hO
  · -- 5 false
    refine V_iconst (v := nI 1) X dX0_canPlaceFrom_8 (by decide) ?_
    exact V_zret X E (zbool z01_1) (Nat.zero_le _) (Nat.zero_le _) ⟨⟨_, rfl, z01_1⟩, ⟨_, rfl, cJ.rfl', hO⟩⟩ dX0_canPlaceFrom_9
set_option maxRecDepth 100000 in
set_option maxHeartbeats 4000000 in
theorem k_X0_canPlace {g : zG} {t : Nat × Nat} {X0 : Nat} {σ0 : Nat → Option va_E} {F : Nat → Nat → Int32} (hX : g.2.1.size ≤ X0) {nP nS nA nC nT : Nat} (hI : cI nP nS nA nC nT F) (hO : cOb 7 F) (a1 : Int32) : Ct g 19 yX0_canPlace cX0_canPlace 3 (some FieldType.boolean) 0 0 [.ref (X0 + 12), .int (a1)] (t, cW g X0 F σ0) (qC pB g t X0 F σ0) zNo := by
  refine Ct.of (lv := [(0, .ref (X0 + 12)), (1, .int (a1))]) (by decide) (Nat.le_of_ble_eq_true rfl) rfl ?_
  intro κ X E B _
  have X : zX g κ RX0 cX0_canPlace 3 := X
  obtain ⟨b1, b2, b3, b4, b5⟩ := hI.bnd
  refine V_iconst (v := nI 0) X dX0_canPlace_0 (by decide) ?_
  refine V_istore_n X [(2, .int (nI (0))), (0, .ref (X0 + 12)), (1, .int (a1))] dX0_canPlace_1 (by decide) rfl ?_
  have L2 : ∀ (n2 : Nat) (i2 : Nat) (G2 : Nat → Nat → Int32), n2 = 5 - i2 → i2 ≤ 5 → cJ F G2 → cOb 7 G2 → V g κ 3 0 0 (t, cW g X0 G2 σ0) 2 [(2, .int (nI (i2))), (0, .ref (X0 + 12)), (1, .int (a1))] [] := by
    intro n2
    induction n2 using Nat.strongRecOn with
    | ind n2 ih2 =>
      intro i2 G2 hn2 hi2 hJ2 hO2
      refine V_iload_n X dX0_canPlace_2 0 rfl ?_
      refine V_iconst (v := nI 5) X dX0_canPlace_3 (by decide) ?_
      refine V_icmpgeN X (by omega) (by omega) (tgt := 20) dX0_canPlace_4 (by decide) (fun h1 => ?_) (fun h1 => ?_)
      · -- 4 true
        refine V_aload_n X dX0_canPlace_20 1 rfl ?_
        refine V_iconst (v := nI 0) X dX0_canPlace_21 (by decide) ?_
        refine V_iload_n X dX0_canPlace_22 2 rfl ?_
        refine V_callS (rest := []) X E.room ml_X0_111 st_X0_canPlaceFrom (by omega) (by decide) (k_X0_canPlaceFrom hX 7 (hI.mv hJ2) hO2 0 (by omega) (by omega) (a1)) rfl rfl (Nat.le_of_ble_eq_true rfl) ⟨Nat.le_refl _, Nat.le_refl _⟩ dX0_canPlace_23 (fun _ _ h => False.elim h) (fun v23 σ' hp23 => ?_)
        obtain ⟨hp23, F2, rfl, hJF2, hOF2⟩ := hp23
        have hKF2 : cJ F F2 := (hJ2 : cJ F G2).trans hJF2
        obtain ⟨r3, rfl, hr3⟩ := hp23
        show V g κ 3 0 0 (t, cW g X0 F2 σ0) 26 [(2, .int (nI (i2))), (0, .ref (X0 + 12)), (1, .int (a1))] [.int (r3)]
        exact V_zret X E (zbool hr3) (Nat.zero_le _) (Nat.zero_le _) ⟨⟨_, rfl, hr3⟩, ⟨_, rfl, hKF2, hOF2⟩⟩ dX0_canPlace_26
      · -- 4 false
        refine V_aload_n X dX0_canPlace_7 1 rfl ?_
        refine C_getf X fl_X0_24 12 (by decide) rfl rfl dX0_canPlace_8 ?_
        refine V_iload_n X dX0_canPlace_11 0 rfl ?_
        refine V_iconst (v := nI 0) X dX0_canPlace_12 (by decide) ?_
        refine C_iast X (N := 5) 17 (by decide) hX (i2) rfl (by omega) (by decide) (fun _ => rfl) dX0_canPlace_13 (fun F4 hF4 => ?_)
        have hOF4 := hO2.keep hF4 (by decide)
        have hJF4 := (hJ2 : cJ F G2).set hF4 (zscr (by omega))
        refine V_iinc X (nI (i2 + 1)) [(2, .int (nI (i2 + 1))), (0, .ref (X0 + 12)), (1, .int (a1))] dX0_canPlace_14 0 rfl (zinc _) (by decide) rfl ?_
        refine V_goto (tgt := 2) X dX0_canPlace_17 (by decide) ?_
        exact V.sub [0, 1, 2] rfl (ih2 _ (by omega) (i2 + 1) F4 rfl (by omega) hJF4 hOF4)
  exact L2 _ 0 F rfl (by omega) cJ.rfl' hO
set_option maxRecDepth 100000 in
set_option maxHeartbeats 4000000 in
theorem k_X0_fewest {g : zG} {t : Nat × Nat} {X0 : Nat} {σ0 : Nat → Option va_E} {F : Nat → Nat → Int32} (hX : g.2.1.size ≤ X0) {nP nS nA nC nT : Nat} (hI : cI nP nS nA nC nT F) (a3 : Int32) : Ct g 20 yX0_fewest cX0_fewest 5 (some FieldType.int) 0 0 [.ref (X0 + 12), .ref (X0 + 1), .ref (X0 + 7), .int (a3)] (t, cW g X0 F σ0) (qS pI g t X0 F σ0) zNo := by
  refine Ct.of (lv := [(0, .ref (X0 + 12)), (1, .ref (X0 + 1)), (2, .ref (X0 + 7)), (3, .int (a3))]) (by decide) (Nat.le_of_ble_eq_true rfl) rfl ?_
  intro κ X E B _
  have X : zX g κ RX0 cX0_fewest 5 := X
  obtain ⟨b1, b2, b3, b4, b5⟩ := hI.bnd
  refine V_aload_n X dX0_fewest_0 0 rfl ?_
  refine V_aload_n X dX0_fewest_1 1 rfl ?_
  refine V_aload_n X dX0_fewest_2 2 rfl ?_
  refine V_iload_n X dX0_fewest_3 3 rfl ?_
  refine V_callV (rest := []) X E.room ml_X0_82 in_X0_prepare (ci := 4) rfl se_X0_prepare (C_recv (q := 12) (by decide) rfl) (by decide) (by decide) (k_X0_prepare hX hI (a3)) rfl rfl (Nat.le_of_ble_eq_true rfl) ⟨Nat.le_refl _, Nat.le_refl _⟩ dX0_fewest_4 (fun _ _ h => False.elim h) (fun v4 σ' hp4 => ?_)
  obtain ⟨hp4, F1, rfl, hJF1, hOF1⟩ := hp4
  have hKF1 : cJ F F1 := (cJ.rfl' : cJ F F).trans hJF1
  cases (hp4 : _ = none)
  show V g κ 5 0 0 (t, cW g X0 F1 σ0) 7 [(0, .ref (X0 + 12)), (1, .ref (X0 + 1)), (2, .ref (X0 + 7)), (3, .int (a3))] []
  refine V_aload_n X dX0_fewest_7 0 rfl ?_
  refine V_iconst (v := nI 5) X dX0_fewest_8 (by decide) ?_
  refine V_callV (rest := []) X E.room ml_X0_64 in_X0_canPlace (ci := 4) rfl se_X0_canPlace (C_recv (q := 12) (by decide) rfl) (by decide) (by decide) (k_X0_canPlace hX (hI.mv hKF1) hOF1 (nI (5))) rfl rfl (Nat.le_of_ble_eq_true rfl) ⟨Nat.le_refl _, Nat.le_refl _⟩ dX0_fewest_9 (fun _ _ h => False.elim h) (fun v9 σ' hp9 => ?_)
  obtain ⟨hp9, F2, rfl, hJF2, hOF2⟩ := hp9
  have hKF2 : cJ F F2 := (hKF1 : cJ F F1).trans hJF2
  obtain ⟨r3, rfl, hr3⟩ := hp9
  show V g κ 5 0 0 (t, cW g X0 F2 σ0) 12 [(0, .ref (X0 + 12)), (1, .ref (X0 + 1)), (2, .ref (X0 + 7)), (3, .int (a3))] [.int (r3)]
  refine V_ifne X (tgt := 17) dX0_fewest_12 (by decide) (fun h4 => ?_) (fun h4 => ?_)
  · -- 12 true
    refine V_iconst (v := nI 0) X dX0_fewest_17 (by decide) ?_
    refine V_istore X [(4, .int (nI (0))), (0, .ref (X0 + 12)), (1, .ref (X0 + 1)), (2, .ref (X0 + 7)), (3, .int (a3))] dX0_fewest_18 (by decide) rfl ?_
    have L20 : ∀ (n20 : Nat) (i20 : Nat) (G20 : Nat → Nat → Int32), n20 = 5 - i20 → i20 ≤ 5 → cJ F G20 → cOb 7 G20 → V g κ 5 0 0 (t, cW g X0 G20 σ0) 20 [(4, .int (nI (i20))), (0, .ref (X0 + 12)), (1, .ref (X0 + 1)), (2, .ref (X0 + 7)), (3, .int (a3))] [] := by
      intro n20
      induction n20 using Nat.strongRecOn with
      | ind n20 ih20 =>
        intro i20 G20 hn20 hi20 hJ20 hO20
        refine V_iload X dX0_fewest_20 0 rfl ?_
        refine V_iconst (v := nI 5) X dX0_fewest_22 (by decide) ?_
        refine V_icmpgeN X (by omega) (by omega) (tgt := 44) dX0_fewest_23 (by decide) (fun h5 => ?_) (fun h5 => ?_)
        · -- 23 true
          refine V_iconst (v := nI 5) X dX0_fewest_44 (by decide) ?_
          exact V_iret X E (Nat.zero_le _) (Nat.zero_le _) ⟨⟨_, rfl⟩, ⟨_, rfl, hJ20⟩⟩ dX0_fewest_45
        · -- 23 false
          refine V_aload_n X dX0_fewest_26 1 rfl ?_
          refine V_iload X dX0_fewest_27 0 rfl ?_
          refine V_callV (rest := []) X E.room ml_X0_64 in_X0_canPlace (ci := 4) rfl se_X0_canPlace (C_recv (q := 12) (by decide) rfl) (by decide) (by decide) (k_X0_canPlace hX (hI.mv hJ20) hO20 (nI (i20))) rfl rfl (Nat.le_of_ble_eq_true rfl) ⟨Nat.le_refl _, Nat.le_refl _⟩ dX0_fewest_29 (fun _ _ h => False.elim h) (fun v29 σ' hp29 => ?_)
          obtain ⟨hp29, F6, rfl, hJF6, hOF6⟩ := hp29
          have hKF6 : cJ F F6 := (hJ20 : cJ F G20).trans hJF6
          obtain ⟨r7, rfl, hr7⟩ := hp29
          show V g κ 5 0 0 (t, cW g X0 F6 σ0) 32 [(4, .int (nI (i20))), (0, .ref (X0 + 12)), (1, .ref (X0 + 1)), (2, .ref (X0 + 7)), (3, .int (a3))] [.int (r7)]
          refine V_ifeq X (tgt := 38) dX0_fewest_32 (by decide) (fun h8 => ?_) (fun h8 => ?_)
          · -- 32 true
            refine V_iinc X (nI (i20 + 1)) [(4, .int (nI (i20 + 1))), (0, .ref (X0 + 12)), (1, .ref (X0 + 1)), (2, .ref (X0 + 7)), (3, .int (a3))] dX0_fewest_38 0 rfl (zinc _) (by decide) rfl ?_
            refine V_goto (tgt := 20) X dX0_fewest_41 (by decide) ?_
            exact V.sub [0, 1, 2, 3, 4] rfl (ih20 _ (by omega) (i20 + 1) F6 rfl (by omega) hKF6 hOF6)
          · -- 32 false
            refine V_iload X dX0_fewest_35 0 rfl ?_
            exact V_iret X E (Nat.zero_le _) (Nat.zero_le _) ⟨⟨_, rfl⟩, ⟨_, rfl, hKF6⟩⟩ dX0_fewest_37
    exact L20 _ 0 F2 rfl (by omega) hKF2 hOF2
  · -- 12 false
    refine V_iconst (v := (-1)) X dX0_fewest_15 (by decide) ?_
    exact V_iret X E (Nat.zero_le _) (Nat.zero_le _) ⟨⟨_, rfl⟩, ⟨_, rfl, hKF2⟩⟩ dX0_fewest_16
set_option maxRecDepth 100000 in
set_option maxHeartbeats 4000000 in
theorem k_X5_bestCastClashes {g : zG} {t : Nat × Nat} {X0 : Nat} {σ0 : Nat → Option va_E} {F : Nat → Nat → Int32} (hX : g.2.1.size ≤ X0) {nP nS nA nC nT : Nat} (hI : cI nP nS nA nC nT F)  : Ct g 14 yX5_bestCastClashes cX5_bestCastClashes 3 (some FieldType.boolean) 0 0 [.ref (X0 + 0)] (t, cW g X0 F σ0) (qS pB g t X0 F σ0) zNo := by
  refine Ct.of (lv := [(0, .ref (X0 + 0))]) (by decide) (Nat.le_of_ble_eq_true rfl) rfl ?_
  intro κ X E B _
  have X : zX g κ RX5 cX5_bestCastClashes 3 := X
  obtain ⟨b1, b2, b3, b4, b5⟩ := hI.bnd
  refine V_iconst (v := nI 0) X dX5_bestCastClashes_0 (by decide) ?_
  refine V_istore_n X [(1, .int (nI (0))), (0, .ref (X0 + 0))] dX5_bestCastClashes_1 (by decide) rfl ?_
  have L2 : ∀ (n2 : Nat) (i2 : Nat) (G2 : Nat → Nat → Int32), n2 = nP - i2 → i2 ≤ nP → cJ F G2 → V g κ 3 0 0 (t, cW g X0 G2 σ0) 2 [(1, .int (nI (i2))), (0, .ref (X0 + 0))] [] := by
    intro n2
    induction n2 using Nat.strongRecOn with
    | ind n2 ih2 =>
      intro i2 G2 hn2 hi2 hJ2
      refine V_iload_n X dX5_bestCastClashes_2 0 rfl ?_
      refine V_aload_n X dX5_bestCastClashes_3 1 rfl ?_
      refine C_getf X fl_X5_10 0 (by decide) rfl rfl dX5_bestCastClashes_4 ?_
      refine C_getfN (z := nI (nP)) X fl_X5_48 1 (by decide) rfl rfl (hI.mv hJ2).f1_5 dX5_bestCastClashes_7 ?_
      refine V_icmpgeN X (by omega) (by omega) (tgt := 60) dX5_bestCastClashes_10 (by decide) (fun h1 => ?_) (fun h1 => ?_)
      · -- 10 true
        refine V_iconst (v := nI 0) X dX5_bestCastClashes_60 (by decide) ?_
        exact V_zret X E (zbool z01_0) (Nat.zero_le _) (Nat.zero_le _) ⟨⟨_, rfl, z01_0⟩, ⟨_, rfl, hJ2⟩⟩ dX5_bestCastClashes_61
      · -- 10 false
        refine V_aload_n X dX5_bestCastClashes_13 1 rfl ?_
        refine C_getf X fl_X5_26 0 (by decide) rfl rfl dX5_bestCastClashes_14 ?_
        refine V_iload_n X dX5_bestCastClashes_17 0 rfl ?_
        refine V_callV (rest := []) X E.room ml_X5_174 in_X0_playerOf (ci := 4) rfl se_X0_playerOf (C_recv (q := 12) (by decide) rfl) (by decide) (by decide) (k_X0_playerOf hX (hI.mv hJ2) (nI (i2))) rfl rfl (Nat.le_of_ble_eq_true rfl) ⟨Nat.le_refl _, Nat.le_refl _⟩ dX5_bestCastClashes_18 (fun _ _ h => False.elim h) (fun v18 σ' hp18 => ?_)
        obtain ⟨hp18, rfl⟩ := hp18
        rcases hp18 with ⟨rfl, nr2⟩ | ⟨r2, hr2, rfl, yr2, zr2⟩
        · -- none
          show V g κ 3 0 0 (t, cW g X0 G2 σ0) 21 [(1, .int (nI (i2))), (0, .ref (X0 + 0))] [.int (-1)]
          refine V_istore_n X [(2, .int (-1)), (1, .int (nI (i2))), (0, .ref (X0 + 0))] dX5_bestCastClashes_21 (by decide) rfl ?_
          refine V_iload_n X dX5_bestCastClashes_22 0 rfl ?_
          refine V_iconst (v := (-1)) X dX5_bestCastClashes_23 (by decide) ?_
          refine V_icmpeq X (tgt := 54) dX5_bestCastClashes_24 (by decide) (fun h3 => ?_) (fun h3 => absurd h3 (not_not_intro rfl))
          refine V_iinc X (nI (i2 + 1)) [(1, .int (nI (i2 + 1))), (2, .int (-1)), (0, .ref (X0 + 0))] dX5_bestCastClashes_54 1 rfl (zinc _) (by decide) rfl ?_
          refine V_goto (tgt := 2) X dX5_bestCastClashes_57 (by decide) ?_
          exact V.sub [0, 2] rfl (ih2 _ (by omega) (i2 + 1) G2 rfl (by omega) hJ2)
        · -- number
          show V g κ 3 0 0 (t, cW g X0 G2 σ0) 21 [(1, .int (nI (i2))), (0, .ref (X0 + 0))] [.int (nI (r2))]
          refine V_istore_n X [(2, .int (nI (r2))), (1, .int (nI (i2))), (0, .ref (X0 + 0))] dX5_bestCastClashes_21 (by decide) rfl ?_
          refine V_iload_n X dX5_bestCastClashes_22 0 rfl ?_
          refine V_iconst (v := (-1)) X dX5_bestCastClashes_23 (by decide) ?_
          refine V_icmpeq X (tgt := 54) dX5_bestCastClashes_24 (by decide) (fun h4 => absurd h4 (znm1 (by omega))) (fun h4 => ?_)
          refine V_aload_n X dX5_bestCastClashes_27 2 rfl ?_
          refine C_getf X fl_X5_26 0 (by decide) rfl rfl dX5_bestCastClashes_28 ?_
          refine C_getf X fl_X5_186 12 (by decide) rfl rfl dX5_bestCastClashes_31 ?_
          refine V_iload_n X dX5_bestCastClashes_34 0 rfl ?_
          refine C_iald X (N := 5) 13 (by decide) (r2) rfl (by omega) (by decide) rfl dX5_bestCastClashes_35 ?_
          refine V.topi (fun x5 ex5 => ?_)
          refine V_aload_n X dX5_bestCastClashes_36 2 rfl ?_
          refine C_getf X fl_X5_26 0 (by decide) rfl rfl dX5_bestCastClashes_37 ?_
          refine V_iload_n X dX5_bestCastClashes_40 1 rfl ?_
          refine V_aload_n X dX5_bestCastClashes_41 2 rfl ?_
          refine C_getf X fl_X5_10 0 (by decide) rfl rfl dX5_bestCastClashes_42 ?_
          refine V_callV (rest := [.int (x5)]) X E.room ml_X5_167 in_X0_clashesOf (ci := 4) rfl se_X0_clashesOf (C_recv (q := 12) (by decide) rfl) (by decide) (by decide) (k_X0_clashesOf hX (hI.mv hJ2) (i2) (by omega)) rfl rfl (Nat.le_of_ble_eq_true rfl) ⟨Nat.le_refl _, Nat.le_refl _⟩ dX5_bestCastClashes_45 (fun _ _ h => False.elim h) (fun v45 σ' hp45 => ?_)
          obtain ⟨hp45, F6, rfl, hJF6⟩ := hp45
          have hKF6 : cJ F F6 := (hJ2.trans hJF6)
          obtain ⟨r7, rfl⟩ := hp45
          show V g κ 3 0 0 (t, cW g X0 F6 σ0) 48 [(2, .int (nI (r2))), (1, .int (nI (i2))), (0, .ref (X0 + 0))] [.int (r7), .int (x5)]
          refine V_iand X dX5_bestCastClashes_48 (V.topi (fun w8 ew8 => ?_))
          refine V_ifeq X (tgt := 54) dX5_bestCastClashes_49 (by decide) (fun h9 => ?_) (fun h9 => ?_)
          · -- 49 true
            refine V_iinc X (nI (i2 + 1)) [(1, .int (nI (i2 + 1))), (2, .int (nI (r2))), (0, .ref (X0 + 0))] dX5_bestCastClashes_54 1 rfl (zinc _) (by decide) rfl ?_
            refine V_goto (tgt := 2) X dX5_bestCastClashes_57 (by decide) ?_
            exact V.sub [0, 2] rfl (ih2 _ (by omega) (i2 + 1) F6 rfl (by omega) hKF6)
          · -- 49 false
            refine V_iconst (v := nI 1) X dX5_bestCastClashes_52 (by decide) ?_
            exact V_zret X E (zbool z01_1) (Nat.zero_le _) (Nat.zero_le _) ⟨⟨_, rfl, z01_1⟩, ⟨_, rfl, hKF6⟩⟩ dX5_bestCastClashes_53
  exact L2 _ 0 F rfl (by omega) cJ.rfl'
set_option maxRecDepth 100000 in
set_option maxHeartbeats 4000000 in
theorem k_X5_withOneMore {g : zG} {σ : zS}  (a1 : Int32) (a2 : Int32) : Ct g 11 yX5_withOneMore cX5_withOneMore 5 (some FieldType.int) 0 0 [.int (a1), .int (a2)] σ (qR pI σ) zNo := by
  refine Ct.of (lv := [(0, .int (a1)), (1, .int (a2))]) (by decide) (Nat.le_of_ble_eq_true rfl) rfl ?_
  intro κ X E B _
  have X : zX g κ RX5 cX5_withOneMore 5 := X
  refine V_iload_n X dX5_withOneMore_0 0 rfl ?_
  refine V_istore_n X [(2, .int (a1)), (0, .int (a1)), (1, .int (a2))] dX5_withOneMore_1 (by decide) rfl ?_
  refine V_iconst (v := nI 0) X dX5_withOneMore_2 (by decide) ?_
  refine V_istore_n X [(3, .int (nI (0))), (2, .int (a1)), (0, .int (a1)), (1, .int (a2))] dX5_withOneMore_3 (by decide) rfl ?_
  have L4 : ∀ (n4 : Nat) (i4 : Nat) (x4_2 : Int32), n4 = 32 - i4 → i4 ≤ 32 → V g κ 5 0 0 σ 4 [(3, .int (nI (i4))), (2, .int (x4_2)), (0, .int (a1)), (1, .int (a2))] [] := by
    intro n4
    induction n4 using Nat.strongRecOn with
    | ind n4 ih4 =>
      intro i4 x4_2 hn4 hi4
      refine V_iload_n X dX5_withOneMore_4 0 rfl ?_
      refine V_bipush (v := nI 32) X dX5_withOneMore_5 (by decide) ?_
      refine V_icmpgeN X (by omega) (by omega) (tgt := 66) dX5_withOneMore_7 (by decide) (fun h1 => ?_) (fun h1 => ?_)
      · -- 7 true
        refine V_iload_n X dX5_withOneMore_66 1 rfl ?_
        exact V_iret X E (Nat.zero_le _) (Nat.zero_le _) ⟨⟨_, rfl⟩, rfl⟩ dX5_withOneMore_67
      · -- 7 false
        refine V_iload_n X dX5_withOneMore_10 2 rfl ?_
        refine V_iload_n X dX5_withOneMore_11 0 rfl ?_
        refine V_callS (rest := []) X E.room ml_X5_102 st_X5_has (by omega) (by decide) (k_X5_has (σ := σ) (a1) (nI (i4))) rfl rfl (Nat.le_of_ble_eq_true rfl) ⟨Nat.le_refl _, Nat.le_refl _⟩ dX5_withOneMore_12 (fun _ _ h => False.elim h) (fun v12 σ' hp12 => ?_)
        obtain ⟨hp12, e9hp12⟩ := hp12
        rw [e9hp12]
        obtain ⟨r2, rfl, hr2, fr2⟩ := hp12
        show V g κ 5 0 0 σ 15 [(3, .int (nI (i4))), (2, .int (x4_2)), (0, .int (a1)), (1, .int (a2))] [.int (r2)]
        refine V_ifne X (tgt := 21) dX5_withOneMore_15 (by decide) (fun h3 => ?_) (fun h3 => ?_)
        · -- 15 true
          have zh3 := fr2.mp h3
          refine V_iconst (v := nI 0) X dX5_withOneMore_21 (by decide) ?_
          refine V_istore X [(4, .int (nI (0))), (3, .int (nI (i4))), (2, .int (x4_2)), (0, .int (a1)), (1, .int (a2))] dX5_withOneMore_22 (by decide) rfl ?_
          have L24 : ∀ (n24 : Nat) (i24 : Nat) (x24_2 : Int32), n24 = 5 - i24 → i24 ≤ 5 → V g κ 5 0 0 σ 24 [(4, .int (nI (i24))), (3, .int (nI (i4))), (2, .int (x24_2)), (0, .int (a1)), (1, .int (a2))] [] := by
            intro n24
            induction n24 using Nat.strongRecOn with
            | ind n24 ih24 =>
              intro i24 x24_2 hn24 hi24
              refine V_iload X dX5_withOneMore_24 0 rfl ?_
              refine V_iconst (v := nI 5) X dX5_withOneMore_26 (by decide) ?_
              refine V_icmpgeN X (by omega) (by omega) (tgt := 60) dX5_withOneMore_27 (by decide) (fun h4 => ?_) (fun h4 => ?_)
              · -- 27 true
                refine V_iinc X (nI (i4 + 1)) [(3, .int (nI (i4 + 1))), (4, .int (nI (i24))), (2, .int (x24_2)), (0, .int (a1)), (1, .int (a2))] dX5_withOneMore_60 1 rfl (zinc _) (by decide) rfl ?_
                refine V_goto (tgt := 4) X dX5_withOneMore_63 (by decide) ?_
                exact V.sub [0, 2, 3, 4] rfl (ih4 _ (by omega) (i4 + 1) x24_2 rfl (by omega))
              · -- 27 false
                refine V_iload_n X dX5_withOneMore_30 4 rfl ?_
                refine V_iload_n X dX5_withOneMore_31 1 rfl ?_
                refine V_iconst (v := (-1)) X dX5_withOneMore_32 (by decide) ?_
                refine V_ixor X dX5_withOneMore_33 (V.topi (fun w5 ew5 => ?_))
                refine V_iand X dX5_withOneMore_34 (V.topi (fun w6 ew6 => ?_))
                refine V_iload X dX5_withOneMore_35 0 rfl ?_
                refine V_callS (rest := []) X E.room ml_X5_102 st_X5_has (by omega) (by decide) (k_X5_has (σ := σ) (w6) (nI (i24))) rfl rfl (Nat.le_of_ble_eq_true rfl) ⟨Nat.le_refl _, Nat.le_refl _⟩ dX5_withOneMore_37 (fun _ _ h => False.elim h) (fun v37 σ' hp37 => ?_)
                obtain ⟨hp37, e9hp37⟩ := hp37
                rw [e9hp37]
                obtain ⟨r7, rfl, hr7, fr7⟩ := hp37
                show V g κ 5 0 0 σ 40 [(4, .int (nI (i24))), (3, .int (nI (i4))), (2, .int (x24_2)), (0, .int (a1)), (1, .int (a2))] [.int (r7)]
                refine V_ifeq X (tgt := 54) dX5_withOneMore_40 (by decide) (fun h8 => ?_) (fun h8 => ?_)
                · -- 40 true
                  have zh8 := mt fr7.mpr (not_not_intro h8)
                  refine V_iinc X (nI (i24 + 1)) [(4, .int (nI (i24 + 1))), (3, .int (nI (i4))), (2, .int (x24_2)), (0, .int (a1)), (1, .int (a2))] dX5_withOneMore_54 0 rfl (zinc _) (by decide) rfl ?_
                  refine V_goto (tgt := 24) X dX5_withOneMore_57 (by decide) ?_
                  exact V.sub [0, 1, 2, 3, 4] rfl (ih24 _ (by omega) (i24 + 1) x24_2 rfl (by omega))
                · -- 40 false
                  have zh8 := fr7.mp h8
                  refine V_iload_n X dX5_withOneMore_43 2 rfl ?_
                  refine V_iconst (v := nI 1) X dX5_withOneMore_44 (by decide) ?_
                  refine V_iload_n X dX5_withOneMore_45 1 rfl ?_
                  refine V_iconst (v := nI 1) X dX5_withOneMore_46 (by decide) ?_
                  refine V_iload X dX5_withOneMore_47 0 rfl ?_
                  refine V_ishl1 X (by omega) dX5_withOneMore_49 ?_
                  refine V_iorN X dX5_withOneMore_50 ?_
                  refine V_ishl X dX5_withOneMore_51 (V.topi (fun w9 ew9 => ?_))
                  refine V_ior X dX5_withOneMore_52 (V.topi (fun w10 ew10 => ?_))
                  refine V_istore_n X [(2, .int (w10)), (4, .int (nI (i24))), (3, .int (nI (i4))), (0, .int (a1)), (1, .int (a2))] dX5_withOneMore_53 (by decide) rfl ?_
                  refine V_iinc X (nI (i24 + 1)) [(4, .int (nI (i24 + 1))), (2, .int (w10)), (3, .int (nI (i4))), (0, .int (a1)), (1, .int (a2))] dX5_withOneMore_54 1 rfl (zinc _) (by decide) rfl ?_
                  refine V_goto (tgt := 24) X dX5_withOneMore_57 (by decide) ?_
                  exact V.sub [0, 2, 1, 3, 4] rfl (ih24 _ (by omega) (i24 + 1) w10 rfl (by omega))
          exact L24 _ 0 x4_2 rfl (by omega)
        · -- 15 false
          have zh3 := mt fr2.mpr (not_not_intro h3)
          refine V_goto (tgt := 60) X dX5_withOneMore_18 (by decide) ?_
          refine V_iinc X (nI (i4 + 1)) [(3, .int (nI (i4 + 1))), (2, .int (x4_2)), (0, .int (a1)), (1, .int (a2))] dX5_withOneMore_60 0 rfl (zinc _) (by decide) rfl ?_
          refine V_goto (tgt := 4) X dX5_withOneMore_63 (by decide) ?_
          exact V.sub [0, 1, 2, 3] rfl (ih4 _ (by omega) (i4 + 1) x4_2 rfl (by omega))
  exact L4 _ 0 a1 rfl (by omega)
set_option maxRecDepth 100000 in
set_option maxHeartbeats 4000000 in
theorem k_X5_filled {g : zG} {t : Nat × Nat} {X0 : Nat} {σ0 : Nat → Option va_E} {F : Nat → Nat → Int32} (hX : g.2.1.size ≤ X0) {nP nS nA nC nT : Nat} (hI : cI nP nS nA nC nT F)  (a1 : Int32) : Ct g 12 yX5_filled cX5_filled 5 (some FieldType.int) 0 0 [.ref (X0 + 0), .int (a1)] (t, cW g X0 F σ0) (qR pI (t, cW g X0 F σ0)) zNo := by
  refine Ct.of (lv := [(0, .ref (X0 + 0)), (1, .int (a1))]) (by decide) (Nat.le_of_ble_eq_true rfl) rfl ?_
  intro κ X E B _
  have X : zX g κ RX5 cX5_filled 5 := X
  obtain ⟨b1, b2, b3, b4, b5⟩ := hI.bnd
  refine V_iconst (v := nI 1) X dX5_filled_0 (by decide) ?_
  refine V_istore_n X [(2, .int (nI (1))), (0, .ref (X0 + 0)), (1, .int (a1))] dX5_filled_1 (by decide) rfl ?_
  refine V_iconst (v := nI 0) X dX5_filled_2 (by decide) ?_
  refine V_istore_n X [(3, .int (nI (0))), (2, .int (nI (1))), (0, .ref (X0 + 0)), (1, .int (a1))] dX5_filled_3 (by decide) rfl ?_
  have L4 : ∀ (n4 : Nat) (i4 : Nat) (x4_2 : Int32), n4 = nP - i4 → i4 ≤ nP → V g κ 5 0 0 (t, cW g X0 F σ0) 4 [(3, .int (nI (i4))), (2, .int (x4_2)), (0, .ref (X0 + 0)), (1, .int (a1))] [] := by
    intro n4
    induction n4 using Nat.strongRecOn with
    | ind n4 ih4 =>
      intro i4 x4_2 hn4 hi4
      refine V_iload_n X dX5_filled_4 0 rfl ?_
      refine V_aload_n X dX5_filled_5 2 rfl ?_
      refine C_getf X fl_X5_10 0 (by decide) rfl rfl dX5_filled_6 ?_
      refine C_getfN (z := nI (nP)) X fl_X5_48 1 (by decide) rfl rfl hI.f1_5 dX5_filled_9 ?_
      refine V_icmpgeN X (by omega) (by omega) (tgt := 52) dX5_filled_12 (by decide) (fun h1 => ?_) (fun h1 => ?_)
      · -- 12 true
        refine V_iconst (v := nI 0) X dX5_filled_52 (by decide) ?_
        refine V_istore_n X [(3, .int (nI (0))), (2, .int (x4_2)), (0, .ref (X0 + 0)), (1, .int (a1))] dX5_filled_53 (by decide) rfl ?_
        refine V_iconst (v := nI 0) X dX5_filled_54 (by decide) ?_
        refine V_istore X [(4, .int (nI (0))), (3, .int (nI (0))), (2, .int (x4_2)), (0, .ref (X0 + 0)), (1, .int (a1))] dX5_filled_55 (by decide) rfl ?_
        have L57 : ∀ (n57 : Nat) (i57 : Nat) (x57_3 : Int32), n57 = 32 - i57 → i57 ≤ 32 → V g κ 5 0 0 (t, cW g X0 F σ0) 57 [(4, .int (nI (i57))), (3, .int (x57_3)), (2, .int (x4_2)), (0, .ref (X0 + 0)), (1, .int (a1))] [] := by
          intro n57
          induction n57 using Nat.strongRecOn with
          | ind n57 ih57 =>
            intro i57 x57_3 hn57 hi57
            refine V_iload X dX5_filled_57 0 rfl ?_
            refine V_bipush (v := nI 32) X dX5_filled_59 (by decide) ?_
            refine V_icmpgeN X (by omega) (by omega) (tgt := 89) dX5_filled_61 (by decide) (fun h2 => ?_) (fun h2 => ?_)
            · -- 61 true
              refine V_iload_n X dX5_filled_89 1 rfl ?_
              exact V_iret X E (Nat.zero_le _) (Nat.zero_le _) ⟨⟨_, rfl⟩, rfl⟩ dX5_filled_90
            · -- 61 false
              refine V_iload_n X dX5_filled_64 2 rfl ?_
              refine V_iload X dX5_filled_65 0 rfl ?_
              refine V_callS (rest := []) X E.room ml_X5_102 st_X5_has (by omega) (by decide) (k_X5_has (σ := (t, cW g X0 F σ0)) (x4_2) (nI (i57))) rfl rfl (Nat.le_of_ble_eq_true rfl) ⟨Nat.le_refl _, Nat.le_refl _⟩ dX5_filled_67 (fun _ _ h => False.elim h) (fun v67 σ' hp67 => ?_)
              obtain ⟨hp67, rfl⟩ := hp67
              obtain ⟨r3, rfl, hr3, fr3⟩ := hp67
              show V g κ 5 0 0 (t, cW g X0 F σ0) 70 [(4, .int (nI (i57))), (3, .int (x57_3)), (2, .int (x4_2)), (0, .ref (X0 + 0)), (1, .int (a1))] [.int (r3)]
              refine V_ifeq X (tgt := 83) dX5_filled_70 (by decide) (fun h4 => ?_) (fun h4 => ?_)
              · -- 70 true
                have zh4 := mt fr3.mpr (not_not_intro h4)
                refine V_iinc X (nI (i57 + 1)) [(4, .int (nI (i57 + 1))), (3, .int (x57_3)), (2, .int (x4_2)), (0, .ref (X0 + 0)), (1, .int (a1))] dX5_filled_83 0 rfl (zinc _) (by decide) rfl ?_
                refine V_goto (tgt := 57) X dX5_filled_86 (by decide) ?_
                exact V.sub [0, 1, 2, 3, 4] rfl (ih57 _ (by omega) (i57 + 1) x57_3 rfl (by omega))
              · -- 70 false
                have zh4 := fr3.mp h4
                refine V_iload_n X dX5_filled_73 1 rfl ?_
                refine V_iload X dX5_filled_74 0 rfl ?_
                refine V_callS (rest := [.int (x57_3)]) X E.room ml_X5_215 st_J6_bitCount_0f7a4 (by omega) (by decide) (k_J6_bitCount_0f7a4 (σ := (t, cW g X0 F σ0)) (nI (i57))) rfl rfl (Nat.le_of_ble_eq_true rfl) ⟨Nat.le_refl _, Nat.le_refl _⟩ dX5_filled_76 (fun _ _ h => False.elim h) (fun v76 σ' hp76 => ?_)
                obtain ⟨hp76, rfl⟩ := hp76
                cases (hp76 : _ = some (Value.int (zbc (nI (i57)))))
                show V g κ 5 0 0 (t, cW g X0 F σ0) 79 [(4, .int (nI (i57))), (3, .int (x57_3)), (2, .int (x4_2)), (0, .ref (X0 + 0)), (1, .int (a1))] [.int (zbc (nI (i57))), .int (x57_3)]
                refine V_mmax X E.room (Nat.le_refl _) (Nat.le_refl _) (by decide) ml_X5_324 st_J9_max_7cf53 rfl rfl (Nat.le_of_ble_eq_true rfl) dX5_filled_79 (V.topi (fun w5 _ => ?_))
                refine V_istore_n X [(3, .int (w5)), (4, .int (nI (i57))), (2, .int (x4_2)), (0, .ref (X0 + 0)), (1, .int (a1))] dX5_filled_82 (by decide) rfl ?_
                refine V_iinc X (nI (i57 + 1)) [(4, .int (nI (i57 + 1))), (3, .int (w5)), (2, .int (x4_2)), (0, .ref (X0 + 0)), (1, .int (a1))] dX5_filled_83 1 rfl (zinc _) (by decide) rfl ?_
                refine V_goto (tgt := 57) X dX5_filled_86 (by decide) ?_
                exact V.sub [0, 1, 2, 3, 4] rfl (ih57 _ (by omega) (i57 + 1) w5 rfl (by omega))
        exact L57 _ 0 (nI (0)) rfl (by omega)
      · -- 12 false
        refine V_iload_n X dX5_filled_15 3 rfl ?_
        refine V_iload_n X dX5_filled_16 0 rfl ?_
        refine V_callS (rest := []) X E.room ml_X5_102 st_X5_has (by omega) (by decide) (k_X5_has (σ := (t, cW g X0 F σ0)) (a1) (nI (i4))) rfl rfl (Nat.le_of_ble_eq_true rfl) ⟨Nat.le_refl _, Nat.le_refl _⟩ dX5_filled_17 (fun _ _ h => False.elim h) (fun v17 σ' hp17 => ?_)
        obtain ⟨hp17, rfl⟩ := hp17
        obtain ⟨r6, rfl, hr6, fr6⟩ := hp17
        show V g κ 5 0 0 (t, cW g X0 F σ0) 20 [(3, .int (nI (i4))), (2, .int (x4_2)), (0, .ref (X0 + 0)), (1, .int (a1))] [.int (r6)]
        refine V_ifeq X (tgt := 46) dX5_filled_20 (by decide) (fun h7 => ?_) (fun h7 => ?_)
        · -- 20 true
          have zh7 := mt fr6.mpr (not_not_intro h7)
          refine V_iinc X (nI (i4 + 1)) [(3, .int (nI (i4 + 1))), (2, .int (x4_2)), (0, .ref (X0 + 0)), (1, .int (a1))] dX5_filled_46 0 rfl (zinc _) (by decide) rfl ?_
          refine V_goto (tgt := 4) X dX5_filled_49 (by decide) ?_
          exact V.sub [0, 1, 2, 3] rfl (ih4 _ (by omega) (i4 + 1) x4_2 rfl (by omega))
        · -- 20 false
          have zh7 := fr6.mp h7
          refine V_iload_n X dX5_filled_23 1 rfl ?_
          refine V_aload_n X dX5_filled_24 2 rfl ?_
          refine C_getf X fl_X5_19 0 (by decide) rfl rfl dX5_filled_25 ?_
          refine V_iconst (v := nI 1) X dX5_filled_28 (by decide) ?_
          refine V_aload_n X dX5_filled_29 2 rfl ?_
          refine C_getf X fl_X5_10 0 (by decide) rfl rfl dX5_filled_30 ?_
          refine C_getf X fl_X5_154 1 (by decide) rfl rfl dX5_filled_33 ?_
          refine V_iload_n X dX5_filled_36 0 rfl ?_
          refine C_iald X (N := 7) 2 (by decide) (i4) rfl (by omega) (by decide) rfl dX5_filled_37 ?_
          refine V.topi (fun x8 ex8 => ?_)
          refine V_ishl X dX5_filled_38 (V.topi (fun w9 ew9 => ?_))
          refine V_callV (rest := [.int (x4_2)]) X E.room ml_X5_171 in_X1_ableOfAny (ci := 5) rfl se_X1_ableOfAny (C_recv (q := 7) (by decide) rfl) (by decide) (by decide) (k_X1_ableOfAny hX hI (w9)) rfl rfl (Nat.le_of_ble_eq_true rfl) ⟨Nat.le_refl _, Nat.le_refl _⟩ dX5_filled_39 (fun _ _ h => False.elim h) (fun v39 σ' hp39 => ?_)
          obtain ⟨hp39, rfl⟩ := hp39
          obtain ⟨r10, rfl, fr10⟩ := hp39
          show V g κ 5 0 0 (t, cW g X0 F σ0) 42 [(3, .int (nI (i4))), (2, .int (x4_2)), (0, .ref (X0 + 0)), (1, .int (a1))] [.int (r10), .int (x4_2)]
          refine V_callS (rest := []) X E.room ml_X5_321 st_X5_withOneMore (by omega) (by decide) (k_X5_withOneMore (σ := (t, cW g X0 F σ0)) (x4_2) (r10)) rfl rfl (Nat.le_of_ble_eq_true rfl) ⟨Nat.le_refl _, Nat.le_refl _⟩ dX5_filled_42 (fun _ _ h => False.elim h) (fun v42 σ' hp42 => ?_)
          obtain ⟨hp42, rfl⟩ := hp42
          obtain ⟨r11, rfl⟩ := hp42
          show V g κ 5 0 0 (t, cW g X0 F σ0) 45 [(3, .int (nI (i4))), (2, .int (x4_2)), (0, .ref (X0 + 0)), (1, .int (a1))] [.int (r11)]
          refine V_istore_n X [(2, .int (r11)), (3, .int (nI (i4))), (0, .ref (X0 + 0)), (1, .int (a1))] dX5_filled_45 (by decide) rfl ?_
          refine V_iinc X (nI (i4 + 1)) [(3, .int (nI (i4 + 1))), (2, .int (r11)), (0, .ref (X0 + 0)), (1, .int (a1))] dX5_filled_46 1 rfl (zinc _) (by decide) rfl ?_
          refine V_goto (tgt := 4) X dX5_filled_49 (by decide) ?_
          exact V.sub [0, 1, 2, 3] rfl (ih4 _ (by omega) (i4 + 1) r11 rfl (by omega))
  exact L4 _ 0 (nI (1)) rfl (by omega)
set_option maxRecDepth 100000 in
set_option maxHeartbeats 4000000 in
theorem k_X5_excess {g : zG} {t : Nat × Nat} {X0 : Nat} {σ0 : Nat → Option va_E} {F : Nat → Nat → Int32} (hX : g.2.1.size ≤ X0) {nP nS nA nC nT : Nat} (hI : cI nP nS nA nC nT F)  (a1 : Int32) : Ct g 12 yX5_excess cX5_excess 4 (some FieldType.int) 0 0 [.ref (X0 + 0), .int (a1)] (t, cW g X0 F σ0) (qR pI (t, cW g X0 F σ0)) zNo := by
  refine Ct.of (lv := [(0, .ref (X0 + 0)), (1, .int (a1))]) (by decide) (Nat.le_of_ble_eq_true rfl) rfl ?_
  intro κ X E B _
  have X : zX g κ RX5 cX5_excess 4 := X
  obtain ⟨b1, b2, b3, b4, b5⟩ := hI.bnd
  refine V_iconst (v := nI 0) X dX5_excess_0 (by decide) ?_
  refine V_istore_n X [(2, .int (nI (0))), (0, .ref (X0 + 0)), (1, .int (a1))] dX5_excess_1 (by decide) rfl ?_
  refine V_iconst (v := nI 0) X dX5_excess_2 (by decide) ?_
  refine V_istore_n X [(3, .int (nI (0))), (2, .int (nI (0))), (0, .ref (X0 + 0)), (1, .int (a1))] dX5_excess_3 (by decide) rfl ?_
  have L4 : ∀ (n4 : Nat) (i4 : Nat) (x4_2 : Int32), n4 = nP - i4 → i4 ≤ nP → V g κ 4 0 0 (t, cW g X0 F σ0) 4 [(3, .int (nI (i4))), (2, .int (x4_2)), (0, .ref (X0 + 0)), (1, .int (a1))] [] := by
    intro n4
    induction n4 using Nat.strongRecOn with
    | ind n4 ih4 =>
      intro i4 x4_2 hn4 hi4
      refine V_iload_n X dX5_excess_4 0 rfl ?_
      refine V_aload_n X dX5_excess_5 2 rfl ?_
      refine C_getf X fl_X5_10 0 (by decide) rfl rfl dX5_excess_6 ?_
      refine C_getfN (z := nI (nP)) X fl_X5_48 1 (by decide) rfl rfl hI.f1_5 dX5_excess_9 ?_
      refine V_icmpgeN X (by omega) (by omega) (tgt := 43) dX5_excess_12 (by decide) (fun h1 => ?_) (fun h1 => ?_)
      · -- 12 true
        refine V_iload_n X dX5_excess_43 3 rfl ?_
        refine V_callS (rest := []) X E.room ml_X5_215 st_J6_bitCount_0f7a4 (by omega) (by decide) (k_J6_bitCount_0f7a4 (σ := (t, cW g X0 F σ0)) (a1)) rfl rfl (Nat.le_of_ble_eq_true rfl) ⟨Nat.le_refl _, Nat.le_refl _⟩ dX5_excess_44 (fun _ _ h => False.elim h) (fun v44 σ' hp44 => ?_)
        obtain ⟨hp44, rfl⟩ := hp44
        cases (hp44 : _ = some (Value.int (zbc (a1))))
        show V g κ 4 0 0 (t, cW g X0 F σ0) 47 [(3, .int (nI (i4))), (2, .int (x4_2)), (0, .ref (X0 + 0)), (1, .int (a1))] [.int (zbc (a1))]
        refine V_aload_n X dX5_excess_47 2 rfl ?_
        refine C_getf X fl_X5_19 0 (by decide) rfl rfl dX5_excess_48 ?_
        refine V_iload_n X dX5_excess_51 1 rfl ?_
        refine V_callV (rest := [.int (zbc (a1))]) X E.room ml_X5_171 in_X1_ableOfAny (ci := 5) rfl se_X1_ableOfAny (C_recv (q := 7) (by decide) rfl) (by decide) (by decide) (k_X1_ableOfAny hX hI (x4_2)) rfl rfl (Nat.le_of_ble_eq_true rfl) ⟨Nat.le_refl _, Nat.le_refl _⟩ dX5_excess_52 (fun _ _ h => False.elim h) (fun v52 σ' hp52 => ?_)
        obtain ⟨hp52, rfl⟩ := hp52
        obtain ⟨r2, rfl, fr2⟩ := hp52
        show V g κ 4 0 0 (t, cW g X0 F σ0) 55 [(3, .int (nI (i4))), (2, .int (x4_2)), (0, .ref (X0 + 0)), (1, .int (a1))] [.int (r2), .int (zbc (a1))]
        refine V_callS (rest := [.int (zbc (a1))]) X E.room ml_X5_215 st_J6_bitCount_0f7a4 (by omega) (by decide) (k_J6_bitCount_0f7a4 (σ := (t, cW g X0 F σ0)) (r2)) rfl rfl (Nat.le_of_ble_eq_true rfl) ⟨Nat.le_refl _, Nat.le_refl _⟩ dX5_excess_55 (fun _ _ h => False.elim h) (fun v55 σ' hp55 => ?_)
        obtain ⟨hp55, rfl⟩ := hp55
        cases (hp55 : _ = some (Value.int (zbc (r2))))
        show V g κ 4 0 0 (t, cW g X0 F σ0) 58 [(3, .int (nI (i4))), (2, .int (x4_2)), (0, .ref (X0 + 0)), (1, .int (a1))] [.int (zbc (r2)), .int (zbc (a1))]
        refine V_isub X dX5_excess_58 (V.topi (fun w3 ew3 => ?_))
        exact V_iret X E (Nat.zero_le _) (Nat.zero_le _) ⟨⟨_, rfl⟩, rfl⟩ dX5_excess_59
      · -- 12 false
        refine V_iload_n X dX5_excess_15 3 rfl ?_
        refine V_iload_n X dX5_excess_16 0 rfl ?_
        refine V_callS (rest := []) X E.room ml_X5_102 st_X5_has (by omega) (by decide) (k_X5_has (σ := (t, cW g X0 F σ0)) (a1) (nI (i4))) rfl rfl (Nat.le_of_ble_eq_true rfl) ⟨Nat.le_refl _, Nat.le_refl _⟩ dX5_excess_17 (fun _ _ h => False.elim h) (fun v17 σ' hp17 => ?_)
        obtain ⟨hp17, rfl⟩ := hp17
        obtain ⟨r4, rfl, hr4, fr4⟩ := hp17
        show V g κ 4 0 0 (t, cW g X0 F σ0) 20 [(3, .int (nI (i4))), (2, .int (x4_2)), (0, .ref (X0 + 0)), (1, .int (a1))] [.int (r4)]
        refine V_ifeq X (tgt := 37) dX5_excess_20 (by decide) (fun h5 => ?_) (fun h5 => ?_)
        · -- 20 true
          have zh5 := mt fr4.mpr (not_not_intro h5)
          refine V_iinc X (nI (i4 + 1)) [(3, .int (nI (i4 + 1))), (2, .int (x4_2)), (0, .ref (X0 + 0)), (1, .int (a1))] dX5_excess_37 0 rfl (zinc _) (by decide) rfl ?_
          refine V_goto (tgt := 4) X dX5_excess_40 (by decide) ?_
          exact V.sub [0, 1, 2, 3] rfl (ih4 _ (by omega) (i4 + 1) x4_2 rfl (by omega))
        · -- 20 false
          have zh5 := fr4.mp h5
          refine V_iload_n X dX5_excess_23 1 rfl ?_
          refine V_iconst (v := nI 1) X dX5_excess_24 (by decide) ?_
          refine V_aload_n X dX5_excess_25 2 rfl ?_
          refine C_getf X fl_X5_10 0 (by decide) rfl rfl dX5_excess_26 ?_
          refine C_getf X fl_X5_154 1 (by decide) rfl rfl dX5_excess_29 ?_
          refine V_iload_n X dX5_excess_32 0 rfl ?_
          refine C_iald X (N := 7) 2 (by decide) (i4) rfl (by omega) (by decide) rfl dX5_excess_33 ?_
          refine V.topi (fun x6 ex6 => ?_)
          refine V_ishl X dX5_excess_34 (V.topi (fun w7 ew7 => ?_))
          refine V_ior X dX5_excess_35 (V.topi (fun w8 ew8 => ?_))
          refine V_istore_n X [(2, .int (w8)), (3, .int (nI (i4))), (0, .ref (X0 + 0)), (1, .int (a1))] dX5_excess_36 (by decide) rfl ?_
          refine V_iinc X (nI (i4 + 1)) [(3, .int (nI (i4 + 1))), (2, .int (w8)), (0, .ref (X0 + 0)), (1, .int (a1))] dX5_excess_37 1 rfl (zinc _) (by decide) rfl ?_
          refine V_goto (tgt := 4) X dX5_excess_40 (by decide) ?_
          exact V.sub [0, 1, 2, 3] rfl (ih4 _ (by omega) (i4 + 1) w8 rfl (by omega))
  exact L4 _ 0 (nI (0)) rfl (by omega)
set_option maxRecDepth 100000 in
set_option maxHeartbeats 4000000 in
theorem k_X5_lack {g : zG} {t : Nat × Nat} {X0 : Nat} {σ0 : Nat → Option va_E} {F : Nat → Nat → Int32} (hX : g.2.1.size ≤ X0) {nP nS nA nC nT : Nat} (hI : cI nP nS nA nC nT F) (m : Nat) (hm : m < 128) : Ct g 13 yX5_lack cX5_lack 6 (some FieldType.int) 0 0 [.ref (X0 + 0), .int (nI (m))] (t, cW g X0 F σ0) (qR pI (t, cW g X0 F σ0)) zNo := by
  refine Ct.of (lv := [(0, .ref (X0 + 0)), (1, .int (nI (m)))]) (by decide) (Nat.le_of_ble_eq_true rfl) rfl ?_
  intro κ X E B _
  have X : zX g κ RX5 cX5_lack 6 := X
  obtain ⟨b1, b2, b3, b4, b5⟩ := hI.bnd
  refine V_iconst (v := nI 0) X dX5_lack_0 (by decide) ?_
  refine V_istore_n X [(2, .int (nI (0))), (0, .ref (X0 + 0)), (1, .int (nI (m)))] dX5_lack_1 (by decide) rfl ?_
  refine V_iconst (v := nI 0) X dX5_lack_2 (by decide) ?_
  refine V_istore_n X [(3, .int (nI (0))), (2, .int (nI (0))), (0, .ref (X0 + 0)), (1, .int (nI (m)))] dX5_lack_3 (by decide) rfl ?_
  refine V_iconst (v := nI 1) X dX5_lack_4 (by decide) ?_
  refine V_istore X [(4, .int (nI (1))), (3, .int (nI (0))), (2, .int (nI (0))), (0, .ref (X0 + 0)), (1, .int (nI (m)))] dX5_lack_5 (by decide) rfl ?_
  have L7 : ∀ (n7 : Nat) (i7 : Nat) (x7_3 : Int32) (x7_2 : Int32), n7 = (m + 1) - i7 → i7 ≤ (m + 1) → 1 ≤ i7 → V g κ 6 0 0 (t, cW g X0 F σ0) 7 [(4, .int (nI (i7))), (3, .int (x7_3)), (2, .int (x7_2)), (0, .ref (X0 + 0)), (1, .int (nI (m)))] [] := by
    intro n7
    induction n7 using Nat.strongRecOn with
    | ind n7 ih7 =>
      intro i7 x7_3 x7_2 hn7 hi7 hl7
      refine V_iload X dX5_lack_7 0 rfl ?_
      refine V_iload_n X dX5_lack_9 4 rfl ?_
      refine V_icmpgtN X (by omega) (by omega) (tgt := 51) dX5_lack_10 (by decide) (fun h1 => ?_) (fun h1 => ?_)
      · -- 10 true
        refine V_iload_n X dX5_lack_51 2 rfl ?_
        exact V_iret X E (Nat.zero_le _) (Nat.zero_le _) ⟨⟨_, rfl⟩, rfl⟩ dX5_lack_52
      · -- 10 false
        refine V_iload X dX5_lack_13 0 rfl ?_
        refine V_iload_n X dX5_lack_15 4 rfl ?_
        refine V_iconst (v := (-1)) X dX5_lack_16 (by decide) ?_
        refine V_ixor X dX5_lack_17 (V.topi (fun w2 ew2 => ?_))
        refine V_iandL X (by omega) dX5_lack_18 (fun j3 hj3 ej3 => ?_)
        refine V_ifeqN X (by omega) (tgt := 25) dX5_lack_19 (by decide) (fun h4 => ?_) (fun h4 => ?_)
        · -- 19 true
          refine V_aload_n X dX5_lack_25 3 rfl ?_
          refine V_iload X dX5_lack_26 0 rfl ?_
          refine V_callV (rest := []) X E.room ml_X5_198 in_X5_excess (ci := 9) rfl se_X5_excess (C_recv (q := 0) (by decide) rfl) (by decide) (by decide) (k_X5_excess hX hI (nI (i7))) rfl rfl (Nat.le_of_ble_eq_true rfl) ⟨Nat.le_refl _, Nat.le_refl _⟩ dX5_lack_28 (fun _ _ h => False.elim h) (fun v28 σ' hp28 => ?_)
          obtain ⟨hp28, rfl⟩ := hp28
          obtain ⟨r5, rfl⟩ := hp28
          show V g κ 6 0 0 (t, cW g X0 F σ0) 31 [(4, .int (nI (i7))), (3, .int (x7_3)), (2, .int (x7_2)), (0, .ref (X0 + 0)), (1, .int (nI (m)))] [.int (r5)]
          refine V_istore X [(5, .int (r5)), (4, .int (nI (i7))), (3, .int (x7_3)), (2, .int (x7_2)), (0, .ref (X0 + 0)), (1, .int (nI (m)))] dX5_lack_31 (by decide) rfl ?_
          refine V_iload X dX5_lack_33 0 rfl ?_
          refine V_iload_n X dX5_lack_35 2 rfl ?_
          refine V_icmple X (tgt := 45) dX5_lack_36 (by decide) (fun h6 => ?_) (fun h6 => ?_)
          · -- 36 true
            refine V_iinc X (nI (i7 + 1)) [(4, .int (nI (i7 + 1))), (5, .int (r5)), (3, .int (x7_3)), (2, .int (x7_2)), (0, .ref (X0 + 0)), (1, .int (nI (m)))] dX5_lack_45 1 rfl (zinc _) (by decide) rfl ?_
            refine V_goto (tgt := 7) X dX5_lack_48 (by decide) ?_
            exact V.sub [0, 2, 3, 4, 5] rfl (ih7 _ (by omega) (i7 + 1) x7_3 x7_2 rfl (by omega) (by omega))
          · -- 36 false
            refine V_iload X dX5_lack_39 1 rfl ?_
            refine V_istore_n X [(2, .int (nI (i7))), (5, .int (r5)), (4, .int (nI (i7))), (3, .int (x7_3)), (0, .ref (X0 + 0)), (1, .int (nI (m)))] dX5_lack_41 (by decide) rfl ?_
            refine V_iload X dX5_lack_42 1 rfl ?_
            refine V_istore_n X [(3, .int (r5)), (2, .int (nI (i7))), (5, .int (r5)), (4, .int (nI (i7))), (0, .ref (X0 + 0)), (1, .int (nI (m)))] dX5_lack_44 (by decide) rfl ?_
            refine V_iinc X (nI (i7 + 1)) [(4, .int (nI (i7 + 1))), (3, .int (r5)), (2, .int (nI (i7))), (5, .int (r5)), (0, .ref (X0 + 0)), (1, .int (nI (m)))] dX5_lack_45 3 rfl (zinc _) (by decide) rfl ?_
            refine V_goto (tgt := 7) X dX5_lack_48 (by decide) ?_
            exact V.sub [0, 1, 2, 4, 5] rfl (ih7 _ (by omega) (i7 + 1) r5 (nI (i7)) rfl (by omega) (by omega))
        · -- 19 false
          refine V_goto (tgt := 45) X dX5_lack_22 (by decide) ?_
          refine V_iinc X (nI (i7 + 1)) [(4, .int (nI (i7 + 1))), (3, .int (x7_3)), (2, .int (x7_2)), (0, .ref (X0 + 0)), (1, .int (nI (m)))] dX5_lack_45 0 rfl (zinc _) (by decide) rfl ?_
          refine V_goto (tgt := 7) X dX5_lack_48 (by decide) ?_
          exact V.sub [0, 1, 2, 3, 4] rfl (ih7 _ (by omega) (i7 + 1) x7_3 x7_2 rfl (by omega) (by omega))
  exact L7 _ 1 (nI (0)) (nI (0)) rfl (by omega) (by omega)
set_option maxRecDepth 100000 in
set_option maxHeartbeats 4000000 in
theorem k_X5_leastWaste {g : zG} {t : Nat × Nat} {X0 : Nat} {σ0 : Nat → Option va_E} {F : Nat → Nat → Int32} (hX : g.2.1.size ≤ X0) {nP nS nA nC nT : Nat} (hI : cI nP nS nA nC nT F)  (a1 : Int32) : Ct g 13 yX5_leastWaste cX5_leastWaste 4 (some FieldType.int) 0 0 [.ref (X0 + 0), .int (a1)] (t, cW g X0 F σ0) (qS pI g t X0 F σ0) zNo := by
  refine Ct.of (lv := [(0, .ref (X0 + 0)), (1, .int (a1))]) (by decide) (Nat.le_of_ble_eq_true rfl) rfl ?_
  intro κ X E B _
  have X : zX g κ RX5 cX5_leastWaste 4 := X
  obtain ⟨b1, b2, b3, b4, b5⟩ := hI.bnd
  refine V_aload_n X dX5_leastWaste_0 0 rfl ?_
  refine C_getf X fl_X5_26 0 (by decide) rfl rfl dX5_leastWaste_1 ?_
  refine C_getf X fl_X5_220 12 (by decide) rfl rfl dX5_leastWaste_4 (V.topi (fun x1 ex1 => ?_))
  refine V_iconst (v := (-1)) X dX5_leastWaste_7 (by decide) ?_
  refine V_icmpne X (tgt := 13) dX5_leastWaste_8 (by decide) (fun h2 => ?_) (fun h2 => ?_)
  · -- 8 true
    refine V_aload_n X dX5_leastWaste_13 0 rfl ?_
    refine C_getf X fl_X5_33 0 (by decide) rfl rfl dX5_leastWaste_14 ?_
    refine V_callV (rest := []) X E.room ml_X5_329 in_X4_startDressing (ci := 8) rfl se_X4_startDressing (C_recv (q := 18) (by decide) rfl) (by decide) (by decide) (k_X4_startDressing hX hI) rfl rfl (Nat.le_of_ble_eq_true rfl) ⟨Nat.le_refl _, Nat.le_refl _⟩ dX5_leastWaste_17 (fun _ _ h => False.elim h) (fun v17 σ' hp17 => ?_)
    obtain ⟨hp17, F3, rfl, hJF3⟩ := hp17
    cases (hp17 : _ = none)
    show V g κ 4 0 0 (t, cW g X0 F3 σ0) 20 [(0, .ref (X0 + 0)), (1, .int (a1))] []
    refine V_iconst (v := nI 0) X dX5_leastWaste_20 (by decide) ?_
    refine V_istore_n X [(2, .int (nI (0))), (0, .ref (X0 + 0)), (1, .int (a1))] dX5_leastWaste_21 (by decide) rfl ?_
    have L22 : ∀ (n22 : Nat) (i22 : Nat) (G22 : Nat → Nat → Int32), n22 = nP - i22 → i22 ≤ nP → cJ F G22 → V g κ 4 0 0 (t, cW g X0 G22 σ0) 22 [(2, .int (nI (i22))), (0, .ref (X0 + 0)), (1, .int (a1))] [] := by
      intro n22
      induction n22 using Nat.strongRecOn with
      | ind n22 ih22 =>
        intro i22 G22 hn22 hi22 hJ22
        refine V_iload_n X dX5_leastWaste_22 0 rfl ?_
        refine V_aload_n X dX5_leastWaste_23 1 rfl ?_
        refine C_getf X fl_X5_10 0 (by decide) rfl rfl dX5_leastWaste_24 ?_
        refine C_getfN (z := nI (nP)) X fl_X5_48 1 (by decide) rfl rfl (hI.mv hJ22).f1_5 dX5_leastWaste_27 ?_
        refine V_icmpgeN X (by omega) (by omega) (tgt := 91) dX5_leastWaste_30 (by decide) (fun h4 => ?_) (fun h4 => ?_)
        · -- 30 true
          refine V_aload_n X dX5_leastWaste_91 1 rfl ?_
          refine C_getf X fl_X5_33 0 (by decide) rfl rfl dX5_leastWaste_92 ?_
          refine V_callV (rest := []) X E.room ml_X5_335 in_X4_leastWaste (ci := 8) rfl se_X4_leastWaste (C_recv (q := 18) (by decide) rfl) (by decide) (by decide) (k_X4_leastWaste hX (hI.mv hJ22)) rfl rfl (Nat.le_of_ble_eq_true rfl) ⟨Nat.le_refl _, Nat.le_refl _⟩ dX5_leastWaste_95 (fun _ _ h => False.elim h) (fun v95 σ' hp95 => ?_)
          obtain ⟨hp95, rfl⟩ := hp95
          obtain ⟨r5, rfl⟩ := hp95
          show V g κ 4 0 0 (t, cW g X0 G22 σ0) 98 [(2, .int (nI (i22))), (0, .ref (X0 + 0)), (1, .int (a1))] [.int (r5)]
          exact V_iret X E (Nat.zero_le _) (Nat.zero_le _) ⟨⟨_, rfl⟩, ⟨_, rfl, hJ22⟩⟩ dX5_leastWaste_98
        · -- 30 false
          refine V_iload_n X dX5_leastWaste_33 2 rfl ?_
          refine V_iload_n X dX5_leastWaste_34 0 rfl ?_
          refine V_callS (rest := []) X E.room ml_X5_102 st_X5_has (by omega) (by decide) (k_X5_has (σ := (t, cW g X0 G22 σ0)) (a1) (nI (i22))) rfl rfl (Nat.le_of_ble_eq_true rfl) ⟨Nat.le_refl _, Nat.le_refl _⟩ dX5_leastWaste_35 (fun _ _ h => False.elim h) (fun v35 σ' hp35 => ?_)
          obtain ⟨hp35, rfl⟩ := hp35
          obtain ⟨r6, rfl, hr6, fr6⟩ := hp35
          show V g κ 4 0 0 (t, cW g X0 G22 σ0) 38 [(2, .int (nI (i22))), (0, .ref (X0 + 0)), (1, .int (a1))] [.int (r6)]
          refine V_ifne X (tgt := 44) dX5_leastWaste_38 (by decide) (fun h7 => ?_) (fun h7 => ?_)
          · -- 38 true
            have zh7 := fr6.mp h7
            refine V_aload_n X dX5_leastWaste_44 1 rfl ?_
            refine C_getf X fl_X5_26 0 (by decide) rfl rfl dX5_leastWaste_45 ?_
            refine V_iload_n X dX5_leastWaste_48 0 rfl ?_
            refine V_callV (rest := []) X E.room ml_X5_174 in_X0_playerOf (ci := 4) rfl se_X0_playerOf (C_recv (q := 12) (by decide) rfl) (by decide) (by decide) (k_X0_playerOf hX (hI.mv hJ22) (nI (i22))) rfl rfl (Nat.le_of_ble_eq_true rfl) ⟨Nat.le_refl _, Nat.le_refl _⟩ dX5_leastWaste_49 (fun _ _ h => False.elim h) (fun v49 σ' hp49 => ?_)
            obtain ⟨hp49, rfl⟩ := hp49
            rcases hp49 with ⟨rfl, nr8⟩ | ⟨r8, hr8, rfl, yr8, zr8⟩
            · -- none
              show V g κ 4 0 0 (t, cW g X0 G22 σ0) 52 [(2, .int (nI (i22))), (0, .ref (X0 + 0)), (1, .int (a1))] [.int (-1)]
              refine V_istore_n X [(3, .int (-1)), (2, .int (nI (i22))), (0, .ref (X0 + 0)), (1, .int (a1))] dX5_leastWaste_52 (by decide) rfl ?_
              refine V_iload_n X dX5_leastWaste_53 0 rfl ?_
              refine V_iconst (v := (-1)) X dX5_leastWaste_54 (by decide) ?_
              refine V_icmpne X (tgt := 60) dX5_leastWaste_55 (by decide) (fun h9 => absurd h9 (not_not_intro rfl)) (fun h9 => ?_)
              refine V_iconst (v := (-1)) X dX5_leastWaste_58 (by decide) ?_
              exact V_iret X E (Nat.zero_le _) (Nat.zero_le _) ⟨⟨_, rfl⟩, ⟨_, rfl, hJ22⟩⟩ dX5_leastWaste_59
            · -- number
              show V g κ 4 0 0 (t, cW g X0 G22 σ0) 52 [(2, .int (nI (i22))), (0, .ref (X0 + 0)), (1, .int (a1))] [.int (nI (r8))]
              refine V_istore_n X [(3, .int (nI (r8))), (2, .int (nI (i22))), (0, .ref (X0 + 0)), (1, .int (a1))] dX5_leastWaste_52 (by decide) rfl ?_
              refine V_iload_n X dX5_leastWaste_53 0 rfl ?_
              refine V_iconst (v := (-1)) X dX5_leastWaste_54 (by decide) ?_
              refine V_icmpne X (tgt := 60) dX5_leastWaste_55 (by decide) (fun h10 => ?_) (fun h10 => absurd h10 (znm1 (by omega)))
              refine V_aload_n X dX5_leastWaste_60 2 rfl ?_
              refine C_getf X fl_X5_33 0 (by decide) rfl rfl dX5_leastWaste_61 ?_
              refine V_aload_n X dX5_leastWaste_64 2 rfl ?_
              refine C_getf X fl_X5_10 0 (by decide) rfl rfl dX5_leastWaste_65 ?_
              refine C_getf X fl_X5_157 1 (by decide) rfl rfl dX5_leastWaste_68 ?_
              refine V_iload_n X dX5_leastWaste_71 1 rfl ?_
              refine C_iald X (N := 7) 3 (by decide) (i22) rfl (by omega) (by decide) rfl dX5_leastWaste_72 ?_
              refine V.topi (fun x11 ex11 => ?_)
              refine V_aload_n X dX5_leastWaste_73 2 rfl ?_
              refine C_getf X fl_X5_19 0 (by decide) rfl rfl dX5_leastWaste_74 ?_
              refine C_getf X fl_X5_180 7 (by decide) rfl rfl dX5_leastWaste_77 ?_
              refine V_iload_n X dX5_leastWaste_80 0 rfl ?_
              refine C_iald X (N := 5) 9 (by decide) (r8) rfl (by omega) (by decide) rfl dX5_leastWaste_81 ?_
              refine V.topi (fun x12 ex12 => ?_)
              refine V_callV (rest := []) X E.room ml_X5_332 in_X4_dressOneMore (ci := 8) rfl se_X4_dressOneMore (C_recv (q := 18) (by decide) rfl) (by decide) (by decide) (k_X4_dressOneMore hX (hI.mv hJ22) (x11) (x12)) rfl rfl (Nat.le_of_ble_eq_true rfl) ⟨Nat.le_refl _, Nat.le_refl _⟩ dX5_leastWaste_82 (fun _ _ h => False.elim h) (fun v82 σ' hp82 => ?_)
              obtain ⟨hp82, F13, rfl, hJF13⟩ := hp82
              have hKF13 : cJ F F13 := (hJ22.trans hJF13)
              cases (hp82 : _ = none)
              show V g κ 4 0 0 (t, cW g X0 F13 σ0) 85 [(3, .int (nI (r8))), (2, .int (nI (i22))), (0, .ref (X0 + 0)), (1, .int (a1))] []
              refine V_iinc X (nI (i22 + 1)) [(2, .int (nI (i22 + 1))), (3, .int (nI (r8))), (0, .ref (X0 + 0)), (1, .int (a1))] dX5_leastWaste_85 1 rfl (zinc _) (by decide) rfl ?_
              refine V_goto (tgt := 22) X dX5_leastWaste_88 (by decide) ?_
              exact V.sub [0, 2, 3] rfl (ih22 _ (by omega) (i22 + 1) F13 rfl (by omega) hKF13)
          · -- 38 false
            have zh7 := mt fr6.mpr (not_not_intro h7)
            refine V_goto (tgt := 85) X dX5_leastWaste_41 (by decide) ?_
            refine V_iinc X (nI (i22 + 1)) [(2, .int (nI (i22 + 1))), (0, .ref (X0 + 0)), (1, .int (a1))] dX5_leastWaste_85 0 rfl (zinc _) (by decide) rfl ?_
            refine V_goto (tgt := 22) X dX5_leastWaste_88 (by decide) ?_
            exact V.sub [0, 1, 2] rfl (ih22 _ (by omega) (i22 + 1) G22 rfl (by omega) hJ22)
    exact L22 _ 0 F3 rfl (by omega) hJF3
  · -- 8 false
    refine V_iconst (v := (-1)) X dX5_leastWaste_11 (by decide) ?_
    exact V_iret X E (Nat.zero_le _) (Nat.zero_le _) ⟨⟨_, rfl⟩, ⟨_, rfl, cJ.rfl'⟩⟩ dX5_leastWaste_12
