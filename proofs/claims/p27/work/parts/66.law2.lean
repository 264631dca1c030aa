/-! ===== the law ===== -/
theorem V_lload {g : zG} {κ : zC} {own : String} {cc : ByteArray} {nL k n : Nat} {σ : zS} {pc : Nat} {lv : List (Nat × Value)} {rest : List Value} (X : zX g κ own cc nL) {i : Nat} {x : Int64} (d : decode cc pc = .ok (.lload i, 2)) (j : Nat) (hj : lv[j]? = some (i, .long x)) (kk : V g κ nL k n σ (pc + 2) lv (.long x :: rest)) : V g κ nL k n σ pc lv rest := fun H locs ls hR hL hl => lv_lload X.1 X.2.1 d (lv_at hl j hj) (kk H locs ls hR hL hl)
theorem V_lstore {g : zG} {κ : zC} {own : String} {cc : ByteArray} {nL k n : Nat} {σ : zS} {pc : Nat} {lv : List (Nat × Value)} {rest : List Value} (X : zX g κ own cc nL) {i : Nat} {x : Int64} (lv' : List (Nat × Value)) (d : decode cc pc = .ok (.lstore i, 2)) (hn : i + 1 < nL) (hv : (i, Value.long x) :: lv.filter (fun r => !(r.1 == i) && (!(r.1 == i + 1) && !(r.1 + 1 == i && r.2.category == 2))) = lv') (kk : V g κ nL k n σ (pc + 2) lv' rest) : V g κ nL k n σ pc lv (.long x :: rest) := fun H locs ls hR hL hl => lv_lstore X.1 X.2.1 d hl hn hv fun ls' hl' => kk H locs ls' hR hL hl'
set_option maxRecDepth 100000 in
set_option maxHeartbeats 8000000 in
theorem lc_entry {g : zG} {κ : zC} {X0 n0 : Nat} (X : zX g κ RL cL_law 6) (Hh : zH κ 2048 954156 6238999) (hX : g.2.1.size ≤ X0) (hG : g.1.stackTraces = false) (hend : ∀ (k n : Nat) (σ : zS) (lv : List (Nat × Value)), k ≤ 954156 → n ≤ 6238999 → V g κ 6 k n σ 209 lv [.int (nI 1)]) : V g κ 6 0 0 ((X0, n0), fun _ => none) 0 [(0, .ref (g.2.2.2 8))] [] := by
  refine V_aload_n X dL_law_0 0 rfl ?_
  refine V_callS (rest := []) X Hh ml_L_67 st_L_company (by decide) (by decide) (k_L_company (n0 := n0) hX hG) rfl rfl (Nat.le_of_ble_eq_true rfl) ⟨by omega, by omega⟩ dL_law_1 (fun _ _ h => False.elim h) (fun v9 σ' hp9 => ?_)
  obtain ⟨rfl, t1, nP, nS0, nA0, nC, nT, F0, σ1, rfl, h2, hV0⟩ := hp9
  show V g κ 6 (0 + 62) (0 + 455) (t1, cW g X0 F0 σ1) 4 [(0, .ref (g.2.2.2 8))] [.ref (X0 + 0)]
  refine V_astore_n X [(1, .ref (X0 + 0)), (0, .ref (g.2.2.2 8))] dL_law_4 (by decide) rfl ?_
  refine V_iconst (v := nI 0) X dL_law_5 (by decide) ?_
  refine V_istore_n X [(2, .int (nI (0))), (1, .ref (X0 + 0)), (0, .ref (g.2.2.2 8))] dL_law_6 (by decide) rfl ?_
  have L7 : ∀ (n7 : Nat) (nS : Nat) (nA : Nat) (t7 : Nat × Nat) (i7 : Nat) (F : Nat → Nat → Int32), n7 = 12 - i7 → i7 ≤ 12 → jV nP nS nA nC nT (1000 * i7) F → V g κ 6 (100 + 100 * i7) (500 + 1000 * i7) (t7, cW g X0 F σ1) 7 [(2, .int (nI (i7))), (1, .ref (X0 + 0)), (0, .ref (g.2.2.2 8))] [] := by
    intro n7
    induction n7 using Nat.strongRecOn with
    | ind n7 ih7 =>
      intro nS nA t7 i7 F hn7 hv7_0 hv7_1
      have hV := hv7_1
      have hI := hV.1
      have hB := hV.bd
      have hD := hV.db
      have hC := hV.2.1
      obtain ⟨xs, ys, ks, hT⟩ := hV.tc
      obtain ⟨b1, b2, b3, b4, b5⟩ := hI.bnd
      refine V_iload_n X dL_law_7 0 rfl ?_
      refine V_bipush (v := nI 12) X dL_law_8 (by decide) ?_
      refine V_icmpgeN X (by omega) (by omega) (tgt := 183) dL_law_10 (by decide) (fun h1 => ?_) (fun h1 => ?_)
      · -- 10 true
        refine V_aload_n X dL_law_183 1 rfl ?_
        refine V_callV (rest := []) X Hh ml_L_78 in_X5_digest (ci := 7) rfl se_X5_digest (C_recv (q := 0) (by decide) rfl) (by decide) (by decide) (k_X5_digest hX hI hG xs ys ks hT hD hB hC) rfl rfl (Nat.le_of_ble_eq_true rfl) ⟨by omega, by omega⟩ dL_law_184 (fun _ _ h => False.elim h) (fun v9 σ' hp9 => ?_)
        obtain ⟨⟨d2, rfl, hrd2⟩, t3, F4, rfl, hJF4⟩ := hp9
        have hvd2 : cDg nP nS nA nC nT F xs ys ks d2 := hrd2
        have hKF4 : cM F F4 := hJF4
        show V g κ 6 (100 + 100 * i7 + 5) (500 + 1000 * i7 + 40) (t3, cW g X0 F4 σ1) 187 [(2, .int (nI (i7))), (1, .ref (X0 + 0)), (0, .ref (g.2.2.2 8))] [.long (d2)]
        refine V_lstore_n X [(2, .long (d2)), (1, .ref (X0 + 0)), (0, .ref (g.2.2.2 8))] dL_law_187 (by decide) rfl ?_
        refine V_aload_n X dL_law_188 1 rfl ?_
        refine V_callV (rest := []) X Hh ml_L_85 in_X5_isSound (ci := 7) rfl se_X5_isSound (C_recv (q := 0) (by decide) rfl) (by decide) (by decide) (k_X5_isSound hX (hI.mvM hKF4) (hB.mvC hKF4) (hKF4.2 hC)) rfl rfl (Nat.le_of_ble_eq_true rfl) ⟨by omega, by omega⟩ dL_law_189 (fun _ _ h => False.elim h) (fun v189 σ' hp189 => ?_)
        obtain ⟨r5, rfl, hrr5, F6, rfl, hJF6⟩ := hp189
        have hvr5 : mTl r5 (cSd nP nS nA F) := by have z : mTl r5 (cSd nP nS nA F4) := hrr5; rw [cSd_W (hKF4).1] at z; exact z
        have hKF6 : cM F F6 := hKF4.trans hJF6
        show V g κ 6 (100 + 100 * i7 + 5) (500 + 1000 * i7 + 40) (t3, cW g X0 F6 σ1) 192 [(2, .long (d2)), (1, .ref (X0 + 0)), (0, .ref (g.2.2.2 8))] [.int (r5)]
        refine V_ifeq X (tgt := 208) dL_law_192 (by decide) (fun h7 => absurd h7 (mTl_pos hvr5 (jV_sd hV (by omega)))) (fun h7 => ?_)
        refine V_aload_n X dL_law_195 1 rfl ?_
        refine V_callV (rest := []) X Hh ml_L_78 in_X5_digest (ci := 7) rfl se_X5_digest (C_recv (q := 0) (by decide) rfl) (by decide) (by decide) (k_X5_digest hX (hI.mvM hKF6) hG xs ys ks (hT.mvC hKF6) (hD.mvC hKF6) (hB.mvC hKF6) (hKF6.2 hC)) rfl rfl (Nat.le_of_ble_eq_true rfl) ⟨by omega, by omega⟩ dL_law_196 (fun _ _ h => False.elim h) (fun v9 σ' hp9 => ?_)
        obtain ⟨⟨d8, rfl, hrd8⟩, t9, F10, rfl, hJF10⟩ := hp9
        have hvd8 : cDg nP nS nA nC nT F xs ys ks d8 := by have z := hrd8; rw [cDg_W (hKF6).1] at z; exact z
        have hKF10 : cM F F10 := hKF6.trans hJF10
        show V g κ 6 (100 + 100 * i7 + 5 + 5) (500 + 1000 * i7 + 40 + 40) (t9, cW g X0 F10 σ1) 199 [(2, .long (d2)), (1, .ref (X0 + 0)), (0, .ref (g.2.2.2 8))] [.long (d8)]
        refine V_lload_n X dL_law_199 0 rfl ?_
        refine V_lcmp X dL_law_200 ?_
        rw [lc0 (cDg_un b1 b2 hvd8 hvd2)]
        show V g κ 6 (100 + 100 * i7 + 5 + 5) (500 + 1000 * i7 + 40 + 40) (t9, cW g X0 F10 σ1) 201 [(2, .long (d2)), (1, .ref (X0 + 0)), (0, .ref (g.2.2.2 8))] [.int (0)]
        refine V_ifne X (tgt := 208) dL_law_201 (by decide) (fun h11 => absurd h11 (not_not_intro rfl)) (fun h11 => ?_)
        refine V_iconst (v := nI 1) X dL_law_204 (by decide) ?_
        refine V_goto (tgt := 209) X dL_law_205 (by decide) ?_
        exact hend _ _ _ _ (by omega) (by omega)
      · -- 10 false
        refine V_iconst (v := nI 0) X dL_law_13 (by decide) ?_
        refine V_istore_n X [(3, .int (nI (0))), (2, .int (nI (i7))), (1, .ref (X0 + 0)), (0, .ref (g.2.2.2 8))] dL_law_14 (by decide) rfl ?_
        have L15 : ∀ (n15 : Nat) (i15 : Nat) (G15 : Nat → Nat → Int32), n15 = nS - i15 → cM F G15 → i15 ≤ nS → V g κ 6 (100 + 100 * i7 + 2 * i15) (500 + 1000 * i7 + 12 * i15) (t7, cW g X0 G15 σ1) 15 [(3, .int (nI (i15))), (2, .int (nI (i7))), (1, .ref (X0 + 0)), (0, .ref (g.2.2.2 8))] [] := by
          intro n15
          induction n15 using Nat.strongRecOn with
          | ind n15 ih15 =>
            intro i15 G15 hn15 hJ15 hv15_0
            refine V_iload_n X dL_law_15 0 rfl ?_
            refine V_aload_n X dL_law_16 2 rfl ?_
            refine V_iconst (v := nI 3) X dL_law_17 (by decide) ?_
            refine V_callV (rest := [.int (nI (i15))]) X Hh ml_L_38 in_X5_house (ci := 7) rfl se_X5_house (C_recv (q := 0) (by decide) rfl) (by decide) (by decide) (k_X5_house hX (hI.mvM hJ15) hG (nI (3)) (hB.mvC hJ15) (hJ15.2 hC)) rfl rfl (Nat.le_of_ble_eq_true rfl) ⟨by omega, by omega⟩ dL_law_18 (fun _ _ h => False.elim (h.1.elim (fun q => q.elim (fun q => q.1 (⟨_, rfl, by omega, by omega⟩)) (fun q => (fun q => q) q.2)) id)) (fun v18 σ' hp18 => ?_)
            obtain ⟨w9, ew9, lw9, r12, rfl, hrr12, F13, rfl, hJF13⟩ := hp18
            have zw9 : 3 = w9 := (nI_eq (by omega) (by omega)).mp ew9
            subst zw9
            have hvr12 : cHo nP nS nA nC nT F (3) (r12) := by have z : cHo nP nS nA nC nT G15 (3) (r12) := hrr12; rw [cHo_W (hJ15).1] at z; exact z
            have hKF13 : cM F F13 := hJ15.trans hJF13
            show V g κ 6 (100 + 100 * i7 + 2 * i15 + 1) (500 + 1000 * i7 + 12 * i15 + 6) (t7, cW g X0 F13 σ1) 21 [(3, .int (nI (i15))), (2, .int (nI (i7))), (1, .ref (X0 + 0)), (0, .ref (g.2.2.2 8))] [.int (r12), .int (nI (i15))]
            obtain rfl : r12 = nI nS := cHo_3 hvr12
            show V g κ 6 (100 + 100 * i7 + 2 * i15 + 1) (500 + 1000 * i7 + 12 * i15 + 6) (t7, cW g X0 F13 σ1) 21 [(3, .int (nI (i15))), (2, .int (nI (i7))), (1, .ref (X0 + 0)), (0, .ref (g.2.2.2 8))] [.int (nI (nS)), .int (nI (i15))]
            refine V_icmpgeN X (by omega) (by omega) (tgt := 40) dL_law_21 (by decide) (fun h14 => ?_) (fun h14 => ?_)
            · -- 21 true
              refine V_iconst (v := nI 0) X dL_law_40 (by decide) ?_
              refine V_istore_n X [(3, .int (nI (0))), (2, .int (nI (i7))), (1, .ref (X0 + 0)), (0, .ref (g.2.2.2 8))] dL_law_41 (by decide) rfl ?_
              refine V_iconst (v := nI 0) X dL_law_42 (by decide) ?_
              refine V_istore X [(4, .int (nI (0))), (3, .int (nI (0))), (2, .int (nI (i7))), (1, .ref (X0 + 0)), (0, .ref (g.2.2.2 8))] dL_law_43 (by decide) rfl ?_
              have L45 : ∀ (n45 : Nat) (i45 : Nat) (x45 : Int32) (G45 : Nat → Nat → Int32), n45 = nA - i45 → cM F G45 → i45 ≤ nA → x45 = zsm (F 11) i45 → V g κ 6 (100 + 100 * i7 + 20 + 3 * i45) (500 + 1000 * i7 + 100 + 18 * i45) (t7, cW g X0 G45 σ1) 45 [(4, .int (nI (i45))), (3, .int (x45)), (2, .int (nI (i7))), (1, .ref (X0 + 0)), (0, .ref (g.2.2.2 8))] [] := by
                intro n45
                induction n45 using Nat.strongRecOn with
                | ind n45 ih45 =>
                  intro i45 x45 G45 hn45 hJ45 hv45_0 hv45_1
                  refine V_iload X dL_law_45 0 rfl ?_
                  refine V_aload_n X dL_law_47 3 rfl ?_
                  refine V_iconst (v := nI 1) X dL_law_48 (by decide) ?_
                  refine V_callV (rest := [.int (nI (i45))]) X Hh ml_L_38 in_X5_house (ci := 7) rfl se_X5_house (C_recv (q := 0) (by decide) rfl) (by decide) (by decide) (k_X5_house hX (hI.mvM hJ45) hG (nI (1)) (hB.mvC hJ45) (hJ45.2 hC)) rfl rfl (Nat.le_of_ble_eq_true rfl) ⟨by omega, by omega⟩ dL_law_49 (fun _ _ h => False.elim (h.1.elim (fun q => q.elim (fun q => q.1 (⟨_, rfl, by omega, by omega⟩)) (fun q => (fun q => q) q.2)) id)) (fun v49 σ' hp49 => ?_)
                  obtain ⟨w9, ew9, lw9, r15, rfl, hrr15, F16, rfl, hJF16⟩ := hp49
                  have zw9 : 1 = w9 := (nI_eq (by omega) (by omega)).mp ew9
                  subst zw9
                  have hvr15 : cHo nP nS nA nC nT F (1) (r15) := by have z : cHo nP nS nA nC nT G45 (1) (r15) := hrr15; rw [cHo_W (hJ45).1] at z; exact z
                  have hKF16 : cM F F16 := hJ45.trans hJF16
                  show V g κ 6 (100 + 100 * i7 + 20 + 3 * i45 + 1) (500 + 1000 * i7 + 100 + 18 * i45 + 6) (t7, cW g X0 F16 σ1) 52 [(4, .int (nI (i45))), (3, .int (x45)), (2, .int (nI (i7))), (1, .ref (X0 + 0)), (0, .ref (g.2.2.2 8))] [.int (r15), .int (nI (i45))]
                  obtain rfl : r15 = nI nA := cHo_1 hvr15
                  show V g κ 6 (100 + 100 * i7 + 20 + 3 * i45 + 1) (500 + 1000 * i7 + 100 + 18 * i45 + 6) (t7, cW g X0 F16 σ1) 52 [(4, .int (nI (i45))), (3, .int (x45)), (2, .int (nI (i7))), (1, .ref (X0 + 0)), (0, .ref (g.2.2.2 8))] [.int (nI (nA)), .int (nI (i45))]
                  refine V_icmpgeN X (by omega) (by omega) (tgt := 83) dL_law_52 (by decide) (fun h17 => ?_) (fun h17 => ?_)
                  · -- 52 true
                    have hsum : x45 = zsm (F 11) nA := by have z := hv45_1; rw [show i45 = nA by omega] at z; exact z
                    refine V_iload_n X dL_law_83 1 rfl ?_
                    refine V_aload_n X dL_law_84 3 rfl ?_
                    refine V_bipush (v := nI 9) X dL_law_85 (by decide) ?_
                    refine V_callV (rest := [.int (x45)]) X Hh ml_L_38 in_X5_house (ci := 7) rfl se_X5_house (C_recv (q := 0) (by decide) rfl) (by decide) (by decide) (k_X5_house hX (hI.mvM hKF16) hG (nI (9)) (hB.mvC hKF16) (hKF16.2 hC)) rfl rfl (Nat.le_of_ble_eq_true rfl) ⟨by omega, by omega⟩ dL_law_87 (fun _ _ h => False.elim (h.1.elim (fun q => q.elim (fun q => q.1 (⟨_, rfl, by omega, by omega⟩)) (fun q => (fun q => q) q.2)) id)) (fun v87 σ' hp87 => ?_)
                    obtain ⟨w9, ew9, lw9, r18, rfl, hrr18, F19, rfl, hJF19⟩ := hp87
                    have zw9 : 9 = w9 := (nI_eq (by omega) (by omega)).mp ew9
                    subst zw9
                    have hvr18 : cHo nP nS nA nC nT F (9) (r18) := by have z : cHo nP nS nA nC nT F16 (9) (r18) := hrr18; rw [cHo_W (hKF16).1] at z; exact z
                    have hKF19 : cM F F19 := hKF16.trans hJF19
                    show V g κ 6 (100 + 100 * i7 + 20 + 3 * i45 + 1 + 1) (500 + 1000 * i7 + 100 + 18 * i45 + 6 + 6) (t7, cW g X0 F19 σ1) 90 [(4, .int (nI (i45))), (3, .int (x45)), (2, .int (nI (i7))), (1, .ref (X0 + 0)), (0, .ref (g.2.2.2 8))] [.int (r18), .int (x45)]
                    show V g κ 6 (100 + 100 * i7 + 20 + 3 * i45 + 1 + 1) (500 + 1000 * i7 + 100 + 18 * i45 + 6 + 6) (t7, cW g X0 F19 σ1) 90 [(4, .int (nI (i45))), (3, .int (x45)), (2, .int (nI (i7))), (1, .ref (X0 + 0)), (0, .ref (g.2.2.2 8))] [.int (r18), .int (x45)]
                    refine V_aload_n X dL_law_90 3 rfl ?_
                    refine V_bipush (v := nI 10) X dL_law_91 (by decide) ?_
                    refine V_callV (rest := [.int (r18), .int (x45)]) X Hh ml_L_38 in_X5_house (ci := 7) rfl se_X5_house (C_recv (q := 0) (by decide) rfl) (by decide) (by decide) (k_X5_house hX (hI.mvM hKF19) hG (nI (10)) (hB.mvC hKF19) (hKF19.2 hC)) rfl rfl (Nat.le_of_ble_eq_true rfl) ⟨by omega, by omega⟩ dL_law_93 (fun _ _ h => False.elim (h.1.elim (fun q => q.elim (fun q => q.1 (⟨_, rfl, by omega, by omega⟩)) (fun q => (fun q => q) q.2)) id)) (fun v93 σ' hp93 => ?_)
                    obtain ⟨w9, ew9, lw9, r20, rfl, hrr20, F21, rfl, hJF21⟩ := hp93
                    have zw9 : 10 = w9 := (nI_eq (by omega) (by omega)).mp ew9
                    subst zw9
                    have hvr20 : cHo nP nS nA nC nT F (10) (r20) := by have z : cHo nP nS nA nC nT F19 (10) (r20) := hrr20; rw [cHo_W (hKF19).1] at z; exact z
                    have hKF21 : cM F F21 := hKF19.trans hJF21
                    show V g κ 6 (100 + 100 * i7 + 20 + 3 * i45 + 1 + 1 + 1) (500 + 1000 * i7 + 100 + 18 * i45 + 6 + 6 + 6) (t7, cW g X0 F21 σ1) 96 [(4, .int (nI (i45))), (3, .int (x45)), (2, .int (nI (i7))), (1, .ref (X0 + 0)), (0, .ref (g.2.2.2 8))] [.int (r20), .int (r18), .int (x45)]
                    show V g κ 6 (100 + 100 * i7 + 20 + 3 * i45 + 1 + 1 + 1) (500 + 1000 * i7 + 100 + 18 * i45 + 6 + 6 + 6) (t7, cW g X0 F21 σ1) 96 [(4, .int (nI (i45))), (3, .int (x45)), (2, .int (nI (i7))), (1, .ref (X0 + 0)), (0, .ref (g.2.2.2 8))] [.int (r20), .int (r18), .int (x45)]
                    refine V_isub X dL_law_96 (V.topi (fun w22 ew22 => ?_))
                    refine V_icmpne X (tgt := 142) dL_law_97 (by decide) (fun h23 => absurd h23 (not_not_intro (by rw [ew22, hsum, cHo_9 hvr18, cHo_10 hvr20]; exact hV.2.2.2.2.2.2.2.2.2.2.2.2.2.2.2.2.2.2))) (fun h23 => ?_)
                    refine V_iload_n X dL_law_100 1 rfl ?_
                    refine V_aload_n X dL_law_101 3 rfl ?_
                    refine V_bipush (v := nI 11) X dL_law_102 (by decide) ?_
                    refine V_callV (rest := [.int (x45)]) X Hh ml_L_38 in_X5_house (ci := 7) rfl se_X5_house (C_recv (q := 0) (by decide) rfl) (by decide) (by decide) (k_X5_house hX (hI.mvM hKF21) hG (nI (11)) (hB.mvC hKF21) (hKF21.2 hC)) rfl rfl (Nat.le_of_ble_eq_true rfl) ⟨by omega, by omega⟩ dL_law_104 (fun _ _ h => False.elim (h.1.elim (fun q => q.elim (fun q => q.1 (⟨_, rfl, by omega, by omega⟩)) (fun q => (fun q => q) q.2)) id)) (fun v104 σ' hp104 => ?_)
                    obtain ⟨w9, ew9, lw9, r24, rfl, hrr24, F25, rfl, hJF25⟩ := hp104
                    have zw9 : 11 = w9 := (nI_eq (by omega) (by omega)).mp ew9
                    subst zw9
                    have hvr24 : cHo nP nS nA nC nT F (11) (r24) := by have z : cHo nP nS nA nC nT F21 (11) (r24) := hrr24; rw [cHo_W (hKF21).1] at z; exact z
                    have hKF25 : cM F F25 := hKF21.trans hJF25
                    show V g κ 6 (100 + 100 * i7 + 20 + 3 * i45 + 1 + 1 + 1 + 1) (500 + 1000 * i7 + 100 + 18 * i45 + 6 + 6 + 6 + 6) (t7, cW g X0 F25 σ1) 107 [(4, .int (nI (i45))), (3, .int (x45)), (2, .int (nI (i7))), (1, .ref (X0 + 0)), (0, .ref (g.2.2.2 8))] [.int (r24), .int (x45)]
                    show V g κ 6 (100 + 100 * i7 + 20 + 3 * i45 + 1 + 1 + 1 + 1) (500 + 1000 * i7 + 100 + 18 * i45 + 6 + 6 + 6 + 6) (t7, cW g X0 F25 σ1) 107 [(4, .int (nI (i45))), (3, .int (x45)), (2, .int (nI (i7))), (1, .ref (X0 + 0)), (0, .ref (g.2.2.2 8))] [.int (r24), .int (x45)]
                    refine V_icmpne X (tgt := 142) dL_law_107 (by decide) (fun h26 => absurd h26 (not_not_intro (hsum.trans (cHo_11 hvr24).symm))) (fun h26 => ?_)
                    refine V_aload_n X dL_law_110 3 rfl ?_
                    refine V_bipush (v := nI 7) X dL_law_111 (by decide) ?_
                    refine V_callV (rest := []) X Hh ml_L_38 in_X5_house (ci := 7) rfl se_X5_house (C_recv (q := 0) (by decide) rfl) (by decide) (by decide) (k_X5_house hX (hI.mvM hKF25) hG (nI (7)) (hB.mvC hKF25) (hKF25.2 hC)) rfl rfl (Nat.le_of_ble_eq_true rfl) ⟨by omega, by omega⟩ dL_law_113 (fun _ _ h => False.elim (h.1.elim (fun q => q.elim (fun q => q.1 (⟨_, rfl, by omega, by omega⟩)) (fun q => (fun q => q) q.2)) id)) (fun v113 σ' hp113 => ?_)
                    obtain ⟨w9, ew9, lw9, r27, rfl, hrr27, F28, rfl, hJF28⟩ := hp113
                    have zw9 : 7 = w9 := (nI_eq (by omega) (by omega)).mp ew9
                    subst zw9
                    have hvr27 : cHo nP nS nA nC nT F (7) (r27) := by have z : cHo nP nS nA nC nT F25 (7) (r27) := hrr27; rw [cHo_W (hKF25).1] at z; exact z
                    have hKF28 : cM F F28 := hKF25.trans hJF28
                    show V g κ 6 (100 + 100 * i7 + 20 + 3 * i45 + 1 + 1 + 1 + 1 + 1) (500 + 1000 * i7 + 100 + 18 * i45 + 6 + 6 + 6 + 6 + 6) (t7, cW g X0 F28 σ1) 116 [(4, .int (nI (i45))), (3, .int (x45)), (2, .int (nI (i7))), (1, .ref (X0 + 0)), (0, .ref (g.2.2.2 8))] [.int (r27)]
                    show V g κ 6 (100 + 100 * i7 + 20 + 3 * i45 + 1 + 1 + 1 + 1 + 1) (500 + 1000 * i7 + 100 + 18 * i45 + 6 + 6 + 6 + 6 + 6) (t7, cW g X0 F28 σ1) 116 [(4, .int (nI (i45))), (3, .int (x45)), (2, .int (nI (i7))), (1, .ref (X0 + 0)), (0, .ref (g.2.2.2 8))] [.int (r27)]
                    refine V_iconst (v := (-1)) X dL_law_116 (by decide) ?_
                    refine V_icmpne X (tgt := 124) dL_law_117 (by decide) (fun h29 => ?_) (fun h29 => ?_)
                    · -- 117 true
                      refine V_iconst (v := nI 0) X dL_law_124 (by decide) ?_
                      refine V_aload_n X dL_law_125 3 rfl ?_
                      refine V_bipush (v := nI 8) X dL_law_126 (by decide) ?_
                      refine V_callV (rest := [.int (nI (0))]) X Hh ml_L_38 in_X5_house (ci := 7) rfl se_X5_house (C_recv (q := 0) (by decide) rfl) (by decide) (by decide) (k_X5_house hX (hI.mvM hKF28) hG (nI (8)) (hB.mvC hKF28) (hKF28.2 hC)) rfl rfl (Nat.le_of_ble_eq_true rfl) ⟨by omega, by omega⟩ dL_law_128 (fun _ _ h => False.elim (h.1.elim (fun q => q.elim (fun q => q.1 (⟨_, rfl, by omega, by omega⟩)) (fun q => (fun q => q) q.2)) id)) (fun v128 σ' hp128 => ?_)
                      obtain ⟨w9, ew9, lw9, r30, rfl, hrr30, F31, rfl, hJF31⟩ := hp128
                      have zw9 : 8 = w9 := (nI_eq (by omega) (by omega)).mp ew9
                      subst zw9
                      have hvr30 : cHo nP nS nA nC nT F (8) (r30) := by have z : cHo nP nS nA nC nT F28 (8) (r30) := hrr30; rw [cHo_W (hKF28).1] at z; exact z
                      have hKF31 : cM F F31 := hKF28.trans hJF31
                      show V g κ 6 (100 + 100 * i7 + 20 + 3 * i45 + 1 + 1 + 1 + 1 + 1 + 1) (500 + 1000 * i7 + 100 + 18 * i45 + 6 + 6 + 6 + 6 + 6 + 6) (t7, cW g X0 F31 σ1) 131 [(4, .int (nI (i45))), (3, .int (x45)), (2, .int (nI (i7))), (1, .ref (X0 + 0)), (0, .ref (g.2.2.2 8))] [.int (r30), .int (nI (0))]
                      show V g κ 6 (100 + 100 * i7 + 20 + 3 * i45 + 1 + 1 + 1 + 1 + 1 + 1) (500 + 1000 * i7 + 100 + 18 * i45 + 6 + 6 + 6 + 6 + 6 + 6) (t7, cW g X0 F31 σ1) 131 [(4, .int (nI (i45))), (3, .int (x45)), (2, .int (nI (i7))), (1, .ref (X0 + 0)), (0, .ref (g.2.2.2 8))] [.int (r30), .int (nI (0))]
                      refine V_ifeq X (tgt := 138) dL_law_131 (by decide) (fun h32 => ?_) (fun h32 => ?_)
                      · -- 131 true
                        have hes := cHo_78 b2 hvr27 hvr30
                        refine V_iconst (v := nI 0) X dL_law_138 (by decide) ?_
                        refine V_icmpeqN X (by omega) (by omega) (tgt := 144) dL_law_139 (by decide) (fun _ => ?_) (fun h => absurd rfl h)
                        refine V_aload_n X dL_law_144 3 rfl ?_
                        refine V_callV (rest := []) X Hh ml_L_78 in_X5_digest (ci := 7) rfl se_X5_digest (C_recv (q := 0) (by decide) rfl) (by decide) (by decide) (k_X5_digest hX (hI.mvM hKF31) hG xs ys ks (hT.mvC hKF31) (hD.mvC hKF31) (hB.mvC hKF31) (hKF31.2 hC)) rfl rfl (Nat.le_of_ble_eq_true rfl) ⟨by omega, by omega⟩ dL_law_145 (fun _ _ h => False.elim h) (fun v9 σ' hp9 => ?_)
                        obtain ⟨⟨d33, rfl, hrd33⟩, t34, F35, rfl, hJF35⟩ := hp9
                        have hvd33 : cDg nP nS nA nC nT F xs ys ks d33 := by have z := hrd33; rw [cDg_W (hKF31).1] at z; exact z
                        have hKF35 : cM F F35 := hKF31.trans hJF35
                        show V g κ 6 (100 + 100 * i7 + 20 + 3 * i45 + 1 + 1 + 1 + 1 + 1 + 1 + 5) (500 + 1000 * i7 + 100 + 18 * i45 + 6 + 6 + 6 + 6 + 6 + 6 + 40) (t34, cW g X0 F35 σ1) 148 [(4, .int (nI (i45))), (3, .int (x45)), (2, .int (nI (i7))), (1, .ref (X0 + 0)), (0, .ref (g.2.2.2 8))] [.long (d33)]
                        refine V_lstore X [(4, .long (d33)), (3, .int (x45)), (2, .int (nI (i7))), (1, .ref (X0 + 0)), (0, .ref (g.2.2.2 8))] dL_law_148 (by decide) rfl ?_
                        refine V_aload_n X dL_law_150 3 rfl ?_
                        refine V_aload_n X dL_law_151 4 rfl ?_
                        refine V_bipush (v := nI 16) X dL_law_152 (by decide) ?_
                        refine V_iload_n X dL_law_154 2 rfl ?_
                        refine V_iaddN X dL_law_155 ?_
                        refine V_callS (rest := [.ref (X0 + 0)]) X Hh ml_L_12 st_L_cell (by decide) (by decide) (k_L_cell (σ := (t34, cW g X0 F35 σ1)) (16 + i7) (by omega)) rfl rfl (Nat.le_of_ble_eq_true rfl) ⟨by omega, by omega⟩ dL_law_156 (fun _ _ h => False.elim h) (fun v156 σ' hp156 => ?_)
                        obtain ⟨hp156, rfl⟩ := hp156
                        obtain ⟨r36, rfl⟩ := hp156
                        show V g κ 6 (100 + 100 * i7 + 20 + 3 * i45 + 1 + 1 + 1 + 1 + 1 + 1 + 5) (500 + 1000 * i7 + 100 + 18 * i45 + 6 + 6 + 6 + 6 + 6 + 6 + 40) (t34, cW g X0 F35 σ1) 159 [(4, .long (d33)), (3, .int (x45)), (2, .int (nI (i7))), (1, .ref (X0 + 0)), (0, .ref (g.2.2.2 8))] [.int (r36), .ref (X0 + 0)]
                        refine V_callSX (rest := []) X Hh mw_L_isDone st_L_isDone (by decide) (by decide) (k_L_isDone hX hG (hV.mv hKF35) h2 (by omega) (r36)) rfl rfl (Nat.le_of_ble_eq_true rfl) ⟨by omega, by omega⟩ dL_law_159 (fun v9 σ' hp9 => ?_)
                        obtain ⟨b9, rfl, t9, F9, rfl, hb9⟩ := hp9
                        rcases hb9 with ⟨rfl, nS9, nA9, hV9⟩ | ⟨rfl, hm9⟩
                        · -- it was let
                          show V g κ 6 (100 + 100 * i7 + 20 + 3 * i45 + 1 + 1 + 1 + 1 + 1 + 1 + 5 + 4) (500 + 1000 * i7 + 100 + 18 * i45 + 6 + 6 + 6 + 6 + 6 + 6 + 40 + 24) (t9, cW g X0 F9 σ1) 162 [(4, .long (d33)), (3, .int (x45)), (2, .int (nI (i7))), (1, .ref (X0 + 0)), (0, .ref (g.2.2.2 8))] [.int (nI (1))]
                          refine V_ifneN X (by omega) (tgt := 177) dL_law_162 (by decide) (fun h37 => ?_) (fun h37 => absurd h37 (by decide))
                          refine V_iinc X (nI (i7 + 1)) [(2, .int (nI (i7 + 1))), (4, .long (d33)), (3, .int (x45)), (1, .ref (X0 + 0)), (0, .ref (g.2.2.2 8))] dL_law_177 2 rfl (zinc _) (by decide) rfl ?_
                          refine V_goto (tgt := 7) X dL_law_180 (by decide) ?_
                          exact V.sub [0, 3, 4] rfl (V.widen (by omega) (by omega) (ih7 _ (by omega) (nS9) (nA9) (t9) (i7 + 1) F9 rfl  (by omega) (by rw [show 1000 * (i7 + 1) = 1000 * i7 + 1000 by omega]; exact hV9)))
                        · -- it was not
                          have hJF9 := hm9
                          have hKF9 : cM F F9 := hKF35.trans hJF9
                          show V g κ 6 (100 + 100 * i7 + 20 + 3 * i45 + 1 + 1 + 1 + 1 + 1 + 1 + 5 + 4) (500 + 1000 * i7 + 100 + 18 * i45 + 6 + 6 + 6 + 6 + 6 + 6 + 40 + 24) (t9, cW g X0 F9 σ1) 162 [(4, .long (d33)), (3, .int (x45)), (2, .int (nI (i7))), (1, .ref (X0 + 0)), (0, .ref (g.2.2.2 8))] [.int (nI (0))]
                          refine V_ifneN X (by omega) (tgt := 177) dL_law_162 (by decide) (fun h38 => absurd h38 (not_not_intro rfl)) (fun h38 => ?_)
                          refine V_aload_n X dL_law_165 3 rfl ?_
                          refine V_callV (rest := []) X Hh ml_L_78 in_X5_digest (ci := 7) rfl se_X5_digest (C_recv (q := 0) (by decide) rfl) (by decide) (by decide) (k_X5_digest hX (hI.mvM hKF9) hG xs ys ks (hT.mvC hKF9) (hD.mvC hKF9) (hB.mvC hKF9) (hKF9.2 hC)) rfl rfl (Nat.le_of_ble_eq_true rfl) ⟨by omega, by omega⟩ dL_law_166 (fun _ _ h => False.elim h) (fun v9 σ' hp9 => ?_)
                          obtain ⟨⟨d39, rfl, hrd39⟩, t40, F41, rfl, hJF41⟩ := hp9
                          have hvd39 : cDg nP nS nA nC nT F xs ys ks d39 := by have z := hrd39; rw [cDg_W (hKF9).1] at z; exact z
                          have hKF41 : cM F F41 := hKF9.trans hJF41
                          show V g κ 6 (100 + 100 * i7 + 20 + 3 * i45 + 1 + 1 + 1 + 1 + 1 + 1 + 5 + 4 + 5) (500 + 1000 * i7 + 100 + 18 * i45 + 6 + 6 + 6 + 6 + 6 + 6 + 40 + 24 + 40) (t40, cW g X0 F41 σ1) 169 [(4, .long (d33)), (3, .int (x45)), (2, .int (nI (i7))), (1, .ref (X0 + 0)), (0, .ref (g.2.2.2 8))] [.long (d39)]
                          refine V_lload X dL_law_169 0 rfl ?_
                          refine V_lcmp X dL_law_171 ?_
                          rw [lc0 (cDg_un b1 b2 hvd39 hvd33)]
                          show V g κ 6 (100 + 100 * i7 + 20 + 3 * i45 + 1 + 1 + 1 + 1 + 1 + 1 + 5 + 4 + 5) (500 + 1000 * i7 + 100 + 18 * i45 + 6 + 6 + 6 + 6 + 6 + 6 + 40 + 24 + 40) (t40, cW g X0 F41 σ1) 172 [(4, .long (d33)), (3, .int (x45)), (2, .int (nI (i7))), (1, .ref (X0 + 0)), (0, .ref (g.2.2.2 8))] [.int (0)]
                          refine V_ifeq X (tgt := 177) dL_law_172 (by decide) (fun h42 => ?_) (fun h42 => absurd h42 (not_not_intro rfl))
                          refine V_iinc X (nI (i7 + 1)) [(2, .int (nI (i7 + 1))), (4, .long (d33)), (3, .int (x45)), (1, .ref (X0 + 0)), (0, .ref (g.2.2.2 8))] dL_law_177 2 rfl (zinc _) (by decide) rfl ?_
                          refine V_goto (tgt := 7) X dL_law_180 (by decide) ?_
                          exact V.sub [0, 3, 4] rfl (V.widen (by omega) (by omega) (ih7 _ (by omega) (nS) (nA) (t40) (i7 + 1) F41 rfl  (by omega) ((hV.mv hKF41).up (by omega))))
                      · -- 131 false
                        have hes := cHo_78 b2 hvr27 hvr30
                        refine V_iconst (v := nI 1) X dL_law_134 (by decide) ?_
                        refine V_goto (tgt := 139) X dL_law_135 (by decide) ?_
                        exact absurd (hes.mpr h32) h29
                    · -- 117 false
                      refine V_iconst (v := nI 1) X dL_law_120 (by decide) ?_
                      refine V_goto (tgt := 125) X dL_law_121 (by decide) ?_
                      refine V_aload_n X dL_law_125 3 rfl ?_
                      refine V_bipush (v := nI 8) X dL_law_126 (by decide) ?_
                      refine V_callV (rest := [.int (nI (1))]) X Hh ml_L_38 in_X5_house (ci := 7) rfl se_X5_house (C_recv (q := 0) (by decide) rfl) (by decide) (by decide) (k_X5_house hX (hI.mvM hKF28) hG (nI (8)) (hB.mvC hKF28) (hKF28.2 hC)) rfl rfl (Nat.le_of_ble_eq_true rfl) ⟨by omega, by omega⟩ dL_law_128 (fun _ _ h => False.elim (h.1.elim (fun q => q.elim (fun q => q.1 (⟨_, rfl, by omega, by omega⟩)) (fun q => (fun q => q) q.2)) id)) (fun v128 σ' hp128 => ?_)
                      obtain ⟨w9, ew9, lw9, r43, rfl, hrr43, F44, rfl, hJF44⟩ := hp128
                      have zw9 : 8 = w9 := (nI_eq (by omega) (by omega)).mp ew9
                      subst zw9
                      have hvr43 : cHo nP nS nA nC nT F (8) (r43) := by have z : cHo nP nS nA nC nT F28 (8) (r43) := hrr43; rw [cHo_W (hKF28).1] at z; exact z
                      have hKF44 : cM F F44 := hKF28.trans hJF44
                      show V g κ 6 (100 + 100 * i7 + 20 + 3 * i45 + 1 + 1 + 1 + 1 + 1 + 1) (500 + 1000 * i7 + 100 + 18 * i45 + 6 + 6 + 6 + 6 + 6 + 6) (t7, cW g X0 F44 σ1) 131 [(4, .int (nI (i45))), (3, .int (x45)), (2, .int (nI (i7))), (1, .ref (X0 + 0)), (0, .ref (g.2.2.2 8))] [.int (r43), .int (nI (1))]
                      show V g κ 6 (100 + 100 * i7 + 20 + 3 * i45 + 1 + 1 + 1 + 1 + 1 + 1) (500 + 1000 * i7 + 100 + 18 * i45 + 6 + 6 + 6 + 6 + 6 + 6) (t7, cW g X0 F44 σ1) 131 [(4, .int (nI (i45))), (3, .int (x45)), (2, .int (nI (i7))), (1, .ref (X0 + 0)), (0, .ref (g.2.2.2 8))] [.int (r43), .int (nI (1))]
                      refine V_ifeq X (tgt := 138) dL_law_131 (by decide) (fun h45 => ?_) (fun h45 => ?_)
                      · -- 131 true
                        have hes := cHo_78 b2 hvr27 hvr43
                        refine V_iconst (v := nI 0) X dL_law_138 (by decide) ?_
                        exact absurd h45 (hes.mp h29)
                      · -- 131 false
                        have hes := cHo_78 b2 hvr27 hvr43
                        refine V_iconst (v := nI 1) X dL_law_134 (by decide) ?_
                        refine V_goto (tgt := 139) X dL_law_135 (by decide) ?_
                        refine V_icmpeqN X (by omega) (by omega) (tgt := 144) dL_law_139 (by decide) (fun _ => ?_) (fun h => absurd rfl h)
                        refine V_aload_n X dL_law_144 3 rfl ?_
                        refine V_callV (rest := []) X Hh ml_L_78 in_X5_digest (ci := 7) rfl se_X5_digest (C_recv (q := 0) (by decide) rfl) (by decide) (by decide) (k_X5_digest hX (hI.mvM hKF44) hG xs ys ks (hT.mvC hKF44) (hD.mvC hKF44) (hB.mvC hKF44) (hKF44.2 hC)) rfl rfl (Nat.le_of_ble_eq_true rfl) ⟨by omega, by omega⟩ dL_law_145 (fun _ _ h => False.elim h) (fun v9 σ' hp9 => ?_)
                        obtain ⟨⟨d46, rfl, hrd46⟩, t47, F48, rfl, hJF48⟩ := hp9
                        have hvd46 : cDg nP nS nA nC nT F xs ys ks d46 := by have z := hrd46; rw [cDg_W (hKF44).1] at z; exact z
                        have hKF48 : cM F F48 := hKF44.trans hJF48
                        show V g κ 6 (100 + 100 * i7 + 20 + 3 * i45 + 1 + 1 + 1 + 1 + 1 + 1 + 5) (500 + 1000 * i7 + 100 + 18 * i45 + 6 + 6 + 6 + 6 + 6 + 6 + 40) (t47, cW g X0 F48 σ1) 148 [(4, .int (nI (i45))), (3, .int (x45)), (2, .int (nI (i7))), (1, .ref (X0 + 0)), (0, .ref (g.2.2.2 8))] [.long (d46)]
                        refine V_lstore X [(4, .long (d46)), (3, .int (x45)), (2, .int (nI (i7))), (1, .ref (X0 + 0)), (0, .ref (g.2.2.2 8))] dL_law_148 (by decide) rfl ?_
                        refine V_aload_n X dL_law_150 3 rfl ?_
                        refine V_aload_n X dL_law_151 4 rfl ?_
                        refine V_bipush (v := nI 16) X dL_law_152 (by decide) ?_
                        refine V_iload_n X dL_law_154 2 rfl ?_
                        refine V_iaddN X dL_law_155 ?_
                        refine V_callS (rest := [.ref (X0 + 0)]) X Hh ml_L_12 st_L_cell (by decide) (by decide) (k_L_cell (σ := (t47, cW g X0 F48 σ1)) (16 + i7) (by omega)) rfl rfl (Nat.le_of_ble_eq_true rfl) ⟨by omega, by omega⟩ dL_law_156 (fun _ _ h => False.elim h) (fun v156 σ' hp156 => ?_)
                        obtain ⟨hp156, rfl⟩ := hp156
                        obtain ⟨r49, rfl⟩ := hp156
                        show V g κ 6 (100 + 100 * i7 + 20 + 3 * i45 + 1 + 1 + 1 + 1 + 1 + 1 + 5) (500 + 1000 * i7 + 100 + 18 * i45 + 6 + 6 + 6 + 6 + 6 + 6 + 40) (t47, cW g X0 F48 σ1) 159 [(4, .long (d46)), (3, .int (x45)), (2, .int (nI (i7))), (1, .ref (X0 + 0)), (0, .ref (g.2.2.2 8))] [.int (r49), .ref (X0 + 0)]
                        refine V_callSX (rest := []) X Hh mw_L_isDone st_L_isDone (by decide) (by decide) (k_L_isDone hX hG (hV.mv hKF48) h2 (by omega) (r49)) rfl rfl (Nat.le_of_ble_eq_true rfl) ⟨by omega, by omega⟩ dL_law_159 (fun v9 σ' hp9 => ?_)
                        obtain ⟨b9, rfl, t9, F9, rfl, hb9⟩ := hp9
                        rcases hb9 with ⟨rfl, nS9, nA9, hV9⟩ | ⟨rfl, hm9⟩
                        · -- it was let
                          show V g κ 6 (100 + 100 * i7 + 20 + 3 * i45 + 1 + 1 + 1 + 1 + 1 + 1 + 5 + 4) (500 + 1000 * i7 + 100 + 18 * i45 + 6 + 6 + 6 + 6 + 6 + 6 + 40 + 24) (t9, cW g X0 F9 σ1) 162 [(4, .long (d46)), (3, .int (x45)), (2, .int (nI (i7))), (1, .ref (X0 + 0)), (0, .ref (g.2.2.2 8))] [.int (nI (1))]
                          refine V_ifneN X (by omega) (tgt := 177) dL_law_162 (by decide) (fun h50 => ?_) (fun h50 => absurd h50 (by decide))
                          refine V_iinc X (nI (i7 + 1)) [(2, .int (nI (i7 + 1))), (4, .long (d46)), (3, .int (x45)), (1, .ref (X0 + 0)), (0, .ref (g.2.2.2 8))] dL_law_177 2 rfl (zinc _) (by decide) rfl ?_
                          refine V_goto (tgt := 7) X dL_law_180 (by decide) ?_
                          exact V.sub [0, 3, 4] rfl (V.widen (by omega) (by omega) (ih7 _ (by omega) (nS9) (nA9) (t9) (i7 + 1) F9 rfl  (by omega) (by rw [show 1000 * (i7 + 1) = 1000 * i7 + 1000 by omega]; exact hV9)))
                        · -- it was not
                          have hJF9 := hm9
                          have hKF9 : cM F F9 := hKF48.trans hJF9
                          show V g κ 6 (100 + 100 * i7 + 20 + 3 * i45 + 1 + 1 + 1 + 1 + 1 + 1 + 5 + 4) (500 + 1000 * i7 + 100 + 18 * i45 + 6 + 6 + 6 + 6 + 6 + 6 + 40 + 24) (t9, cW g X0 F9 σ1) 162 [(4, .long (d46)), (3, .int (x45)), (2, .int (nI (i7))), (1, .ref (X0 + 0)), (0, .ref (g.2.2.2 8))] [.int (nI (0))]
                          refine V_ifneN X (by omega) (tgt := 177) dL_law_162 (by decide) (fun h51 => absurd h51 (not_not_intro rfl)) (fun h51 => ?_)
                          refine V_aload_n X dL_law_165 3 rfl ?_
                          refine V_callV (rest := []) X Hh ml_L_78 in_X5_digest (ci := 7) rfl se_X5_digest (C_recv (q := 0) (by decide) rfl) (by decide) (by decide) (k_X5_digest hX (hI.mvM hKF9) hG xs ys ks (hT.mvC hKF9) (hD.mvC hKF9) (hB.mvC hKF9) (hKF9.2 hC)) rfl rfl (Nat.le_of_ble_eq_true rfl) ⟨by omega, by omega⟩ dL_law_166 (fun _ _ h => False.elim h) (fun v9 σ' hp9 => ?_)
                          obtain ⟨⟨d52, rfl, hrd52⟩, t53, F54, rfl, hJF54⟩ := hp9
                          have hvd52 : cDg nP nS nA nC nT F xs ys ks d52 := by have z := hrd52; rw [cDg_W (hKF9).1] at z; exact z
                          have hKF54 : cM F F54 := hKF9.trans hJF54
                          show V g κ 6 (100 + 100 * i7 + 20 + 3 * i45 + 1 + 1 + 1 + 1 + 1 + 1 + 5 + 4 + 5) (500 + 1000 * i7 + 100 + 18 * i45 + 6 + 6 + 6 + 6 + 6 + 6 + 40 + 24 + 40) (t53, cW g X0 F54 σ1) 169 [(4, .long (d46)), (3, .int (x45)), (2, .int (nI (i7))), (1, .ref (X0 + 0)), (0, .ref (g.2.2.2 8))] [.long (d52)]
                          refine V_lload X dL_law_169 0 rfl ?_
                          refine V_lcmp X dL_law_171 ?_
                          rw [lc0 (cDg_un b1 b2 hvd52 hvd46)]
                          show V g κ 6 (100 + 100 * i7 + 20 + 3 * i45 + 1 + 1 + 1 + 1 + 1 + 1 + 5 + 4 + 5) (500 + 1000 * i7 + 100 + 18 * i45 + 6 + 6 + 6 + 6 + 6 + 6 + 40 + 24 + 40) (t53, cW g X0 F54 σ1) 172 [(4, .long (d46)), (3, .int (x45)), (2, .int (nI (i7))), (1, .ref (X0 + 0)), (0, .ref (g.2.2.2 8))] [.int (0)]
                          refine V_ifeq X (tgt := 177) dL_law_172 (by decide) (fun h55 => ?_) (fun h55 => absurd h55 (not_not_intro rfl))
                          refine V_iinc X (nI (i7 + 1)) [(2, .int (nI (i7 + 1))), (4, .long (d46)), (3, .int (x45)), (1, .ref (X0 + 0)), (0, .ref (g.2.2.2 8))] dL_law_177 2 rfl (zinc _) (by decide) rfl ?_
                          refine V_goto (tgt := 7) X dL_law_180 (by decide) ?_
                          exact V.sub [0, 3, 4] rfl (V.widen (by omega) (by omega) (ih7 _ (by omega) (nS) (nA) (t53) (i7 + 1) F54 rfl  (by omega) ((hV.mv hKF54).up (by omega))))
                  · -- 52 false
                    refine V_aload_n X dL_law_55 3 rfl ?_
                    refine V_iload X dL_law_56 0 rfl ?_
                    refine V_iconst (v := nI 5) X dL_law_58 (by decide) ?_
                    refine V_callV (rest := []) X Hh ml_L_75 in_X5_ofPlayer (ci := 7) rfl se_X5_ofPlayer (C_recv (q := 0) (by decide) rfl) (by decide) (by decide) (k_X5_ofPlayer hX (hI.mvM hKF16) hG (nI (i45)) (nI (5)) (hB.mvC hKF16) (hKF16.2 hC)) rfl rfl (Nat.le_of_ble_eq_true rfl) ⟨by omega, by omega⟩ dL_law_59 (fun _ _ h => False.elim (h.1.elim (fun q => q.elim (fun q => q.1 (⟨_, rfl, by omega⟩)) (fun q => (fun q => q.elim (fun q => q.1 (⟨_, rfl, by omega, by omega⟩)) (fun q => (fun q => q) q.2)) q.2)) id)) (fun v59 σ' hp59 => ?_)
                    obtain ⟨p9, w9, ep9, lp9, ew9, lw9, r56, rfl, hrr56, F57, rfl, hJF57⟩ := hp59
                    have zp9 : i45 = p9 := (nI_eq (by omega) (by omega)).mp ep9
                    subst zp9
                    have zw9 : 5 = w9 := (nI_eq (by omega) (by omega)).mp ew9
                    subst zw9
                    have hvr56 : cPl nP nS nA F (i45) (5) (r56) := by have z : cPl nP nS nA F16 (i45) (5) (r56) := hrr56; rw [cPl_W (hKF16).1] at z; exact z
                    have hKF57 : cM F F57 := hKF16.trans hJF57
                    show V g κ 6 (100 + 100 * i7 + 20 + 3 * i45 + 1 + 1) (500 + 1000 * i7 + 100 + 18 * i45 + 6 + 6) (t7, cW g X0 F57 σ1) 62 [(4, .int (nI (i45))), (3, .int (x45)), (2, .int (nI (i7))), (1, .ref (X0 + 0)), (0, .ref (g.2.2.2 8))] [.int (r56)]
                    refine V_ifge X (tgt := 67) dL_law_62 (by decide) (fun h58 => ?_) (fun h58 => absurd h58 (not_not_intro (jV_pu hV (by omega) (by omega) (cPl_5 hvr56))))
                    refine V_iload_n X dL_law_67 1 rfl ?_
                    refine V_aload_n X dL_law_68 3 rfl ?_
                    refine V_iload X dL_law_69 0 rfl ?_
                    refine V_iconst (v := nI 5) X dL_law_71 (by decide) ?_
                    refine V_callV (rest := [.int (x45)]) X Hh ml_L_75 in_X5_ofPlayer (ci := 7) rfl se_X5_ofPlayer (C_recv (q := 0) (by decide) rfl) (by decide) (by decide) (k_X5_ofPlayer hX (hI.mvM hKF57) hG (nI (i45)) (nI (5)) (hB.mvC hKF57) (hKF57.2 hC)) rfl rfl (Nat.le_of_ble_eq_true rfl) ⟨by omega, by omega⟩ dL_law_72 (fun _ _ h => False.elim (h.1.elim (fun q => q.elim (fun q => q.1 (⟨_, rfl, by omega⟩)) (fun q => (fun q => q.elim (fun q => q.1 (⟨_, rfl, by omega, by omega⟩)) (fun q => (fun q => q) q.2)) q.2)) id)) (fun v72 σ' hp72 => ?_)
                    obtain ⟨p9, w9, ep9, lp9, ew9, lw9, r59, rfl, hrr59, F60, rfl, hJF60⟩ := hp72
                    have zp9 : i45 = p9 := (nI_eq (by omega) (by omega)).mp ep9
                    subst zp9
                    have zw9 : 5 = w9 := (nI_eq (by omega) (by omega)).mp ew9
                    subst zw9
                    have hvr59 : cPl nP nS nA F (i45) (5) (r59) := by have z : cPl nP nS nA F57 (i45) (5) (r59) := hrr59; rw [cPl_W (hKF57).1] at z; exact z
                    have hKF60 : cM F F60 := hKF57.trans hJF60
                    show V g κ 6 (100 + 100 * i7 + 20 + 3 * i45 + 1 + 1 + 1) (500 + 1000 * i7 + 100 + 18 * i45 + 6 + 6 + 6) (t7, cW g X0 F60 σ1) 75 [(4, .int (nI (i45))), (3, .int (x45)), (2, .int (nI (i7))), (1, .ref (X0 + 0)), (0, .ref (g.2.2.2 8))] [.int (r59), .int (x45)]
                    refine V_iadd X dL_law_75 (V.topi (fun w61 ew61 => ?_))
                    refine V_istore_n X [(3, .int (w61)), (4, .int (nI (i45))), (2, .int (nI (i7))), (1, .ref (X0 + 0)), (0, .ref (g.2.2.2 8))] dL_law_76 (by decide) rfl ?_
                    refine V_iinc X (nI (i45 + 1)) [(4, .int (nI (i45 + 1))), (3, .int (w61)), (2, .int (nI (i7))), (1, .ref (X0 + 0)), (0, .ref (g.2.2.2 8))] dL_law_77 1 rfl (zinc _) (by decide) rfl ?_
                    refine V_goto (tgt := 45) X dL_law_80 (by decide) ?_
                    exact V.sub [0, 1, 2, 3, 4] rfl (V.widen (by omega) (by omega) (ih45 _ (by omega) (i45 + 1) (w61) F60 rfl hKF60 (by omega) (by rw [ew61, hv45_1, cPl_5 hvr59]; rfl)))
              exact V.widen (by omega) (by omega) (L45 _ (0) (nI 0) F13 rfl hKF13 (by omega) (rfl))
            · -- 21 false
              refine V_aload_n X dL_law_24 2 rfl ?_
              refine V_iload_n X dL_law_25 0 rfl ?_
              refine V_callS (rest := []) X Hh ml_L_71 st_L_isFilled (by decide) (by decide) (k_L_isFilled hX (hI.mvM hKF13) hG (hV.mv hKF13) (i15) (by omega)) rfl rfl (Nat.le_of_ble_eq_true rfl) ⟨by omega, by omega⟩ dL_law_26 (fun _ _ h => False.elim h) (fun v26 σ' hp26 => ?_)
              obtain ⟨rfl, F62, rfl, hJF62⟩ := hp26
              have hKF62 : cM F F62 := hKF13.trans hJF62
              show V g κ 6 (100 + 100 * i7 + 2 * i15 + 1 + 1) (500 + 1000 * i7 + 12 * i15 + 6 + 6) (t7, cW g X0 F62 σ1) 29 [(3, .int (nI (i15))), (2, .int (nI (i7))), (1, .ref (X0 + 0)), (0, .ref (g.2.2.2 8))] [.int (nI (1))]
              refine V_ifneN X (by omega) (tgt := 34) dL_law_29 (by decide) (fun h63 => ?_) (fun h63 => absurd h63 (by decide))
              refine V_iinc X (nI (i15 + 1)) [(3, .int (nI (i15 + 1))), (2, .int (nI (i7))), (1, .ref (X0 + 0)), (0, .ref (g.2.2.2 8))] dL_law_34 0 rfl (zinc _) (by decide) rfl ?_
              refine V_goto (tgt := 15) X dL_law_37 (by decide) ?_
              exact V.sub [0, 1, 2, 3] rfl (V.widen (by omega) (by omega) (ih15 _ (by omega) (i15 + 1) F62 rfl hKF62 (by omega)))
        exact V.widen (by omega) (by omega) (L15 _ (0) F rfl cM.rfl' (by omega))
  exact V.widen (by omega) (by omega) (L7 _ (nS0) (nA0) (t1) (0) F0 rfl  (by omega) (hV0))
