set_option maxRecDepth 100000 in
set_option maxHeartbeats 4000000 in
theorem k_X12_finds {g : zG} {t : Nat × Nat} {ad N : Nat → Nat} {S : Int64} {σ0 : Nat → Option va_E} {F : Nat → Nat → Int32} (hK : rK g ad N) (hI : rI N F) {A Bt : Nat} (hT : zTd g ad N A Bt) (set : Int32) : ∀ (r part : Nat) (hp : part < N 0) (fo ft : Nat → Int32) (hv : zVal N fo) (hr : zun ft ≤ r), Ct g (15 + r) yX12_finds cX12_finds 6 (some .boolean) 0 0 [.ref (ad (0)), .int (nI part), .int set, .ref A, .ref Bt] (t, rO g ad N S F (zTt g σ0 A Bt fo ft)) (qFind g t ad N S F σ0 A Bt ft) zNo := by
  intro r
  induction r using Nat.strongRecOn with
  | ind r ihr =>
  intro part hp fo ft hv hr
  refine Ct.of (lv := [(0, .ref (ad (0))), (1, .int (nI (part))), (2, .int (set)), (3, .ref (A)), (4, .ref (Bt))]) (by decide) (Nat.le_of_ble_eq_true rfl) rfl ?_
  intro κ X E B _
  have X : zX g κ RX12 cX12_finds 6 := X
  obtain ⟨b0, b1, b2, b3, b4⟩ := hI.bnd
  refine V_iconst (v := nI 0) X dX12_finds_0 (by decide) ?_
  refine V_istore X [(5, .int (nI (0))), (0, .ref (ad (0))), (1, .int (nI (part))), (2, .int (set)), (3, .ref (A)), (4, .ref (Bt))] dX12_finds_1 (by decide) rfl ?_
  have L3 : ∀ (n3 : Nat) (i3 : Nat) (fo3 : Nat → Int32) (ft3 : Nat → Int32), n3 = N 1 - i3 → i3 ≤ N 1 → (zVal N fo3) → (zun ft3 ≤ zun ft) → V g κ 6 (0) (0) (t, rO g ad N S F (zTt g σ0 A Bt (fo3) (ft3))) 3 [(5, .int (nI (i3))), (0, .ref (ad (0))), (1, .int (nI (part))), (2, .int (set)), (3, .ref (A)), (4, .ref (Bt))] [] := by
    intro n3
    induction n3 using Nat.strongRecOn with
    | ind n3 ih3 =>
      intro i3 fo3 ft3 hn3 hi3 hv3_0 hv3_1
      refine V_iload X dX12_finds_3 0 rfl ?_
      refine V_aload_n X dX12_finds_5 1 rfl ?_
      refine R_getf X fl_X12_16 hK (0) (rlv (by omega)) rfl rfl dX12_finds_6 ?_
      refine V_callV (rest := [.int (nI (i3))]) X E.room ml_X12_42 in_Jx4a65c_size_8abf5 (ci := 3) rfl se_Jx4a65c_size_8abf5 (rO_list hK (i := 1) (by decide)) (by omega) (by decide) (r_size hK 1 (by decide)) rfl rfl (Nat.le_of_ble_eq_true rfl) ⟨by omega, by omega⟩ dX12_finds_9 (fun _ _ h => False.elim h) (fun v1 σ' hp2 => ?_)
      obtain ⟨hp2, rfl⟩ := hp2
      cases (hp2 : _ = some (Value.int (nI (N 1))))
      show V g κ 6 (0) (0) (t, rO g ad N S F (zTt g σ0 A Bt (fo3) (ft3))) 12 [(5, .int (nI (i3))), (0, .ref (ad (0))), (1, .int (nI (part))), (2, .int (set)), (3, .ref (A)), (4, .ref (Bt))] [.int (nI (N 1)), .int (nI (i3))]
      refine V_icmpgeN X (by omega) (by omega) (tgt := 81) dX12_finds_12 (by decide) (fun h3 => ?_) (fun h3 => ?_)
      · -- 12 true
        refine V_iconst (v := nI 0) X dX12_finds_81 (by decide) ?_
        exact V_zret X E (by first | rfl | decide | exact zbool (by assumption)) (by omega) (by omega) ⟨⟨_, rfl, z01_0⟩, _, _, rfl, hv3_0, hv3_1⟩ dX12_finds_82
      · -- 12 false
        refine V_aload_n X dX12_finds_15 1 rfl ?_
        refine V_iload X dX12_finds_16 0 rfl ?_
        refine V_iload_n X dX12_finds_18 2 rfl ?_
        refine V_callV (rest := []) X E.room ml_X12_163 in_X12_plays (ci := 16) rfl se_X12_plays (R_recv hK (q := 0) (rlv (by omega)) rfl) (by omega) (by decide) (k_X12_plays hK hI (i3) (part) (by omega) (by omega)) rfl rfl (Nat.le_of_ble_eq_true rfl) ⟨by omega, by omega⟩ dX12_finds_19 (fun _ _ h => False.elim h) (fun v19 σ' hp19 => ?_)
        obtain ⟨hp19, rfl⟩ := hp19
        rcases hp19 with ⟨rfl, z4⟩ | ⟨rfl, z4⟩
        · -- yes
          show V g κ 6 (0) (0) (t, rO g ad N S F (zTt g σ0 A Bt (fo3) (ft3))) 22 [(5, .int (nI (i3))), (0, .ref (ad (0))), (1, .int (nI (part))), (2, .int (set)), (3, .ref (A)), (4, .ref (Bt))] [.int (nI (1))]
          refine V_ifeqN X (by omega) (tgt := 75) dX12_finds_22 (by decide) (fun h5 => absurd h5 (by omega)) (fun h5 => ?_)
          refine V_aload X dX12_finds_25 5 rfl ?_
          refine V_iload X dX12_finds_27 0 rfl ?_
          refine T_zald X hT (i3) rfl (by omega) dX12_finds_29 (V.topi (fun x6 ex6 => ?_))
          refine V_ifeq X (tgt := 36) dX12_finds_30 (by decide) (fun h7 => ?_) (fun h7 => ?_)
          · -- 30 true
            refine V_aload X dX12_finds_36 5 rfl ?_
            refine V_iload X dX12_finds_38 0 rfl ?_
            refine V_iconst (v := nI 1) X dX12_finds_40 (by decide) ?_
            refine T_zast X hK hT (i3) rfl (by omega) dX12_finds_41 ?_
            have hz8 := zun_set (y := vp_nar .boolean (nI 1)) (i := i3) (by omega) (ex6.symm.trans h7) (by decide)
            have hu9 : zun (upd (ft3) (i3) (vp_nar .boolean (nI (1)))) ≤ zun ft := by have := hv3_1; omega
            show V g κ 6 (0) (0) (t, rO g ad N S F (zTt g σ0 A Bt (fo3) (upd (ft3) (i3) (vp_nar .boolean (nI (1)))))) 42 [(5, .int (nI (i3))), (0, .ref (ad (0))), (1, .int (nI (part))), (2, .int (set)), (3, .ref (A)), (4, .ref (Bt))] []
            refine V_aload_n X dX12_finds_42 4 rfl ?_
            refine V_iload X dX12_finds_43 0 rfl ?_
            refine T_iald X hT (i3) rfl (by omega) dX12_finds_45 ?_
            rcases hv3_0 (i3) (by omega) with eo | ⟨p9, hp9, eo⟩
            · rw [eo]
              show V g κ 6 (0) (0) (t, rO g ad N S F (zTt g σ0 A Bt (fo3) (upd (ft3) (i3) (vp_nar .boolean (nI (1)))))) 46 [(5, .int (nI (i3))), (0, .ref (ad (0))), (1, .int (nI (part))), (2, .int (set)), (3, .ref (A)), (4, .ref (Bt))] [.int (-1)]
              refine V_iconst (v := (-1)) X dX12_finds_46 (by decide) ?_
              refine V_icmpeq X (tgt := 68) dX12_finds_47 (by decide) (fun h10 => ?_) (fun h10 => absurd h10 (not_not_intro rfl))
              refine V_aload_n X dX12_finds_68 4 rfl ?_
              refine V_iload X dX12_finds_69 0 rfl ?_
              refine V_iload_n X dX12_finds_71 2 rfl ?_
              refine T_iast X hK hT (i3) rfl (by omega) dX12_finds_72 ?_
              show V g κ 6 (0) (0) (t, rO g ad N S F (zTt g σ0 A Bt (upd (fo3) (i3) (nI (part))) (upd (ft3) (i3) (vp_nar .boolean (nI (1)))))) 73 [(5, .int (nI (i3))), (0, .ref (ad (0))), (1, .int (nI (part))), (2, .int (set)), (3, .ref (A)), (4, .ref (Bt))] []
              refine V_iconst (v := nI 1) X dX12_finds_73 (by decide) ?_
              exact V_zret X E (by first | rfl | decide | exact zbool (by assumption)) (by omega) (by omega) ⟨⟨_, rfl, z01_1⟩, _, _, rfl, (hv3_0.set (i := i3) hp), hu9⟩ dX12_finds_74
            · rw [eo]
              show V g κ 6 (0) (0) (t, rO g ad N S F (zTt g σ0 A Bt (fo3) (upd (ft3) (i3) (vp_nar .boolean (nI (1)))))) 46 [(5, .int (nI (i3))), (0, .ref (ad (0))), (1, .int (nI (part))), (2, .int (set)), (3, .ref (A)), (4, .ref (Bt))] [.int (nI (p9))]
              refine V_iconst (v := (-1)) X dX12_finds_46 (by decide) ?_
              refine V_icmpeq X (tgt := 68) dX12_finds_47 (by decide) (fun h11 => absurd h11 (znm1 (by omega))) (fun h11 => ?_)
              refine V_aload_n X dX12_finds_50 1 rfl ?_
              refine V_aload_n X dX12_finds_51 4 rfl ?_
              refine V_iload X dX12_finds_52 0 rfl ?_
              refine T_iald X hT (i3) rfl (by omega) dX12_finds_54 ?_
              rw [eo]
              show V g κ 6 (0) (0) (t, rO g ad N S F (zTt g σ0 A Bt (fo3) (upd (ft3) (i3) (vp_nar .boolean (nI (1)))))) 55 [(5, .int (nI (i3))), (0, .ref (ad (0))), (1, .int (nI (part))), (2, .int (set)), (3, .ref (A)), (4, .ref (Bt))] [.int (nI (p9)), .ref (ad (0))]
              refine V_iload_n X dX12_finds_55 3 rfl ?_
              refine V_aload_n X dX12_finds_56 4 rfl ?_
              refine V_aload X dX12_finds_57 5 rfl ?_
              refine V_callV (rest := []) X E.room ml_X12_191 in_X12_finds (ci := 16) rfl se_X12_finds (R_recv hK (q := 0) (rlv (by omega)) rfl) (by omega) (by decide) (ihr (r - 1) (by omega) (p9) (by omega) (fo3) (upd (ft3) (i3) (vp_nar .boolean (nI (1)))) hv3_0 (by omega)) rfl rfl (Nat.le_of_ble_eq_true rfl) ⟨by omega, by omega⟩ dX12_finds_59 (fun _ _ h => False.elim h) (fun v59 σ' hp59 => ?_)
              obtain ⟨⟨r14, rfl, hr14⟩, fo12, ft13, rfl, vfo12, uft13⟩ := hp59
              have hu15 : zun ft13 ≤ zun ft := Nat.le_trans uft13 hu9
              show V g κ 6 (0) (0) (t, rO g ad N S F (zTt g σ0 A Bt (fo12) (ft13))) 62 [(5, .int (nI (i3))), (0, .ref (ad (0))), (1, .int (nI (part))), (2, .int (set)), (3, .ref (A)), (4, .ref (Bt))] [.int (r14)]
              refine V_ifne X (tgt := 68) dX12_finds_62 (by decide) (fun h16 => ?_) (fun h16 => ?_)
              · -- 62 true
                refine V_aload_n X dX12_finds_68 4 rfl ?_
                refine V_iload X dX12_finds_69 0 rfl ?_
                refine V_iload_n X dX12_finds_71 2 rfl ?_
                refine T_iast X hK hT (i3) rfl (by omega) dX12_finds_72 ?_
                show V g κ 6 (0) (0) (t, rO g ad N S F (zTt g σ0 A Bt (upd (fo12) (i3) (nI (part))) (ft13))) 73 [(5, .int (nI (i3))), (0, .ref (ad (0))), (1, .int (nI (part))), (2, .int (set)), (3, .ref (A)), (4, .ref (Bt))] []
                refine V_iconst (v := nI 1) X dX12_finds_73 (by decide) ?_
                exact V_zret X E (by first | rfl | decide | exact zbool (by assumption)) (by omega) (by omega) ⟨⟨_, rfl, z01_1⟩, _, _, rfl, (vfo12.set (i := i3) hp), hu15⟩ dX12_finds_74
              · -- 62 false
                refine V_goto (tgt := 75) X dX12_finds_65 (by decide) ?_
                refine V_iinc X (nI (i3 + 1)) [(5, .int (nI (i3 + 1))), (0, .ref (ad (0))), (1, .int (nI (part))), (2, .int (set)), (3, .ref (A)), (4, .ref (Bt))] dX12_finds_75 0 rfl (zinc _) (by decide) rfl ?_
                refine V_goto (tgt := 3) X dX12_finds_78 (by decide) ?_
                exact V.sub [0, 1, 2, 3, 4, 5] rfl (ih3 _ (by omega) (i3 + 1) (fo12) (ft13) rfl (by omega) (vfo12) (hu15))
          · -- 30 false
            refine V_goto (tgt := 75) X dX12_finds_33 (by decide) ?_
            refine V_iinc X (nI (i3 + 1)) [(5, .int (nI (i3 + 1))), (0, .ref (ad (0))), (1, .int (nI (part))), (2, .int (set)), (3, .ref (A)), (4, .ref (Bt))] dX12_finds_75 0 rfl (zinc _) (by decide) rfl ?_
            refine V_goto (tgt := 3) X dX12_finds_78 (by decide) ?_
            exact V.sub [0, 1, 2, 3, 4, 5] rfl (ih3 _ (by omega) (i3 + 1) (fo3) (ft3) rfl (by omega) (hv3_0) (hv3_1))
        · -- no
          show V g κ 6 (0) (0) (t, rO g ad N S F (zTt g σ0 A Bt (fo3) (ft3))) 22 [(5, .int (nI (i3))), (0, .ref (ad (0))), (1, .int (nI (part))), (2, .int (set)), (3, .ref (A)), (4, .ref (Bt))] [.int (nI (0))]
          refine V_ifeqN X (by omega) (tgt := 75) dX12_finds_22 (by decide) (fun h17 => ?_) (fun h17 => absurd h17 (by omega))
          refine V_iinc X (nI (i3 + 1)) [(5, .int (nI (i3 + 1))), (0, .ref (ad (0))), (1, .int (nI (part))), (2, .int (set)), (3, .ref (A)), (4, .ref (Bt))] dX12_finds_75 0 rfl (zinc _) (by decide) rfl ?_
          refine V_goto (tgt := 3) X dX12_finds_78 (by decide) ?_
          exact V.sub [0, 1, 2, 3, 4, 5] rfl (ih3 _ (by omega) (i3 + 1) (fo3) (ft3) rfl (by omega) (hv3_0) (hv3_1))
  exact L3 _ (0) (fo) (ft) rfl (by omega) (hv) ((Nat.le_refl _))
set_option maxRecDepth 100000 in
set_option maxHeartbeats 4000000 in
theorem k_X12_filled {g : zG} {t : Nat × Nat} {ad N : Nat → Nat} {S : Int64} {σ0 : Nat → Option va_E} {F : Nat → Nat → Int32} (hK : rK g ad N) (hI : rI N F)  (a1 : Int32) : Ct g 21 yX12_filled cX12_filled 5 (some FieldType.int) 8 40 [.ref (ad (0)), .int (a1)] (t, rO g ad N S F σ0) (qA pI g ad N S F σ0) zNo := by
  refine Ct.of (lv := [(0, .ref (ad (0))), (1, .int (a1))]) (by decide) (Nat.le_of_ble_eq_true rfl) rfl ?_
  intro κ X E B _
  have X : zX g κ RX12 cX12_filled 5 := X
  obtain ⟨b0, b1, b2, b3, b4⟩ := hI.bnd
  refine V_iconst (v := nI 5) X dX12_filled_0 (by decide) ?_
  refine V.fr (fun hfr => ?_)
  obtain ⟨hA, hs0, gA, hfr2⟩ := zFresh hK hfr
  refine V_newaI X E.room ay_int (m := 5) (by omega) (by omega) (by omega) dX12_filled_1 ?_
  refine V.so (σ' := ((t.1 + 1, t.2 + 5), rO g ad N S F (zA1 g σ0 t.1 (fun _ => 0)))) (congrArg (Prod.mk _) (rO_zup hK hA)) ?_
  show V g κ 5 (0 + 1) (0 + 5) ((t.1 + 1, t.2 + 5), rO g ad N S F (zA1 g σ0 t.1 (fun _ => 0))) 3 [(0, .ref (ad (0))), (1, .int (a1))] [.ref (t.1)]
  refine V_dup X dX12_filled_3 rfl ?_
  refine V_iconst (v := nI 0) X dX12_filled_4 (by decide) ?_
  refine V_iconst (v := (-1)) X dX12_filled_5 (by decide) ?_
  refine A_iast X hK hA gA (0) rfl (by omega) dX12_filled_6 ?_
  show V g κ 5 (0 + 1) (0 + 5) ((t.1 + 1, t.2 + 5), rO g ad N S F (zA1 g σ0 t.1 (upd (fun _ => 0) (0) (-1)))) 7 [(0, .ref (ad (0))), (1, .int (a1))] [.ref (t.1)]
  refine V_dup X dX12_filled_7 rfl ?_
  refine V_iconst (v := nI 1) X dX12_filled_8 (by decide) ?_
  refine V_iconst (v := (-1)) X dX12_filled_9 (by decide) ?_
  refine A_iast X hK hA gA (1) rfl (by omega) dX12_filled_10 ?_
  show V g κ 5 (0 + 1) (0 + 5) ((t.1 + 1, t.2 + 5), rO g ad N S F (zA1 g σ0 t.1 (upd (upd (fun _ => 0) (0) (-1)) (1) (-1)))) 11 [(0, .ref (ad (0))), (1, .int (a1))] [.ref (t.1)]
  refine V_dup X dX12_filled_11 rfl ?_
  refine V_iconst (v := nI 2) X dX12_filled_12 (by decide) ?_
  refine V_iconst (v := (-1)) X dX12_filled_13 (by decide) ?_
  refine A_iast X hK hA gA (2) rfl (by omega) dX12_filled_14 ?_
  show V g κ 5 (0 + 1) (0 + 5) ((t.1 + 1, t.2 + 5), rO g ad N S F (zA1 g σ0 t.1 (upd (upd (upd (fun _ => 0) (0) (-1)) (1) (-1)) (2) (-1)))) 15 [(0, .ref (ad (0))), (1, .int (a1))] [.ref (t.1)]
  refine V_dup X dX12_filled_15 rfl ?_
  refine V_iconst (v := nI 3) X dX12_filled_16 (by decide) ?_
  refine V_iconst (v := (-1)) X dX12_filled_17 (by decide) ?_
  refine A_iast X hK hA gA (3) rfl (by omega) dX12_filled_18 ?_
  show V g κ 5 (0 + 1) (0 + 5) ((t.1 + 1, t.2 + 5), rO g ad N S F (zA1 g σ0 t.1 (upd (upd (upd (upd (fun _ => 0) (0) (-1)) (1) (-1)) (2) (-1)) (3) (-1)))) 19 [(0, .ref (ad (0))), (1, .int (a1))] [.ref (t.1)]
  refine V_dup X dX12_filled_19 rfl ?_
  refine V_iconst (v := nI 4) X dX12_filled_20 (by decide) ?_
  refine V_iconst (v := (-1)) X dX12_filled_21 (by decide) ?_
  refine A_iast X hK hA gA (4) rfl (by omega) dX12_filled_22 ?_
  show V g κ 5 (0 + 1) (0 + 5) ((t.1 + 1, t.2 + 5), rO g ad N S F (zA1 g σ0 t.1 (upd (upd (upd (upd (upd (fun _ => 0) (0) (-1)) (1) (-1)) (2) (-1)) (3) (-1)) (4) (-1)))) 23 [(0, .ref (ad (0))), (1, .int (a1))] [.ref (t.1)]
  refine V_astore_n X [(2, .ref (t.1)), (0, .ref (ad (0))), (1, .int (a1))] dX12_filled_23 (by decide) rfl ?_
  refine V_iconst (v := nI 0) X dX12_filled_24 (by decide) ?_
  refine V_istore_n X [(3, .int (nI (0))), (2, .ref (t.1)), (0, .ref (ad (0))), (1, .int (a1))] dX12_filled_25 (by decide) rfl ?_
  refine V_iconst (v := nI 0) X dX12_filled_26 (by decide) ?_
  refine V_istore X [(4, .int (nI (0))), (3, .int (nI (0))), (2, .ref (t.1)), (0, .ref (ad (0))), (1, .int (a1))] dX12_filled_27 (by decide) rfl ?_
  have L29 : ∀ (n29 : Nat) (i29 : Nat) (x29_3 : Int32) (t29 : Nat × Nat) (fo29 : Nat → Int32), n29 = N 0 - i29 → i29 ≤ N 0 → (zVal N fo29) → V g κ 5 (0 + 1 + 1 * i29) (0 + 5 + 5 * i29) (t29, rO g ad N S F (zA1 g σ0 t.1 (fo29))) 29 [(4, .int (nI (i29))), (3, .int (x29_3)), (2, .ref (t.1)), (0, .ref (ad (0))), (1, .int (a1))] [] := by
    intro n29
    induction n29 using Nat.strongRecOn with
    | ind n29 ih29 =>
      intro i29 x29_3 t29 fo29 hn29 hi29 hv29_0
      refine V_iload X dX12_filled_29 0 rfl ?_
      refine V_aload_n X dX12_filled_31 3 rfl ?_
      refine R_getf X fl_X12_10 hK (0) (rlv (by omega)) rfl rfl dX12_filled_32 ?_
      refine V_callV (rest := [.int (nI (i29))]) X E.room ml_X12_42 in_Jx4a65c_size_8abf5 (ci := 3) rfl se_Jx4a65c_size_8abf5 (rO_list hK (i := 0) (by decide)) (by omega) (by decide) (r_size hK 0 (by decide)) rfl rfl (Nat.le_of_ble_eq_true rfl) ⟨by omega, by omega⟩ dX12_filled_35 (fun _ _ h => False.elim h) (fun v1 σ' hp2 => ?_)
      obtain ⟨hp2, rfl⟩ := hp2
      cases (hp2 : _ = some (Value.int (nI (N 0))))
      show V g κ 5 (0 + 1 + 1 * i29) (0 + 5 + 5 * i29) (t29, rO g ad N S F (zA1 g σ0 t.1 (fo29))) 38 [(4, .int (nI (i29))), (3, .int (x29_3)), (2, .ref (t.1)), (0, .ref (ad (0))), (1, .int (a1))] [.int (nI (N 0)), .int (nI (i29))]
      refine V_icmpgeN X (by omega) (by omega) (tgt := 78) dX12_filled_38 (by decide) (fun h3 => ?_) (fun h3 => ?_)
      · -- 38 true
        refine V_iload_n X dX12_filled_78 1 rfl ?_
        refine V.weak (f' := rO g ad N S F σ0) (rO_sub (zup_sub hs0)) ?_
        exact V_iret X E (by omega) (by omega) ⟨⟨_, rfl⟩, ⟨_, rfl⟩⟩ dX12_filled_79
      · -- 38 false
        refine V_iload_n X dX12_filled_41 4 rfl ?_
        refine V_iload X dX12_filled_42 0 rfl ?_
        refine V_callS (rest := []) X E.room ml_X12_159 st_X12_isIn (by omega) (by decide) (k_X12_isIn (σ := (t29, rO g ad N S F (zA1 g σ0 t.1 (fo29)))) (a1) (nI (i29))) rfl rfl (Nat.le_of_ble_eq_true rfl) ⟨by omega, by omega⟩ dX12_filled_44 (fun _ _ h => False.elim h) (fun v44 σ' hp44 => ?_)
        obtain ⟨hp44, rfl⟩ := hp44
        rcases hp44 with ⟨rfl, z4⟩ | ⟨rfl, z4⟩
        · -- yes
          show V g κ 5 (0 + 1 + 1 * i29) (0 + 5 + 5 * i29) (t29, rO g ad N S F (zA1 g σ0 t.1 (fo29))) 47 [(4, .int (nI (i29))), (3, .int (x29_3)), (2, .ref (t.1)), (0, .ref (ad (0))), (1, .int (a1))] [.int (nI (1))]
          refine V_ifeqN X (by omega) (tgt := 72) dX12_filled_47 (by decide) (fun h5 => absurd h5 (by omega)) (fun h5 => ?_)
          refine V_iload_n X dX12_filled_50 1 rfl ?_
          refine V_aload_n X dX12_filled_51 3 rfl ?_
          refine V_iload X dX12_filled_52 0 rfl ?_
          refine V_iload_n X dX12_filled_54 4 rfl ?_
          refine V_aload_n X dX12_filled_55 2 rfl ?_
          refine V_iconst (v := nI 5) X dX12_filled_56 (by decide) ?_
          refine V.fr (fun hfrB => ?_)
          obtain ⟨hB, hsB, gB, hfrC⟩ := zFresh hK hfrB
          have hAB : t.1 ≠ t29.1 := Nat.ne_of_lt (hfrC t.1 _ zup_eq hA)
          refine V_newaZ X E.room ay_boolean (m := 5) (by omega) (by omega) (by omega) dX12_filled_57 ?_
          refine V.so (σ' := ((t29.1 + 1, t29.2 + 5), rO g ad N S F (zTt g σ0 t.1 t29.1 (fo29) (fun _ => 0)))) (congrArg (Prod.mk _) (rO_zup hK hB)) ?_
          show V g κ 5 (0 + 1 + 1 * i29 + 1) (0 + 5 + 5 * i29 + 5) ((t29.1 + 1, t29.2 + 5), rO g ad N S F (zTt g σ0 t.1 t29.1 (fo29) (fun _ => 0))) 59 [(4, .int (nI (i29))), (3, .int (x29_3)), (2, .ref (t.1)), (0, .ref (ad (0))), (1, .int (a1))] [.ref (t29.1), .ref (t.1), .int (a1), .int (nI (i29)), .ref (ad (0)), .int (x29_3)]
          refine V_callV (rest := [.int (x29_3)]) X E.room ml_X12_191 in_X12_finds (ci := 16) rfl se_X12_finds (R_recv hK (q := 0) (rlv (by omega)) rfl) (by omega) (by decide) (k_X12_finds hK hI (A := t.1) (Bt := t29.1) ⟨hA, hB, hAB, gA, gB⟩ (a1) 5 (i29) (by omega) (fo29) (fun _ => 0) hv29_0 (zun_5 _)) rfl rfl (Nat.le_of_ble_eq_true rfl) ⟨by omega, by omega⟩ dX12_filled_59 (fun _ _ h => False.elim h) (fun v59 σ' hp59 => ?_)
          obtain ⟨⟨r8, rfl, hr8⟩, fo6, ft7, rfl, vfo6, -⟩ := hp59
          refine V.weak (f' := rO g ad N S F (zA1 g σ0 t.1 fo6)) (rO_sub (zup_sub (fun e he => hsB e ((zup_ne hAB.symm).trans ((zup_ne hAB.symm).symm.trans he))))) ?_
          show V g κ 5 (0 + 1 + 1 * i29 + 1) (0 + 5 + 5 * i29 + 5) ((t29.1 + 1, t29.2 + 5), rO g ad N S F (zA1 g σ0 t.1 (fo6))) 62 [(4, .int (nI (i29))), (3, .int (x29_3)), (2, .ref (t.1)), (0, .ref (ad (0))), (1, .int (a1))] [.int (r8), .int (x29_3)]
          refine V_ifeq X (tgt := 69) dX12_filled_62 (by decide) (fun h9 => ?_) (fun h9 => ?_)
          · -- 62 true
            refine V_iconst (v := nI 0) X dX12_filled_69 (by decide) ?_
            refine V_iadd X dX12_filled_70 (V.topi (fun w10 ew10 => ?_))
            refine V_istore_n X [(3, .int (w10)), (4, .int (nI (i29))), (2, .ref (t.1)), (0, .ref (ad (0))), (1, .int (a1))] dX12_filled_71 (by decide) rfl ?_
            refine V_iinc X (nI (i29 + 1)) [(4, .int (nI (i29 + 1))), (3, .int (w10)), (2, .ref (t.1)), (0, .ref (ad (0))), (1, .int (a1))] dX12_filled_72 1 rfl (zinc _) (by decide) rfl ?_
            refine V_goto (tgt := 29) X dX12_filled_75 (by decide) ?_
            exact V.sub [0, 1, 2, 3, 4] rfl (V.widen (by omega) (by omega) (ih29 _ (by omega) (i29 + 1) (w10) ((t29.1 + 1, t29.2 + 5)) (fo6) rfl (by omega) (vfo6)))
          · -- 62 false
            refine V_iconst (v := nI 1) X dX12_filled_65 (by decide) ?_
            refine V_goto (tgt := 70) X dX12_filled_66 (by decide) ?_
            refine V_iadd X dX12_filled_70 (V.topi (fun w11 ew11 => ?_))
            refine V_istore_n X [(3, .int (w11)), (4, .int (nI (i29))), (2, .ref (t.1)), (0, .ref (ad (0))), (1, .int (a1))] dX12_filled_71 (by decide) rfl ?_
            refine V_iinc X (nI (i29 + 1)) [(4, .int (nI (i29 + 1))), (3, .int (w11)), (2, .ref (t.1)), (0, .ref (ad (0))), (1, .int (a1))] dX12_filled_72 1 rfl (zinc _) (by decide) rfl ?_
            refine V_goto (tgt := 29) X dX12_filled_75 (by decide) ?_
            exact V.sub [0, 1, 2, 3, 4] rfl (V.widen (by omega) (by omega) (ih29 _ (by omega) (i29 + 1) (w11) ((t29.1 + 1, t29.2 + 5)) (fo6) rfl (by omega) (vfo6)))
        · -- no
          show V g κ 5 (0 + 1 + 1 * i29) (0 + 5 + 5 * i29) (t29, rO g ad N S F (zA1 g σ0 t.1 (fo29))) 47 [(4, .int (nI (i29))), (3, .int (x29_3)), (2, .ref (t.1)), (0, .ref (ad (0))), (1, .int (a1))] [.int (nI (0))]
          refine V_ifeqN X (by omega) (tgt := 72) dX12_filled_47 (by decide) (fun h12 => ?_) (fun h12 => absurd h12 (by omega))
          refine V_iinc X (nI (i29 + 1)) [(4, .int (nI (i29 + 1))), (3, .int (x29_3)), (2, .ref (t.1)), (0, .ref (ad (0))), (1, .int (a1))] dX12_filled_72 0 rfl (zinc _) (by decide) rfl ?_
          refine V_goto (tgt := 29) X dX12_filled_75 (by decide) ?_
          exact V.sub [0, 1, 2, 3, 4] rfl (V.widen (by omega) (by omega) (ih29 _ (by omega) (i29 + 1) (x29_3) (t29) (fo29) rfl (by omega) (hv29_0)))
  exact L29 _ (0) (nI (0)) ((t.1 + 1, t.2 + 5)) (upd (upd (upd (upd (upd (fun _ => 0) (0) (-1)) (1) (-1)) (2) (-1)) (3) (-1)) (4) (-1)) rfl (by omega) (fun q hq => Or.inl (by rcases (show q = 0 ∨ q = 1 ∨ q = 2 ∨ q = 3 ∨ q = 4 by omega) with rfl | rfl | rfl | rfl | rfl <;> rfl))
set_option maxRecDepth 100000 in
set_option maxHeartbeats 4000000 in
theorem k_X12_well {g : zG} {t : Nat × Nat} {ad N : Nat → Nat} {S : Int64} {σ0 : Nat → Option va_E} {F : Nat → Nat → Int32} (hK : rK g ad N) (hI : rI N F)  : Ct g 12 yX12_well cX12_well 4 (some FieldType.int) 1 4 [.ref (ad (0))] (t, rO g ad N S F σ0) (qA (fun v => v = some (.int (nI (zwl F (N 1))))) g ad N S F σ0) zNo := by
  refine Ct.of (lv := [(0, .ref (ad (0)))]) (by decide) (Nat.le_of_ble_eq_true rfl) rfl ?_
  intro κ X E B _
  have X : zX g κ RX12 cX12_well 4 := X
  obtain ⟨b0, b1, b2, b3, b4⟩ := hI.bnd
  refine V_iconst (v := nI 0) X dX12_well_0 (by decide) ?_
  refine V_istore_n X [(1, .int (nI (0))), (0, .ref (ad (0)))] dX12_well_1 (by decide) rfl ?_
  refine V_aload_n X dX12_well_2 1 rfl ?_
  refine R_getf X fl_X12_16 hK (0) (rlv (by omega)) rfl rfl dX12_well_3 ?_
  refine V.fr (fun hfra1 => ?_)
  obtain ⟨hAa1, hsa1, gAa1, hfa1⟩ := zFresh hK hfra1
  refine V_callV (rest := []) X E.room ml_X12_101 in_Jx4a65c_iterator_32c93 (ci := 3) rfl se_Jx4a65c_iterator_32c93 (rO_list hK (i := 1) (by decide)) (by omega) (by decide) (r_iter hK 1 (by decide) gAa1 hAa1) rfl rfl (Nat.le_of_ble_eq_true rfl) ⟨by omega, by omega⟩ dX12_well_6 (fun _ _ h => False.elim h) (fun v6 σ' hp6 => ?_)
  obtain ⟨hp6, rfl⟩ := hp6
  cases (hp6 : _ = some (Value.ref t.1))
  show V g κ 4 (0 + 1) (0 + 4) ((t.1 + 1, t.2 + 4), rO g ad N S F (zIt σ0 t.1 (0) (-1) (F 2 0) (ad 2))) 9 [(1, .int (nI (0))), (0, .ref (ad (0)))] [.ref (t.1)]
  refine V_astore_n X [(2, .ref (t.1)), (1, .int (nI (0))), (0, .ref (ad (0)))] dX12_well_9 (by decide) rfl ?_
  have L10 : ∀ (n10 : Nat) (i10 : Nat) (y10_1 : Nat) (lr10 : Int32), n10 = N 1 - i10 → i10 ≤ N 1 → y10_1 = zwl F i10 → V g κ 4 (0 + 1) (0 + 4) ((t.1 + 1, t.2 + 4), rO g ad N S F (zIt σ0 t.1 (i10) (lr10) (F 2 0) (ad 2))) 10 [(2, .ref (t.1)), (1, .int (nI (y10_1))), (0, .ref (ad (0)))] [] := by
    intro n10
    induction n10 using Nat.strongRecOn with
    | ind n10 ih10 =>
      intro i10 y10_1 lr10 hn10 hi10 hy10_1
      refine V_aload_n X dX12_well_10 0 rfl ?_
      refine V_callF (rest := []) X E.room mf_X12_105 (zFwH X) rfl (C_it hAa1) (by omega) (by decide) (r_hasNext hK 1 (by decide) (lr := lr10) hAa1 (by omega) (by omega)) rfl rfl (Nat.le_of_ble_eq_true rfl) ⟨by omega, by omega⟩ dX12_well_11 (fun _ _ h => False.elim h) (fun v2 σ' hp3 => ?_)
      obtain ⟨hp3, rfl⟩ := hp3
      rcases hp3 with ⟨rfl, z4⟩ | ⟨rfl, z4⟩
      · -- more
        show V g κ 4 (0 + 1) (0 + 4) ((t.1 + 1, t.2 + 4), rO g ad N S F (zIt σ0 t.1 (i10) (lr10) (F 2 0) (ad 2))) 16 [(2, .ref (t.1)), (1, .int (nI (y10_1))), (0, .ref (ad (0)))] [.int (nI (1))]
        refine V_ifeqN X (by omega) (tgt := 47) dX12_well_16 (by decide) (fun h5 => absurd h5 (by omega)) (fun h5 => ?_)
        refine V_aload_n X dX12_well_19 0 rfl ?_
        refine V_callF (rest := []) X E.room mf_X12_111 (zFwN X) rfl (C_it hAa1) (by omega) (by decide) (r_next hK 1 (by decide) (lr := lr10) hAa1 gAa1 (by omega) (by omega)) rfl rfl (Nat.le_of_ble_eq_true rfl) ⟨by omega, by omega⟩ dX12_well_20 (fun _ _ h => False.elim h) (fun v6 σ' hp7 => ?_)
        obtain ⟨hp7, rfl⟩ := hp7
        cases (hp7 : _ = some (Value.ref (ad (21 + (i10)))))
        show V g κ 4 (0 + 1) (0 + 4) ((t.1 + 1, t.2 + 4), rO g ad N S F (zIt σ0 t.1 (i10 + 1) (nI (i10)) (F 2 0) (ad 2))) 25 [(2, .ref (t.1)), (1, .int (nI (y10_1))), (0, .ref (ad (0)))] [.ref (ad (21 + (i10)))]
        refine V_cast X (C := RX9) rfl cl_X12_74 (R_recv hK (q := 21 + (i10)) (rlv (by omega)) (rCell_player (by omega))) dX12_well_25 ?_
        refine V_astore_n X [(3, .ref (ad (21 + (i10)))), (2, .ref (t.1)), (1, .int (nI (y10_1))), (0, .ref (ad (0)))] dX12_well_28 (by decide) rfl ?_
        refine V_iload_n X dX12_well_29 2 rfl ?_
        refine V_aload_n X dX12_well_30 0 rfl ?_
        refine R_getf X fl_X12_115 hK (21 + (i10)) (rlv (by omega)) (rCell_player (by omega)) rfl dX12_well_31 (V.topi (fun x8 ex8 => ?_))
        refine V_ifeq X (tgt := 41) dX12_well_34 (by decide) (fun h9 => ?_) (fun h9 => ?_)
        · -- 34 true
          have hw10 : F (21 + (i10)) 3 = 0 := by rw [← ex8]; exact h9
          refine V_iconst (v := nI 1) X dX12_well_41 (by decide) ?_
          refine V_iaddN X dX12_well_42 ?_
          refine V_istore_n X [(1, .int (nI (y10_1 + 1))), (3, .ref (ad (21 + (i10)))), (2, .ref (t.1)), (0, .ref (ad (0)))] dX12_well_43 (by decide) rfl ?_
          refine V_goto (tgt := 10) X dX12_well_44 (by decide) ?_
          exact V.sub [2, 0, 3] rfl (ih10 _ (by omega) (i10 + 1) (y10_1 + 1) (nI (i10)) rfl (by omega) (zwl_1 hy10_1 hw10))
        · -- 34 false
          have hw11 : ¬ F (21 + (i10)) 3 = 0 := by rw [← ex8]; exact h9
          refine V_iconst (v := nI 0) X dX12_well_37 (by decide) ?_
          refine V_goto (tgt := 42) X dX12_well_38 (by decide) ?_
          refine V_iaddN X dX12_well_42 ?_
          refine V_istore_n X [(1, .int (nI (y10_1 + 0))), (3, .ref (ad (21 + (i10)))), (2, .ref (t.1)), (0, .ref (ad (0)))] dX12_well_43 (by decide) rfl ?_
          refine V_goto (tgt := 10) X dX12_well_44 (by decide) ?_
          exact V.sub [2, 0, 3] rfl (ih10 _ (by omega) (i10 + 1) (y10_1 + 0) (nI (i10)) rfl (by omega) (zwl_0 hy10_1 hw11))
      · -- no more
        show V g κ 4 (0 + 1) (0 + 4) ((t.1 + 1, t.2 + 4), rO g ad N S F (zIt σ0 t.1 (i10) (lr10) (F 2 0) (ad 2))) 16 [(2, .ref (t.1)), (1, .int (nI (y10_1))), (0, .ref (ad (0)))] [.int (nI (0))]
        refine V_ifeqN X (by omega) (tgt := 47) dX12_well_16 (by decide) (fun h12 => ?_) (fun h12 => absurd h12 (by omega))
        refine V_iload_n X dX12_well_47 1 rfl ?_
        refine V.weak (f' := rO g ad N S F σ0) (rO_sub (zup_sub hsa1)) ?_
        exact V_iret X E (by omega) (by omega) ⟨by rw [hy10_1, show i10 = N 1 by omega], ⟨_, rfl⟩⟩ dX12_well_48
  exact L10 _ (0) (0) (-1) rfl (by omega) (rfl)
set_option maxRecDepth 100000 in
set_option maxHeartbeats 4000000 in
theorem k_X12_purses {g : zG} {t : Nat × Nat} {ad N : Nat → Nat} {S : Int64} {σ0 : Nat → Option va_E} {F : Nat → Nat → Int32} (hK : rK g ad N) (hI : rI N F)  : Ct g 12 yX12_purses cX12_purses 4 (some FieldType.int) 1 4 [.ref (ad (0))] (t, rO g ad N S F σ0) (qA pI g ad N S F σ0) zNo := by
  refine Ct.of (lv := [(0, .ref (ad (0)))]) (by decide) (Nat.le_of_ble_eq_true rfl) rfl ?_
  intro κ X E B _
  have X : zX g κ RX12 cX12_purses 4 := X
  obtain ⟨b0, b1, b2, b3, b4⟩ := hI.bnd
  refine V_iconst (v := nI 0) X dX12_purses_0 (by decide) ?_
  refine V_istore_n X [(1, .int (nI (0))), (0, .ref (ad (0)))] dX12_purses_1 (by decide) rfl ?_
  refine V_aload_n X dX12_purses_2 1 rfl ?_
  refine R_getf X fl_X12_16 hK (0) (rlv (by omega)) rfl rfl dX12_purses_3 ?_
  refine V.fr (fun hfra1 => ?_)
  obtain ⟨hAa1, hsa1, gAa1, hfa1⟩ := zFresh hK hfra1
  refine V_callV (rest := []) X E.room ml_X12_101 in_Jx4a65c_iterator_32c93 (ci := 3) rfl se_Jx4a65c_iterator_32c93 (rO_list hK (i := 1) (by decide)) (by omega) (by decide) (r_iter hK 1 (by decide) gAa1 hAa1) rfl rfl (Nat.le_of_ble_eq_true rfl) ⟨by omega, by omega⟩ dX12_purses_6 (fun _ _ h => False.elim h) (fun v6 σ' hp6 => ?_)
  obtain ⟨hp6, rfl⟩ := hp6
  cases (hp6 : _ = some (Value.ref t.1))
  show V g κ 4 (0 + 1) (0 + 4) ((t.1 + 1, t.2 + 4), rO g ad N S F (zIt σ0 t.1 (0) (-1) (F 2 0) (ad 2))) 9 [(1, .int (nI (0))), (0, .ref (ad (0)))] [.ref (t.1)]
  refine V_astore_n X [(2, .ref (t.1)), (1, .int (nI (0))), (0, .ref (ad (0)))] dX12_purses_9 (by decide) rfl ?_
  have L10 : ∀ (n10 : Nat) (i10 : Nat) (x10_1 : Int32) (lr10 : Int32), n10 = N 1 - i10 → i10 ≤ N 1 → V g κ 4 (0 + 1) (0 + 4) ((t.1 + 1, t.2 + 4), rO g ad N S F (zIt σ0 t.1 (i10) (lr10) (F 2 0) (ad 2))) 10 [(2, .ref (t.1)), (1, .int (x10_1)), (0, .ref (ad (0)))] [] := by
    intro n10
    induction n10 using Nat.strongRecOn with
    | ind n10 ih10 =>
      intro i10 x10_1 lr10 hn10 hi10
      refine V_aload_n X dX12_purses_10 0 rfl ?_
      refine V_callF (rest := []) X E.room mf_X12_105 (zFwH X) rfl (C_it hAa1) (by omega) (by decide) (r_hasNext hK 1 (by decide) (lr := lr10) hAa1 (by omega) (by omega)) rfl rfl (Nat.le_of_ble_eq_true rfl) ⟨by omega, by omega⟩ dX12_purses_11 (fun _ _ h => False.elim h) (fun v2 σ' hp3 => ?_)
      obtain ⟨hp3, rfl⟩ := hp3
      rcases hp3 with ⟨rfl, z4⟩ | ⟨rfl, z4⟩
      · -- more
        show V g κ 4 (0 + 1) (0 + 4) ((t.1 + 1, t.2 + 4), rO g ad N S F (zIt σ0 t.1 (i10) (lr10) (F 2 0) (ad 2))) 16 [(2, .ref (t.1)), (1, .int (x10_1)), (0, .ref (ad (0)))] [.int (nI (1))]
        refine V_ifeqN X (by omega) (tgt := 39) dX12_purses_16 (by decide) (fun h5 => absurd h5 (by omega)) (fun h5 => ?_)
        refine V_aload_n X dX12_purses_19 0 rfl ?_
        refine V_callF (rest := []) X E.room mf_X12_111 (zFwN X) rfl (C_it hAa1) (by omega) (by decide) (r_next hK 1 (by decide) (lr := lr10) hAa1 gAa1 (by omega) (by omega)) rfl rfl (Nat.le_of_ble_eq_true rfl) ⟨by omega, by omega⟩ dX12_purses_20 (fun _ _ h => False.elim h) (fun v6 σ' hp7 => ?_)
        obtain ⟨hp7, rfl⟩ := hp7
        cases (hp7 : _ = some (Value.ref (ad (21 + (i10)))))
        show V g κ 4 (0 + 1) (0 + 4) ((t.1 + 1, t.2 + 4), rO g ad N S F (zIt σ0 t.1 (i10 + 1) (nI (i10)) (F 2 0) (ad 2))) 25 [(2, .ref (t.1)), (1, .int (x10_1)), (0, .ref (ad (0)))] [.ref (ad (21 + (i10)))]
        refine V_cast X (C := RX9) rfl cl_X12_74 (R_recv hK (q := 21 + (i10)) (rlv (by omega)) (rCell_player (by omega))) dX12_purses_25 ?_
        refine V_astore_n X [(3, .ref (ad (21 + (i10)))), (2, .ref (t.1)), (1, .int (x10_1)), (0, .ref (ad (0)))] dX12_purses_28 (by decide) rfl ?_
        refine V_iload_n X dX12_purses_29 2 rfl ?_
        refine V_aload_n X dX12_purses_30 0 rfl ?_
        refine R_getf X fl_X12_141 hK (21 + (i10)) (rlv (by omega)) (rCell_player (by omega)) rfl dX12_purses_31 (V.topi (fun x8 ex8 => ?_))
        refine V_iadd X dX12_purses_34 (V.topi (fun w9 ew9 => ?_))
        refine V_istore_n X [(1, .int (w9)), (3, .ref (ad (21 + (i10)))), (2, .ref (t.1)), (0, .ref (ad (0)))] dX12_purses_35 (by decide) rfl ?_
        refine V_goto (tgt := 10) X dX12_purses_36 (by decide) ?_
        exact V.sub [2, 0, 3] rfl (ih10 _ (by omega) (i10 + 1) (w9) (nI (i10)) rfl (by omega))
      · -- no more
        show V g κ 4 (0 + 1) (0 + 4) ((t.1 + 1, t.2 + 4), rO g ad N S F (zIt σ0 t.1 (i10) (lr10) (F 2 0) (ad 2))) 16 [(2, .ref (t.1)), (1, .int (x10_1)), (0, .ref (ad (0)))] [.int (nI (0))]
        refine V_ifeqN X (by omega) (tgt := 39) dX12_purses_16 (by decide) (fun h10 => ?_) (fun h10 => absurd h10 (by omega))
        refine V_iload_n X dX12_purses_39 1 rfl ?_
        refine V.weak (f' := rO g ad N S F σ0) (rO_sub (zup_sub hsa1)) ?_
        exact V_iret X E (by omega) (by omega) ⟨⟨_, rfl⟩, ⟨_, rfl⟩⟩ dX12_purses_40
  exact L10 _ (0) (nI (0)) (-1) rfl (by omega)
set_option maxRecDepth 100000 in
set_option maxHeartbeats 4000000 in
theorem k_X12_pawned {g : zG} {t : Nat × Nat} {ad N : Nat → Nat} {S : Int64} {σ0 : Nat → Option va_E} {F : Nat → Nat → Int32} (hK : rK g ad N) (hI : rI N F)  : Ct g 12 yX12_pawned cX12_pawned 4 (some FieldType.int) 1 4 [.ref (ad (0))] (t, rO g ad N S F σ0) (qA pI g ad N S F σ0) zNo := by
  refine Ct.of (lv := [(0, .ref (ad (0)))]) (by decide) (Nat.le_of_ble_eq_true rfl) rfl ?_
  intro κ X E B _
  have X : zX g κ RX12 cX12_pawned 4 := X
  obtain ⟨b0, b1, b2, b3, b4⟩ := hI.bnd
  refine V_iconst (v := nI 0) X dX12_pawned_0 (by decide) ?_
  refine V_istore_n X [(1, .int (nI (0))), (0, .ref (ad (0)))] dX12_pawned_1 (by decide) rfl ?_
  refine V_aload_n X dX12_pawned_2 1 rfl ?_
  refine R_getf X fl_X12_22 hK (0) (rlv (by omega)) rfl rfl dX12_pawned_3 ?_
  refine V.fr (fun hfra1 => ?_)
  obtain ⟨hAa1, hsa1, gAa1, hfa1⟩ := zFresh hK hfra1
  refine V_callV (rest := []) X E.room ml_X12_101 in_Jx4a65c_iterator_32c93 (ci := 3) rfl se_Jx4a65c_iterator_32c93 (rO_list hK (i := 3) (by decide)) (by omega) (by decide) (r_iter hK 3 (by decide) gAa1 hAa1) rfl rfl (Nat.le_of_ble_eq_true rfl) ⟨by omega, by omega⟩ dX12_pawned_6 (fun _ _ h => False.elim h) (fun v6 σ' hp6 => ?_)
  obtain ⟨hp6, rfl⟩ := hp6
  cases (hp6 : _ = some (Value.ref t.1))
  show V g κ 4 (0 + 1) (0 + 4) ((t.1 + 1, t.2 + 4), rO g ad N S F (zIt σ0 t.1 (0) (-1) (F 4 0) (ad 4))) 9 [(1, .int (nI (0))), (0, .ref (ad (0)))] [.ref (t.1)]
  refine V_astore_n X [(2, .ref (t.1)), (1, .int (nI (0))), (0, .ref (ad (0)))] dX12_pawned_9 (by decide) rfl ?_
  have L10 : ∀ (n10 : Nat) (i10 : Nat) (x10_1 : Int32) (lr10 : Int32), n10 = N 3 - i10 → i10 ≤ N 3 → V g κ 4 (0 + 1) (0 + 4) ((t.1 + 1, t.2 + 4), rO g ad N S F (zIt σ0 t.1 (i10) (lr10) (F 4 0) (ad 4))) 10 [(2, .ref (t.1)), (1, .int (x10_1)), (0, .ref (ad (0)))] [] := by
    intro n10
    induction n10 using Nat.strongRecOn with
    | ind n10 ih10 =>
      intro i10 x10_1 lr10 hn10 hi10
      refine V_aload_n X dX12_pawned_10 0 rfl ?_
      refine V_callF (rest := []) X E.room mf_X12_105 (zFwH X) rfl (C_it hAa1) (by omega) (by decide) (r_hasNext hK 3 (by decide) (lr := lr10) hAa1 (by omega) (by omega)) rfl rfl (Nat.le_of_ble_eq_true rfl) ⟨by omega, by omega⟩ dX12_pawned_11 (fun _ _ h => False.elim h) (fun v2 σ' hp3 => ?_)
      obtain ⟨hp3, rfl⟩ := hp3
      rcases hp3 with ⟨rfl, z4⟩ | ⟨rfl, z4⟩
      · -- more
        show V g κ 4 (0 + 1) (0 + 4) ((t.1 + 1, t.2 + 4), rO g ad N S F (zIt σ0 t.1 (i10) (lr10) (F 4 0) (ad 4))) 16 [(2, .ref (t.1)), (1, .int (x10_1)), (0, .ref (ad (0)))] [.int (nI (1))]
        refine V_ifeqN X (by omega) (tgt := 47) dX12_pawned_16 (by decide) (fun h5 => absurd h5 (by omega)) (fun h5 => ?_)
        refine V_aload_n X dX12_pawned_19 0 rfl ?_
        refine V_callF (rest := []) X E.room mf_X12_111 (zFwN X) rfl (C_it hAa1) (by omega) (by decide) (r_next hK 3 (by decide) (lr := lr10) hAa1 gAa1 (by omega) (by omega)) rfl rfl (Nat.le_of_ble_eq_true rfl) ⟨by omega, by omega⟩ dX12_pawned_20 (fun _ _ h => False.elim h) (fun v6 σ' hp7 => ?_)
        obtain ⟨hp7, rfl⟩ := hp7
        cases (hp7 : _ = some (Value.ref (ad (32 + (i10)))))
        show V g κ 4 (0 + 1) (0 + 4) ((t.1 + 1, t.2 + 4), rO g ad N S F (zIt σ0 t.1 (i10 + 1) (nI (i10)) (F 4 0) (ad 4))) 25 [(2, .ref (t.1)), (1, .int (x10_1)), (0, .ref (ad (0)))] [.ref (ad (32 + (i10)))]
        refine V_cast X (C := RX7) rfl cl_X12_124 (R_recv hK (q := 32 + (i10)) (rlv (by omega)) (rCell_coat (by omega))) dX12_pawned_25 ?_
        refine V_astore_n X [(3, .ref (ad (32 + (i10)))), (2, .ref (t.1)), (1, .int (x10_1)), (0, .ref (ad (0)))] dX12_pawned_28 (by decide) rfl ?_
        refine V_iload_n X dX12_pawned_29 2 rfl ?_
        refine V_aload_n X dX12_pawned_30 0 rfl ?_
        refine R_getf X fl_X12_135 hK (32 + (i10)) (rlv (by omega)) (rCell_coat (by omega)) rfl dX12_pawned_31 (V.topi (fun x8 ex8 => ?_))
        refine V_ifeq X (tgt := 41) dX12_pawned_34 (by decide) (fun h9 => ?_) (fun h9 => ?_)
        · -- 34 true
          refine V_iconst (v := nI 0) X dX12_pawned_41 (by decide) ?_
          refine V_iadd X dX12_pawned_42 (V.topi (fun w10 ew10 => ?_))
          refine V_istore_n X [(1, .int (w10)), (3, .ref (ad (32 + (i10)))), (2, .ref (t.1)), (0, .ref (ad (0)))] dX12_pawned_43 (by decide) rfl ?_
          refine V_goto (tgt := 10) X dX12_pawned_44 (by decide) ?_
          exact V.sub [2, 0, 3] rfl (ih10 _ (by omega) (i10 + 1) (w10) (nI (i10)) rfl (by omega))
        · -- 34 false
          refine V_iconst (v := nI 1) X dX12_pawned_37 (by decide) ?_
          refine V_goto (tgt := 42) X dX12_pawned_38 (by decide) ?_
          refine V_iadd X dX12_pawned_42 (V.topi (fun w11 ew11 => ?_))
          refine V_istore_n X [(1, .int (w11)), (3, .ref (ad (32 + (i10)))), (2, .ref (t.1)), (0, .ref (ad (0)))] dX12_pawned_43 (by decide) rfl ?_
          refine V_goto (tgt := 10) X dX12_pawned_44 (by decide) ?_
          exact V.sub [2, 0, 3] rfl (ih10 _ (by omega) (i10 + 1) (w11) (nI (i10)) rfl (by omega))
      · -- no more
        show V g κ 4 (0 + 1) (0 + 4) ((t.1 + 1, t.2 + 4), rO g ad N S F (zIt σ0 t.1 (i10) (lr10) (F 4 0) (ad 4))) 16 [(2, .ref (t.1)), (1, .int (x10_1)), (0, .ref (ad (0)))] [.int (nI (0))]
        refine V_ifeqN X (by omega) (tgt := 47) dX12_pawned_16 (by decide) (fun h12 => ?_) (fun h12 => absurd h12 (by omega))
        refine V_iload_n X dX12_pawned_47 1 rfl ?_
        refine V.weak (f' := rO g ad N S F σ0) (rO_sub (zup_sub hsa1)) ?_
        exact V_iret X E (by omega) (by omega) ⟨⟨_, rfl⟩, ⟨_, rfl⟩⟩ dX12_pawned_48
  exact L10 _ (0) (nI (0)) (-1) rfl (by omega)
