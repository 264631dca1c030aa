set_option maxRecDepth 100000 in
set_option maxHeartbeats 4000000 in
theorem k_X12_fills {g : zG} {t : Nat × Nat} {ad N : Nat → Nat} {S : Int64} {σ0 : Nat → Option va_E} (hK : rK g ad N) : ∀ (r : Nat) {F : Nat → Nat → Int32} (hI : rI N F) (part : Nat) (hr : part + r = N 0) (due used most : Int32), Ct g (15 + r) yX12_fills cX12_fills 8 (some .boolean) 0 0 [.ref (ad (0)), .int (nI part), .int due, .int used, .int most] (t, rO g ad N S F σ0) (qFill g t ad N S σ0 F r part due used most) zNo := by
  intro r
  induction r using Nat.strongRecOn with
  | ind r ihr =>
  intro F hI part hr due used most
  refine Ct.of (lv := [(0, .ref (ad (0))), (1, .int (nI (part))), (2, .int (due)), (3, .int (used)), (4, .int (most))]) (by decide) (Nat.le_of_ble_eq_true rfl) rfl ?_
  intro κ X E B _
  have X : zX g κ RX12 cX12_fills 8 := X
  obtain ⟨b0, b1, b2, b3, b4⟩ := hI.bnd
  refine V_iload_n X dX12_fills_0 1 rfl ?_
  refine V_aload_n X dX12_fills_1 0 rfl ?_
  refine R_getf X fl_X12_10 hK (0) (rlv (by omega)) rfl rfl dX12_fills_2 ?_
  refine V_callV (rest := [.int (nI (part))]) X E.room ml_X12_42 in_Jx4a65c_size_8abf5 (ci := 3) rfl se_Jx4a65c_size_8abf5 (rO_list hK (i := 0) (by decide)) (by omega) (by decide) (r_size hK 0 (by decide)) rfl rfl (Nat.le_of_ble_eq_true rfl) ⟨by omega, by omega⟩ dX12_fills_5 (fun _ _ h => False.elim h) (fun v1 σ' hp2 => ?_)
  obtain ⟨hp2, rfl⟩ := hp2
  cases (hp2 : _ = some (Value.int (nI (N 0))))
  show V g κ 8 (0) (0) (t, rO g ad N S F σ0) 8 [(0, .ref (ad (0))), (1, .int (nI (part))), (2, .int (due)), (3, .int (used)), (4, .int (most))] [.int (nI (N 0)), .int (nI (part))]
  refine V_icmpneN X (by omega) (by omega) (tgt := 13) dX12_fills_8 (by decide) (fun h3 => ?_) (fun h3 => ?_)
  · -- 8 true
    obtain ⟨r9, rfl⟩ : ∃ r9, r = r9 + 1 := ⟨r - 1, by omega⟩
    refine V_aload_n X dX12_fills_13 0 rfl ?_
    refine R_getf X fl_X12_32 hK (0) (rlv (by omega)) rfl rfl dX12_fills_14 ?_
    refine V_iload_n X dX12_fills_17 1 rfl ?_
    refine V_iconst (v := (-1)) X dX12_fills_18 (by decide) ?_
    refine R_iast X hK (12) (by omega) (part) rfl (by omega) dX12_fills_19 (fun F4 hF4 => ?_)
    have hJF4 := (zRw.rfl' : zRw part F F).set hF4 (by omega)
    have e2F4 : F4 12 part = -1 := by rw [hF4, fset_eq]
    refine V_iload_n X dX12_fills_20 2 rfl ?_
    refine V_iload_n X dX12_fills_21 1 rfl ?_
    refine V_callS (rest := []) X E.room ml_X12_159 st_X12_isIn (by omega) (by decide) (k_X12_isIn (σ := (t, rO g ad N S F4 σ0)) (due) (nI (part))) rfl rfl (Nat.le_of_ble_eq_true rfl) ⟨by omega, by omega⟩ dX12_fills_22 (fun _ _ h => False.elim h) (fun v22 σ' hp22 => ?_)
    obtain ⟨hp22, rfl⟩ := hp22
    rcases hp22 with ⟨rfl, z5⟩ | ⟨rfl, z5⟩
    · -- yes
      show V g κ 8 (0) (0) (t, rO g ad N S F4 σ0) 25 [(0, .ref (ad (0))), (1, .int (nI (part))), (2, .int (due)), (3, .int (used)), (4, .int (most))] [.int (nI (1))]
      refine V_ifneN X (by omega) (tgt := 40) dX12_fills_25 (by decide) (fun h6 => ?_) (fun h6 => absurd h6 (by omega))
      refine V_iconst (v := nI 0) X dX12_fills_40 (by decide) ?_
      refine V_istore X [(5, .int (nI (0))), (0, .ref (ad (0))), (1, .int (nI (part))), (2, .int (due)), (3, .int (used)), (4, .int (most))] dX12_fills_41 (by decide) rfl ?_
      have L43 : ∀ (n43 : Nat) (i43 : Nat) (G43 : Nat → Nat → Int32), n43 = N 1 - i43 → i43 ≤ N 1 → zRw part F G43 → (∀ j, j < i43 → ¬ fStep N F due most r9 part used j) → V g κ 8 (0) (0) (t, rO g ad N S G43 σ0) 43 [(5, .int (nI (i43))), (0, .ref (ad (0))), (1, .int (nI (part))), (2, .int (due)), (3, .int (used)), (4, .int (most))] [] := by
        intro n43
        induction n43 using Nat.strongRecOn with
        | ind n43 ih43 =>
          intro i43 G43 hn43 hi43 hJ43 hv43_0
          refine V_iload X dX12_fills_43 0 rfl ?_
          refine V_aload_n X dX12_fills_45 1 rfl ?_
          refine R_getf X fl_X12_16 hK (0) (rlv (by omega)) rfl rfl dX12_fills_46 ?_
          refine V_callV (rest := [.int (nI (i43))]) X E.room ml_X12_42 in_Jx4a65c_size_8abf5 (ci := 3) rfl se_Jx4a65c_size_8abf5 (rO_list hK (i := 1) (by decide)) (by omega) (by decide) (r_size hK 1 (by decide)) rfl rfl (Nat.le_of_ble_eq_true rfl) ⟨by omega, by omega⟩ dX12_fills_49 (fun _ _ h => False.elim h) (fun v7 σ' hp8 => ?_)
          obtain ⟨hp8, rfl⟩ := hp8
          cases (hp8 : _ = some (Value.int (nI (N 1))))
          show V g κ 8 (0) (0) (t, rO g ad N S G43 σ0) 52 [(5, .int (nI (i43))), (0, .ref (ad (0))), (1, .int (nI (part))), (2, .int (due)), (3, .int (used)), (4, .int (most))] [.int (nI (N 1)), .int (nI (i43))]
          refine V_icmpgeN X (by omega) (by omega) (tgt := 187) dX12_fills_52 (by decide) (fun h9 => ?_) (fun h9 => ?_)
          · -- 52 true
            refine V_iconst (v := nI 0) X dX12_fills_187 (by decide) ?_
            exact V_zret X E (by first | rfl | decide | exact zbool (by assumption)) (by omega) (by omega) ⟨_, rfl, hJ43, Or.inr ⟨rfl, fun q => by obtain ⟨i, h1, h2⟩ := (fCan_succ.mp q).1 z5; exact hv43_0 i (by omega) h2⟩⟩ dX12_fills_188
          · -- 52 false
            refine V_aload_n X dX12_fills_55 1 rfl ?_
            refine V_iload X dX12_fills_56 0 rfl ?_
            refine V_iload_n X dX12_fills_58 2 rfl ?_
            refine V_callV (rest := []) X E.room ml_X12_163 in_X12_plays (ci := 16) rfl se_X12_plays (R_recv hK (q := 0) (rlv (by omega)) rfl) (by omega) (by decide) (k_X12_plays hK (hI.mv (hJ43).j) (i43) (part) (by omega) (by omega)) rfl rfl (Nat.le_of_ble_eq_true rfl) ⟨by omega, by omega⟩ dX12_fills_59 (fun _ _ h => False.elim h) (fun v59 σ' hp59 => ?_)
            obtain ⟨hp59, rfl⟩ := hp59
            rcases hp59 with ⟨rfl, z10⟩ | ⟨rfl, z10⟩
            · -- yes
              show V g κ 8 (0) (0) (t, rO g ad N S G43 σ0) 62 [(5, .int (nI (i43))), (0, .ref (ad (0))), (1, .int (nI (part))), (2, .int (due)), (3, .int (used)), (4, .int (most))] [.int (nI (1))]
              refine V_ifeqN X (by omega) (tgt := 181) dX12_fills_62 (by decide) (fun h11 => absurd h11 (by omega)) (fun h11 => ?_)
              refine V_iload_n X dX12_fills_65 4 rfl ?_
              refine V_iload X dX12_fills_66 0 rfl ?_
              refine V_callS (rest := []) X E.room ml_X12_159 st_X12_isIn (by omega) (by decide) (k_X12_isIn (σ := (t, rO g ad N S G43 σ0)) (used) (nI (i43))) rfl rfl (Nat.le_of_ble_eq_true rfl) ⟨by omega, by omega⟩ dX12_fills_68 (fun _ _ h => False.elim h) (fun v68 σ' hp68 => ?_)
              obtain ⟨hp68, rfl⟩ := hp68
              rcases hp68 with ⟨rfl, z12⟩ | ⟨rfl, z12⟩
              · -- yes
                show V g κ 8 (0) (0) (t, rO g ad N S G43 σ0) 71 [(5, .int (nI (i43))), (0, .ref (ad (0))), (1, .int (nI (part))), (2, .int (due)), (3, .int (used)), (4, .int (most))] [.int (nI (1))]
                refine V_ifneN X (by omega) (tgt := 86) dX12_fills_71 (by decide) (fun h13 => ?_) (fun h13 => absurd h13 (by omega))
                refine V_iconst (v := nI 1) X dX12_fills_86 (by decide) ?_
                refine V_istore X [(6, .int (nI (1))), (5, .int (nI (i43))), (0, .ref (ad (0))), (1, .int (nI (part))), (2, .int (due)), (3, .int (used)), (4, .int (most))] dX12_fills_87 (by decide) rfl ?_
                refine V_iconst (v := nI 0) X dX12_fills_89 (by decide) ?_
                refine V_istore X [(7, .int (nI (0))), (6, .int (nI (1))), (5, .int (nI (i43))), (0, .ref (ad (0))), (1, .int (nI (part))), (2, .int (due)), (3, .int (used)), (4, .int (most))] dX12_fills_90 (by decide) rfl ?_
                have L92 : ∀ (n92 : Nat) (i92 : Nat) (x92_6 : Int32), n92 = part - i92 → i92 ≤ part → ((x92_6 = nI 1 ∧ fAll F part i43 i92) ∨ (x92_6 = nI 0 ∧ ¬ fAll F part i43 i92)) → V g κ 8 (0) (0) (t, rO g ad N S G43 σ0) 92 [(7, .int (nI (i92))), (6, .int (x92_6)), (5, .int (nI (i43))), (0, .ref (ad (0))), (1, .int (nI (part))), (2, .int (due)), (3, .int (used)), (4, .int (most))] [] := by
                  intro n92
                  induction n92 using Nat.strongRecOn with
                  | ind n92 ih92 =>
                    intro i92 x92_6 hn92 hi92 hv92_0
                    refine V_iload X dX12_fills_92 0 rfl ?_
                    refine V_iload_n X dX12_fills_94 4 rfl ?_
                    refine V_icmpgeN X (by omega) (by omega) (tgt := 140) dX12_fills_95 (by decide) (fun h14 => ?_) (fun h14 => ?_)
                    · -- 95 true
                      refine V_aload_n X dX12_fills_140 3 rfl ?_
                      refine R_getf X fl_X12_32 hK (0) (rlv (by omega)) rfl rfl dX12_fills_141 ?_
                      refine V_iload_n X dX12_fills_144 4 rfl ?_
                      refine V_iload X dX12_fills_145 2 rfl ?_
                      refine R_iast X hK (12) (by omega) (part) rfl (by omega) dX12_fills_147 (fun F15 hF15 => ?_)
                      have hJF15 := (hJ43 : zRw part F G43).set hF15 (by omega)
                      have e2F15 : F15 12 part = nI i43 := by rw [hF15, fset_eq]
                      refine V_iload X dX12_fills_148 1 rfl ?_
                      refine V_ifeq X (tgt := 174) dX12_fills_150 (by decide) (fun h16 => ?_) (fun h16 => ?_)
                      · -- 150 true
                        have hna := (hv92_0.resolve_left (fun q => absurd (q.1.symm.trans h16) (by decide))).2
                        refine V_aload_n X dX12_fills_174 3 rfl ?_
                        refine R_getf X fl_X12_32 hK (0) (rlv (by omega)) rfl rfl dX12_fills_175 ?_
                        refine V_iload_n X dX12_fills_178 4 rfl ?_
                        refine V_iconst (v := (-1)) X dX12_fills_179 (by decide) ?_
                        refine R_iast X hK (12) (by omega) (part) rfl (by omega) dX12_fills_180 (fun F17 hF17 => ?_)
                        have hJF17 := (hJF15 : zRw part F F15).set hF17 (by omega)
                        have e2F17 : F17 12 part = -1 := by rw [hF17, fset_eq]
                        refine V_iinc X (nI (i43 + 1)) [(5, .int (nI (i43 + 1))), (7, .int (nI (i92))), (6, .int (x92_6)), (0, .ref (ad (0))), (1, .int (nI (part))), (2, .int (due)), (3, .int (used)), (4, .int (most))] dX12_fills_181 2 rfl (zinc _) (by decide) rfl ?_
                        refine V_goto (tgt := 43) X dX12_fills_184 (by decide) ?_
                        exact V.sub [0, 3, 4, 5, 6, 7] rfl (ih43 _ (by omega) (i43 + 1) F17 rfl (by omega) hJF17 (fun j hj => by rcases Nat.lt_succ_iff_lt_or_eq.mp hj with h | rfl; exact hv43_0 j h; exact fun q => hna (by have e : i92 = part := (by omega); rw [e]; exact q.2.2.1)))
                      · -- 150 false
                        have hya := (hv92_0.resolve_right (fun q => h16 (q.1.trans (by decide)))).2
                        refine V_aload_n X dX12_fills_153 3 rfl ?_
                        refine V_iload_n X dX12_fills_154 4 rfl ?_
                        refine V_iconst (v := nI 1) X dX12_fills_155 (by decide) ?_
                        refine V_iaddN X dX12_fills_156 ?_
                        refine V_iload_n X dX12_fills_157 5 rfl ?_
                        refine V_iload_n X dX12_fills_158 6 rfl ?_
                        refine V_iconst (v := nI 1) X dX12_fills_159 (by decide) ?_
                        refine V_iload X dX12_fills_160 2 rfl ?_
                        refine V_ishl1 X (by omega) dX12_fills_162 ?_
                        refine V_ior X dX12_fills_163 ?_
                        refine V_iload X dX12_fills_164 7 rfl ?_
                        refine V_callV (rest := []) X E.room ml_X12_166 in_X12_fills (ci := 16) rfl se_X12_fills (R_recv hK (q := 0) (rlv (by omega)) rfl) (by omega) (by decide) (ihr r9 (by omega) (hI.mv (hJF15).j) (part + 1) (by omega) due (used ||| nI (2 ^ (i43))) most) rfl rfl (Nat.le_of_ble_eq_true rfl) ⟨by omega, by omega⟩ dX12_fills_166 (fun _ _ h => False.elim h) (fun v166 σ' hp166 => ?_)
                        obtain ⟨F18, rfl, hwF18, hpF18⟩ := hp166
                        have hJF18 := (hJF15).tr hwF18
                        rcases hpF18 with ⟨rfl, cF18, cF18o, cF18f⟩ | ⟨rfl, cF18⟩
                        · -- filled
                          show V g κ 8 (0) (0) (t, rO g ad N S F18 σ0) 169 [(7, .int (nI (i92))), (6, .int (x92_6)), (5, .int (nI (i43))), (0, .ref (ad (0))), (1, .int (nI (part))), (2, .int (due)), (3, .int (used)), (4, .int (most))] [.int (nI (1))]
                          refine V_ifeqN X (by omega) (tgt := 174) dX12_fills_169 (by decide) (fun h19 => absurd h19 (by omega)) (fun h19 => ?_)
                          refine V_iconst (v := nI 1) X dX12_fills_172 (by decide) ?_
                          exact V_zret X E (by first | rfl | decide | exact zbool (by assumption)) (by omega) (by omega) ⟨_, rfl, hJF18, Or.inl ⟨rfl, fCan_succ.mpr ⟨fun _ => ⟨i43, by omega, (by rw [← hJ43.pl]; exact z10), Or.inl z12, (by have e : i92 = part := (by omega); rw [e] at hya; exact hya), ((fCan_mv hJF15 e2F15).mp cF18)⟩, fun h => absurd z5 h⟩, fOk hwF18 cF18o (Or.inr ⟨i43, by omega, e2F15⟩), fFst_succ.mpr ⟨fun _ => ⟨i43, by omega, (hwF18.2 part (by omega)).trans e2F15, ⟨(by rw [← hJ43.pl]; exact z10), Or.inl z12, (by have e : i92 = part := (by omega); rw [e] at hya; exact hya), ((fCan_mv hJF15 e2F15).mp cF18)⟩, hv43_0, fFst_mv hJF15 e2F15 cF18f⟩, fun h => absurd z5 h⟩⟩⟩ dX12_fills_173
                        · -- not
                          show V g κ 8 (0) (0) (t, rO g ad N S F18 σ0) 169 [(7, .int (nI (i92))), (6, .int (x92_6)), (5, .int (nI (i43))), (0, .ref (ad (0))), (1, .int (nI (part))), (2, .int (due)), (3, .int (used)), (4, .int (most))] [.int (nI (0))]
                          refine V_ifeqN X (by omega) (tgt := 174) dX12_fills_169 (by decide) (fun h20 => ?_) (fun h20 => absurd h20 (by omega))
                          refine V_aload_n X dX12_fills_174 3 rfl ?_
                          refine R_getf X fl_X12_32 hK (0) (rlv (by omega)) rfl rfl dX12_fills_175 ?_
                          refine V_iload_n X dX12_fills_178 4 rfl ?_
                          refine V_iconst (v := (-1)) X dX12_fills_179 (by decide) ?_
                          refine R_iast X hK (12) (by omega) (part) rfl (by omega) dX12_fills_180 (fun F21 hF21 => ?_)
                          have hJF21 := (hJF18 : zRw part F F18).set hF21 (by omega)
                          have e2F21 : F21 12 part = -1 := by rw [hF21, fset_eq]
                          refine V_iinc X (nI (i43 + 1)) [(5, .int (nI (i43 + 1))), (7, .int (nI (i92))), (6, .int (x92_6)), (0, .ref (ad (0))), (1, .int (nI (part))), (2, .int (due)), (3, .int (used)), (4, .int (most))] dX12_fills_181 2 rfl (zinc _) (by decide) rfl ?_
                          refine V_goto (tgt := 43) X dX12_fills_184 (by decide) ?_
                          exact V.sub [0, 3, 4, 5, 6, 7] rfl (ih43 _ (by omega) (i43 + 1) F21 rfl (by omega) hJF21 (fun j hj => by rcases Nat.lt_succ_iff_lt_or_eq.mp hj with h | rfl; exact hv43_0 j h; exact fun q => cF18 ((fCan_mv hJF15 e2F15).mpr q.2.2.2)))
                    · -- 95 false
                      refine V_iload X dX12_fills_98 1 rfl ?_
                      refine V_aload_n X dX12_fills_100 3 rfl ?_
                      refine R_getf X fl_X12_32 hK (0) (rlv (by omega)) rfl rfl dX12_fills_101 ?_
                      refine V_iload X dX12_fills_104 0 rfl ?_
                      refine R_iald X hK (12) (by omega) (i92) rfl (by omega) dX12_fills_106 ?_
                      refine V.topi (fun x22 ex22 => ?_)
                      have fx22 : x22 = F 12 (i92) := ex22.trans (hJ43.2 _ (by omega))
                      refine V_iload X dX12_fills_107 2 rfl ?_
                      refine V_icmpne X (tgt := 126) dX12_fills_109 (by decide) (fun h23 => ?_) (fun h23 => ?_)
                      · -- 109 true
                        refine V_iconst (v := nI 1) X dX12_fills_126 (by decide) ?_
                        refine V_goto (tgt := 131) X dX12_fills_127 (by decide) ?_
                        refine V_iand X dX12_fills_131 (V.topi (fun w24 ew24 => ?_))
                        refine V_istore X [(6, .int (w24)), (7, .int (nI (i92))), (5, .int (nI (i43))), (0, .ref (ad (0))), (1, .int (nI (part))), (2, .int (due)), (3, .int (used)), (4, .int (most))] dX12_fills_132 (by decide) rfl ?_
                        refine V_iinc X (nI (i92 + 1)) [(7, .int (nI (i92 + 1))), (6, .int (w24)), (5, .int (nI (i43))), (0, .ref (ad (0))), (1, .int (nI (part))), (2, .int (due)), (3, .int (used)), (4, .int (most))] dX12_fills_134 1 rfl (zinc _) (by decide) rfl ?_
                        refine V_goto (tgt := 92) X dX12_fills_137 (by decide) ?_
                        exact V.sub [0, 1, 2, 3, 4, 5, 6, 7] rfl (ih92 _ (by omega) (i92 + 1) (w24) rfl (by omega) (fAll_1 hv92_0 (Or.inl (fun q => h23 (fx22.trans q))) ew24))
                      · -- 109 false
                        refine V_aload_n X dX12_fills_112 3 rfl ?_
                        refine R_getf X fl_X12_35 hK (0) (rlv (by omega)) rfl rfl dX12_fills_113 ?_
                        refine V_iload_n X dX12_fills_116 4 rfl ?_
                        refine R_iald X hK (13) (by omega) (part) rfl (by omega) dX12_fills_117 ?_
                        refine V.topi (fun x25 ex25 => ?_)
                        have fx25 : x25 = F 13 (part) := ex25.trans (congrFun (hJ43.1 13 (by decide)) _)
                        refine V_iload X dX12_fills_118 0 rfl ?_
                        refine V_callS (rest := [.int (x92_6)]) X E.room ml_X12_159 st_X12_isIn (by omega) (by decide) (k_X12_isIn (σ := (t, rO g ad N S G43 σ0)) (x25) (nI (i92))) rfl rfl (Nat.le_of_ble_eq_true rfl) ⟨by omega, by omega⟩ dX12_fills_120 (fun _ _ h => False.elim h) (fun v120 σ' hp120 => ?_)
                        obtain ⟨hp120, rfl⟩ := hp120
                        rcases hp120 with ⟨rfl, z26⟩ | ⟨rfl, z26⟩
                        · -- yes
                          show V g κ 8 (0) (0) (t, rO g ad N S G43 σ0) 123 [(7, .int (nI (i92))), (6, .int (x92_6)), (5, .int (nI (i43))), (0, .ref (ad (0))), (1, .int (nI (part))), (2, .int (due)), (3, .int (used)), (4, .int (most))] [.int (nI (1)), .int (x92_6)]
                          refine V_ifneN X (by omega) (tgt := 130) dX12_fills_123 (by decide) (fun h27 => ?_) (fun h27 => absurd h27 (by omega))
                          refine V_iconst (v := nI 0) X dX12_fills_130 (by decide) ?_
                          refine V_iand X dX12_fills_131 (V.topi (fun w28 ew28 => ?_))
                          refine V_istore X [(6, .int (w28)), (7, .int (nI (i92))), (5, .int (nI (i43))), (0, .ref (ad (0))), (1, .int (nI (part))), (2, .int (due)), (3, .int (used)), (4, .int (most))] dX12_fills_132 (by decide) rfl ?_
                          refine V_iinc X (nI (i92 + 1)) [(7, .int (nI (i92 + 1))), (6, .int (w28)), (5, .int (nI (i43))), (0, .ref (ad (0))), (1, .int (nI (part))), (2, .int (due)), (3, .int (used)), (4, .int (most))] dX12_fills_134 1 rfl (zinc _) (by decide) rfl ?_
                          refine V_goto (tgt := 92) X dX12_fills_137 (by decide) ?_
                          exact V.sub [0, 1, 2, 3, 4, 5, 6, 7] rfl (ih92 _ (by omega) (i92 + 1) (w28) rfl (by omega) (fAll_0 hv92_0 (fun q => q.elim (fun q => q (fx22.symm.trans h23)) (fun q => q (by rw [← fx25]; exact z26))) ew28))
                        · -- no
                          show V g κ 8 (0) (0) (t, rO g ad N S G43 σ0) 123 [(7, .int (nI (i92))), (6, .int (x92_6)), (5, .int (nI (i43))), (0, .ref (ad (0))), (1, .int (nI (part))), (2, .int (due)), (3, .int (used)), (4, .int (most))] [.int (nI (0)), .int (x92_6)]
                          refine V_ifneN X (by omega) (tgt := 130) dX12_fills_123 (by decide) (fun h29 => absurd h29 (by omega)) (fun h29 => ?_)
                          refine V_iconst (v := nI 1) X dX12_fills_126 (by decide) ?_
                          refine V_goto (tgt := 131) X dX12_fills_127 (by decide) ?_
                          refine V_iand X dX12_fills_131 (V.topi (fun w30 ew30 => ?_))
                          refine V_istore X [(6, .int (w30)), (7, .int (nI (i92))), (5, .int (nI (i43))), (0, .ref (ad (0))), (1, .int (nI (part))), (2, .int (due)), (3, .int (used)), (4, .int (most))] dX12_fills_132 (by decide) rfl ?_
                          refine V_iinc X (nI (i92 + 1)) [(7, .int (nI (i92 + 1))), (6, .int (w30)), (5, .int (nI (i43))), (0, .ref (ad (0))), (1, .int (nI (part))), (2, .int (due)), (3, .int (used)), (4, .int (most))] dX12_fills_134 1 rfl (zinc _) (by decide) rfl ?_
                          refine V_goto (tgt := 92) X dX12_fills_137 (by decide) ?_
                          exact V.sub [0, 1, 2, 3, 4, 5, 6, 7] rfl (ih92 _ (by omega) (i92 + 1) (w30) rfl (by omega) (fAll_1 hv92_0 (Or.inr (fun q => z26 (by rw [fx25]; exact q))) ew30))
                exact L92 _ (0) (nI (1)) rfl (by omega) (Or.inl ⟨rfl, fun o ho => absurd ho (Nat.not_lt_zero o)⟩)
              · -- no
                show V g κ 8 (0) (0) (t, rO g ad N S G43 σ0) 71 [(5, .int (nI (i43))), (0, .ref (ad (0))), (1, .int (nI (part))), (2, .int (due)), (3, .int (used)), (4, .int (most))] [.int (nI (0))]
                refine V_ifneN X (by omega) (tgt := 86) dX12_fills_71 (by decide) (fun h31 => absurd h31 (by omega)) (fun h31 => ?_)
                refine V_iload_n X dX12_fills_74 4 rfl ?_
                refine V_callS (rest := []) X E.room ml_X12_170 st_J6_bitCount_0f7a4 (by omega) (by decide) (k_J6_bitCount_0f7a4 (σ := (t, rO g ad N S G43 σ0)) (used)) rfl rfl (Nat.le_of_ble_eq_true rfl) ⟨by omega, by omega⟩ dX12_fills_75 (fun _ _ h => False.elim h) (fun v75 σ' hp75 => ?_)
                obtain ⟨hp75, rfl⟩ := hp75
                cases (hp75 : _ = some (Value.int (zbc (used))))
                show V g κ 8 (0) (0) (t, rO g ad N S G43 σ0) 78 [(5, .int (nI (i43))), (0, .ref (ad (0))), (1, .int (nI (part))), (2, .int (due)), (3, .int (used)), (4, .int (most))] [.int (zbc (used))]
                refine V_iload X dX12_fills_78 5 rfl ?_
                refine V_icmpne X (tgt := 86) dX12_fills_80 (by decide) (fun h32 => ?_) (fun h32 => ?_)
                · -- 80 true
                  refine V_iconst (v := nI 1) X dX12_fills_86 (by decide) ?_
                  refine V_istore X [(6, .int (nI (1))), (5, .int (nI (i43))), (0, .ref (ad (0))), (1, .int (nI (part))), (2, .int (due)), (3, .int (used)), (4, .int (most))] dX12_fills_87 (by decide) rfl ?_
                  refine V_iconst (v := nI 0) X dX12_fills_89 (by decide) ?_
                  refine V_istore X [(7, .int (nI (0))), (6, .int (nI (1))), (5, .int (nI (i43))), (0, .ref (ad (0))), (1, .int (nI (part))), (2, .int (due)), (3, .int (used)), (4, .int (most))] dX12_fills_90 (by decide) rfl ?_
                  have L92 : ∀ (n92 : Nat) (i92 : Nat) (x92_6 : Int32), n92 = part - i92 → i92 ≤ part → ((x92_6 = nI 1 ∧ fAll F part i43 i92) ∨ (x92_6 = nI 0 ∧ ¬ fAll F part i43 i92)) → V g κ 8 (0) (0) (t, rO g ad N S G43 σ0) 92 [(7, .int (nI (i92))), (6, .int (x92_6)), (5, .int (nI (i43))), (0, .ref (ad (0))), (1, .int (nI (part))), (2, .int (due)), (3, .int (used)), (4, .int (most))] [] := by
                    intro n92
                    induction n92 using Nat.strongRecOn with
                    | ind n92 ih92 =>
                      intro i92 x92_6 hn92 hi92 hv92_0
                      refine V_iload X dX12_fills_92 0 rfl ?_
                      refine V_iload_n X dX12_fills_94 4 rfl ?_
                      refine V_icmpgeN X (by omega) (by omega) (tgt := 140) dX12_fills_95 (by decide) (fun h33 => ?_) (fun h33 => ?_)
                      · -- 95 true
                        refine V_aload_n X dX12_fills_140 3 rfl ?_
                        refine R_getf X fl_X12_32 hK (0) (rlv (by omega)) rfl rfl dX12_fills_141 ?_
                        refine V_iload_n X dX12_fills_144 4 rfl ?_
                        refine V_iload X dX12_fills_145 2 rfl ?_
                        refine R_iast X hK (12) (by omega) (part) rfl (by omega) dX12_fills_147 (fun F34 hF34 => ?_)
                        have hJF34 := (hJ43 : zRw part F G43).set hF34 (by omega)
                        have e2F34 : F34 12 part = nI i43 := by rw [hF34, fset_eq]
                        refine V_iload X dX12_fills_148 1 rfl ?_
                        refine V_ifeq X (tgt := 174) dX12_fills_150 (by decide) (fun h35 => ?_) (fun h35 => ?_)
                        · -- 150 true
                          have hna := (hv92_0.resolve_left (fun q => absurd (q.1.symm.trans h35) (by decide))).2
                          refine V_aload_n X dX12_fills_174 3 rfl ?_
                          refine R_getf X fl_X12_32 hK (0) (rlv (by omega)) rfl rfl dX12_fills_175 ?_
                          refine V_iload_n X dX12_fills_178 4 rfl ?_
                          refine V_iconst (v := (-1)) X dX12_fills_179 (by decide) ?_
                          refine R_iast X hK (12) (by omega) (part) rfl (by omega) dX12_fills_180 (fun F36 hF36 => ?_)
                          have hJF36 := (hJF34 : zRw part F F34).set hF36 (by omega)
                          have e2F36 : F36 12 part = -1 := by rw [hF36, fset_eq]
                          refine V_iinc X (nI (i43 + 1)) [(5, .int (nI (i43 + 1))), (7, .int (nI (i92))), (6, .int (x92_6)), (0, .ref (ad (0))), (1, .int (nI (part))), (2, .int (due)), (3, .int (used)), (4, .int (most))] dX12_fills_181 2 rfl (zinc _) (by decide) rfl ?_
                          refine V_goto (tgt := 43) X dX12_fills_184 (by decide) ?_
                          exact V.sub [0, 3, 4, 5, 6, 7] rfl (ih43 _ (by omega) (i43 + 1) F36 rfl (by omega) hJF36 (fun j hj => by rcases Nat.lt_succ_iff_lt_or_eq.mp hj with h | rfl; exact hv43_0 j h; exact fun q => hna (by have e : i92 = part := (by omega); rw [e]; exact q.2.2.1)))
                        · -- 150 false
                          have hya := (hv92_0.resolve_right (fun q => h35 (q.1.trans (by decide)))).2
                          refine V_aload_n X dX12_fills_153 3 rfl ?_
                          refine V_iload_n X dX12_fills_154 4 rfl ?_
                          refine V_iconst (v := nI 1) X dX12_fills_155 (by decide) ?_
                          refine V_iaddN X dX12_fills_156 ?_
                          refine V_iload_n X dX12_fills_157 5 rfl ?_
                          refine V_iload_n X dX12_fills_158 6 rfl ?_
                          refine V_iconst (v := nI 1) X dX12_fills_159 (by decide) ?_
                          refine V_iload X dX12_fills_160 2 rfl ?_
                          refine V_ishl1 X (by omega) dX12_fills_162 ?_
                          refine V_ior X dX12_fills_163 ?_
                          refine V_iload X dX12_fills_164 7 rfl ?_
                          refine V_callV (rest := []) X E.room ml_X12_166 in_X12_fills (ci := 16) rfl se_X12_fills (R_recv hK (q := 0) (rlv (by omega)) rfl) (by omega) (by decide) (ihr r9 (by omega) (hI.mv (hJF34).j) (part + 1) (by omega) due (used ||| nI (2 ^ (i43))) most) rfl rfl (Nat.le_of_ble_eq_true rfl) ⟨by omega, by omega⟩ dX12_fills_166 (fun _ _ h => False.elim h) (fun v166 σ' hp166 => ?_)
                          obtain ⟨F37, rfl, hwF37, hpF37⟩ := hp166
                          have hJF37 := (hJF34).tr hwF37
                          rcases hpF37 with ⟨rfl, cF37, cF37o, cF37f⟩ | ⟨rfl, cF37⟩
                          · -- filled
                            show V g κ 8 (0) (0) (t, rO g ad N S F37 σ0) 169 [(7, .int (nI (i92))), (6, .int (x92_6)), (5, .int (nI (i43))), (0, .ref (ad (0))), (1, .int (nI (part))), (2, .int (due)), (3, .int (used)), (4, .int (most))] [.int (nI (1))]
                            refine V_ifeqN X (by omega) (tgt := 174) dX12_fills_169 (by decide) (fun h38 => absurd h38 (by omega)) (fun h38 => ?_)
                            refine V_iconst (v := nI 1) X dX12_fills_172 (by decide) ?_
                            exact V_zret X E (by first | rfl | decide | exact zbool (by assumption)) (by omega) (by omega) ⟨_, rfl, hJF37, Or.inl ⟨rfl, fCan_succ.mpr ⟨fun _ => ⟨i43, by omega, (by rw [← hJ43.pl]; exact z10), Or.inr h32, (by have e : i92 = part := (by omega); rw [e] at hya; exact hya), ((fCan_mv hJF34 e2F34).mp cF37)⟩, fun h => absurd z5 h⟩, fOk hwF37 cF37o (Or.inr ⟨i43, by omega, e2F34⟩), fFst_succ.mpr ⟨fun _ => ⟨i43, by omega, (hwF37.2 part (by omega)).trans e2F34, ⟨(by rw [← hJ43.pl]; exact z10), Or.inr h32, (by have e : i92 = part := (by omega); rw [e] at hya; exact hya), ((fCan_mv hJF34 e2F34).mp cF37)⟩, hv43_0, fFst_mv hJF34 e2F34 cF37f⟩, fun h => absurd z5 h⟩⟩⟩ dX12_fills_173
                          · -- not
                            show V g κ 8 (0) (0) (t, rO g ad N S F37 σ0) 169 [(7, .int (nI (i92))), (6, .int (x92_6)), (5, .int (nI (i43))), (0, .ref (ad (0))), (1, .int (nI (part))), (2, .int (due)), (3, .int (used)), (4, .int (most))] [.int (nI (0))]
                            refine V_ifeqN X (by omega) (tgt := 174) dX12_fills_169 (by decide) (fun h39 => ?_) (fun h39 => absurd h39 (by omega))
                            refine V_aload_n X dX12_fills_174 3 rfl ?_
                            refine R_getf X fl_X12_32 hK (0) (rlv (by omega)) rfl rfl dX12_fills_175 ?_
                            refine V_iload_n X dX12_fills_178 4 rfl ?_
                            refine V_iconst (v := (-1)) X dX12_fills_179 (by decide) ?_
                            refine R_iast X hK (12) (by omega) (part) rfl (by omega) dX12_fills_180 (fun F40 hF40 => ?_)
                            have hJF40 := (hJF37 : zRw part F F37).set hF40 (by omega)
                            have e2F40 : F40 12 part = -1 := by rw [hF40, fset_eq]
                            refine V_iinc X (nI (i43 + 1)) [(5, .int (nI (i43 + 1))), (7, .int (nI (i92))), (6, .int (x92_6)), (0, .ref (ad (0))), (1, .int (nI (part))), (2, .int (due)), (3, .int (used)), (4, .int (most))] dX12_fills_181 2 rfl (zinc _) (by decide) rfl ?_
                            refine V_goto (tgt := 43) X dX12_fills_184 (by decide) ?_
                            exact V.sub [0, 3, 4, 5, 6, 7] rfl (ih43 _ (by omega) (i43 + 1) F40 rfl (by omega) hJF40 (fun j hj => by rcases Nat.lt_succ_iff_lt_or_eq.mp hj with h | rfl; exact hv43_0 j h; exact fun q => cF37 ((fCan_mv hJF34 e2F34).mpr q.2.2.2)))
                      · -- 95 false
                        refine V_iload X dX12_fills_98 1 rfl ?_
                        refine V_aload_n X dX12_fills_100 3 rfl ?_
                        refine R_getf X fl_X12_32 hK (0) (rlv (by omega)) rfl rfl dX12_fills_101 ?_
                        refine V_iload X dX12_fills_104 0 rfl ?_
                        refine R_iald X hK (12) (by omega) (i92) rfl (by omega) dX12_fills_106 ?_
                        refine V.topi (fun x41 ex41 => ?_)
                        have fx41 : x41 = F 12 (i92) := ex41.trans (hJ43.2 _ (by omega))
                        refine V_iload X dX12_fills_107 2 rfl ?_
                        refine V_icmpne X (tgt := 126) dX12_fills_109 (by decide) (fun h42 => ?_) (fun h42 => ?_)
                        · -- 109 true
                          refine V_iconst (v := nI 1) X dX12_fills_126 (by decide) ?_
                          refine V_goto (tgt := 131) X dX12_fills_127 (by decide) ?_
                          refine V_iand X dX12_fills_131 (V.topi (fun w43 ew43 => ?_))
                          refine V_istore X [(6, .int (w43)), (7, .int (nI (i92))), (5, .int (nI (i43))), (0, .ref (ad (0))), (1, .int (nI (part))), (2, .int (due)), (3, .int (used)), (4, .int (most))] dX12_fills_132 (by decide) rfl ?_
                          refine V_iinc X (nI (i92 + 1)) [(7, .int (nI (i92 + 1))), (6, .int (w43)), (5, .int (nI (i43))), (0, .ref (ad (0))), (1, .int (nI (part))), (2, .int (due)), (3, .int (used)), (4, .int (most))] dX12_fills_134 1 rfl (zinc _) (by decide) rfl ?_
                          refine V_goto (tgt := 92) X dX12_fills_137 (by decide) ?_
                          exact V.sub [0, 1, 2, 3, 4, 5, 6, 7] rfl (ih92 _ (by omega) (i92 + 1) (w43) rfl (by omega) (fAll_1 hv92_0 (Or.inl (fun q => h42 (fx41.trans q))) ew43))
                        · -- 109 false
                          refine V_aload_n X dX12_fills_112 3 rfl ?_
                          refine R_getf X fl_X12_35 hK (0) (rlv (by omega)) rfl rfl dX12_fills_113 ?_
                          refine V_iload_n X dX12_fills_116 4 rfl ?_
                          refine R_iald X hK (13) (by omega) (part) rfl (by omega) dX12_fills_117 ?_
                          refine V.topi (fun x44 ex44 => ?_)
                          have fx44 : x44 = F 13 (part) := ex44.trans (congrFun (hJ43.1 13 (by decide)) _)
                          refine V_iload X dX12_fills_118 0 rfl ?_
                          refine V_callS (rest := [.int (x92_6)]) X E.room ml_X12_159 st_X12_isIn (by omega) (by decide) (k_X12_isIn (σ := (t, rO g ad N S G43 σ0)) (x44) (nI (i92))) rfl rfl (Nat.le_of_ble_eq_true rfl) ⟨by omega, by omega⟩ dX12_fills_120 (fun _ _ h => False.elim h) (fun v120 σ' hp120 => ?_)
                          obtain ⟨hp120, rfl⟩ := hp120
                          rcases hp120 with ⟨rfl, z45⟩ | ⟨rfl, z45⟩
                          · -- yes
                            show V g κ 8 (0) (0) (t, rO g ad N S G43 σ0) 123 [(7, .int (nI (i92))), (6, .int (x92_6)), (5, .int (nI (i43))), (0, .ref (ad (0))), (1, .int (nI (part))), (2, .int (due)), (3, .int (used)), (4, .int (most))] [.int (nI (1)), .int (x92_6)]
                            refine V_ifneN X (by omega) (tgt := 130) dX12_fills_123 (by decide) (fun h46 => ?_) (fun h46 => absurd h46 (by omega))
                            refine V_iconst (v := nI 0) X dX12_fills_130 (by decide) ?_
                            refine V_iand X dX12_fills_131 (V.topi (fun w47 ew47 => ?_))
                            refine V_istore X [(6, .int (w47)), (7, .int (nI (i92))), (5, .int (nI (i43))), (0, .ref (ad (0))), (1, .int (nI (part))), (2, .int (due)), (3, .int (used)), (4, .int (most))] dX12_fills_132 (by decide) rfl ?_
                            refine V_iinc X (nI (i92 + 1)) [(7, .int (nI (i92 + 1))), (6, .int (w47)), (5, .int (nI (i43))), (0, .ref (ad (0))), (1, .int (nI (part))), (2, .int (due)), (3, .int (used)), (4, .int (most))] dX12_fills_134 1 rfl (zinc _) (by decide) rfl ?_
                            refine V_goto (tgt := 92) X dX12_fills_137 (by decide) ?_
                            exact V.sub [0, 1, 2, 3, 4, 5, 6, 7] rfl (ih92 _ (by omega) (i92 + 1) (w47) rfl (by omega) (fAll_0 hv92_0 (fun q => q.elim (fun q => q (fx41.symm.trans h42)) (fun q => q (by rw [← fx44]; exact z45))) ew47))
                          · -- no
                            show V g κ 8 (0) (0) (t, rO g ad N S G43 σ0) 123 [(7, .int (nI (i92))), (6, .int (x92_6)), (5, .int (nI (i43))), (0, .ref (ad (0))), (1, .int (nI (part))), (2, .int (due)), (3, .int (used)), (4, .int (most))] [.int (nI (0)), .int (x92_6)]
                            refine V_ifneN X (by omega) (tgt := 130) dX12_fills_123 (by decide) (fun h48 => absurd h48 (by omega)) (fun h48 => ?_)
                            refine V_iconst (v := nI 1) X dX12_fills_126 (by decide) ?_
                            refine V_goto (tgt := 131) X dX12_fills_127 (by decide) ?_
                            refine V_iand X dX12_fills_131 (V.topi (fun w49 ew49 => ?_))
                            refine V_istore X [(6, .int (w49)), (7, .int (nI (i92))), (5, .int (nI (i43))), (0, .ref (ad (0))), (1, .int (nI (part))), (2, .int (due)), (3, .int (used)), (4, .int (most))] dX12_fills_132 (by decide) rfl ?_
                            refine V_iinc X (nI (i92 + 1)) [(7, .int (nI (i92 + 1))), (6, .int (w49)), (5, .int (nI (i43))), (0, .ref (ad (0))), (1, .int (nI (part))), (2, .int (due)), (3, .int (used)), (4, .int (most))] dX12_fills_134 1 rfl (zinc _) (by decide) rfl ?_
                            refine V_goto (tgt := 92) X dX12_fills_137 (by decide) ?_
                            exact V.sub [0, 1, 2, 3, 4, 5, 6, 7] rfl (ih92 _ (by omega) (i92 + 1) (w49) rfl (by omega) (fAll_1 hv92_0 (Or.inr (fun q => z45 (by rw [fx44]; exact q))) ew49))
                  exact L92 _ (0) (nI (1)) rfl (by omega) (Or.inl ⟨rfl, fun o ho => absurd ho (Nat.not_lt_zero o)⟩)
                · -- 80 false
                  refine V_goto (tgt := 181) X dX12_fills_83 (by decide) ?_
                  refine V_iinc X (nI (i43 + 1)) [(5, .int (nI (i43 + 1))), (0, .ref (ad (0))), (1, .int (nI (part))), (2, .int (due)), (3, .int (used)), (4, .int (most))] dX12_fills_181 0 rfl (zinc _) (by decide) rfl ?_
                  refine V_goto (tgt := 43) X dX12_fills_184 (by decide) ?_
                  exact V.sub [0, 1, 2, 3, 4, 5] rfl (ih43 _ (by omega) (i43 + 1) G43 rfl (by omega) hJ43 (fun j hj => by rcases Nat.lt_succ_iff_lt_or_eq.mp hj with h | rfl; exact hv43_0 j h; exact fun q => q.2.1.elim z12 (fun z => z h32)))
            · -- no
              show V g κ 8 (0) (0) (t, rO g ad N S G43 σ0) 62 [(5, .int (nI (i43))), (0, .ref (ad (0))), (1, .int (nI (part))), (2, .int (due)), (3, .int (used)), (4, .int (most))] [.int (nI (0))]
              refine V_ifeqN X (by omega) (tgt := 181) dX12_fills_62 (by decide) (fun h50 => ?_) (fun h50 => absurd h50 (by omega))
              refine V_iinc X (nI (i43 + 1)) [(5, .int (nI (i43 + 1))), (0, .ref (ad (0))), (1, .int (nI (part))), (2, .int (due)), (3, .int (used)), (4, .int (most))] dX12_fills_181 0 rfl (zinc _) (by decide) rfl ?_
              refine V_goto (tgt := 43) X dX12_fills_184 (by decide) ?_
              exact V.sub [0, 1, 2, 3, 4, 5] rfl (ih43 _ (by omega) (i43 + 1) G43 rfl (by omega) hJ43 (fun j hj => by rcases Nat.lt_succ_iff_lt_or_eq.mp hj with h | rfl; exact hv43_0 j h; exact fun q => z10 (by rw [(hJ43).pl]; exact q.1)))
      exact L43 _ (0) F4 rfl (by omega) hJF4 (fun j hj => absurd hj (Nat.not_lt_zero j))
    · -- no
      show V g κ 8 (0) (0) (t, rO g ad N S F4 σ0) 25 [(0, .ref (ad (0))), (1, .int (nI (part))), (2, .int (due)), (3, .int (used)), (4, .int (most))] [.int (nI (0))]
      refine V_ifneN X (by omega) (tgt := 40) dX12_fills_25 (by decide) (fun h51 => absurd h51 (by omega)) (fun h51 => ?_)
      refine V_aload_n X dX12_fills_28 0 rfl ?_
      refine V_iload_n X dX12_fills_29 1 rfl ?_
      refine V_iconst (v := nI 1) X dX12_fills_30 (by decide) ?_
      refine V_iaddN X dX12_fills_31 ?_
      refine V_iload_n X dX12_fills_32 2 rfl ?_
      refine V_iload_n X dX12_fills_33 3 rfl ?_
      refine V_iload X dX12_fills_34 4 rfl ?_
      refine V_callV (rest := []) X E.room ml_X12_166 in_X12_fills (ci := 16) rfl se_X12_fills (R_recv hK (q := 0) (rlv (by omega)) rfl) (by omega) (by decide) (ihr r9 (by omega) (hI.mv (hJF4).j) (part + 1) (by omega) due (used) most) rfl rfl (Nat.le_of_ble_eq_true rfl) ⟨by omega, by omega⟩ dX12_fills_36 (fun _ _ h => False.elim h) (fun v36 σ' hp36 => ?_)
      obtain ⟨F52, rfl, hwF52, hpF52⟩ := hp36
      have hJF52 := (hJF4).tr hwF52
      rcases hpF52 with ⟨rfl, cF52, cF52o, cF52f⟩ | ⟨rfl, cF52⟩
      · -- filled
        show V g κ 8 (0) (0) (t, rO g ad N S F52 σ0) 39 [(0, .ref (ad (0))), (1, .int (nI (part))), (2, .int (due)), (3, .int (used)), (4, .int (most))] [.int (nI (1))]
        exact V_zret X E (by first | rfl | decide | exact zbool (by assumption)) (by omega) (by omega) ⟨_, rfl, hJF52, Or.inl ⟨rfl, fCan_succ.mpr ⟨fun h => absurd h z5, fun _ => (fCan_mv hJF4 e2F4).mp cF52⟩, fOk hwF52 cF52o (Or.inl ⟨e2F4, z5⟩), fFst_succ.mpr ⟨fun h => absurd h z5, fun _ => ⟨(hwF52.2 part (by omega)).trans e2F4, fFst_mv hJF4 e2F4 cF52f⟩⟩⟩⟩ dX12_fills_39
      · -- not
        show V g κ 8 (0) (0) (t, rO g ad N S F52 σ0) 39 [(0, .ref (ad (0))), (1, .int (nI (part))), (2, .int (due)), (3, .int (used)), (4, .int (most))] [.int (nI (0))]
        exact V_zret X E (by first | rfl | decide | exact zbool (by assumption)) (by omega) (by omega) ⟨_, rfl, hJF52, Or.inr ⟨rfl, fun q => cF52 ((fCan_mv hJF4 e2F4).mpr ((fCan_succ.mp q).2 z5))⟩⟩ dX12_fills_39
  · -- 8 false
    obtain rfl : r = 0 := by omega
    refine V_iconst (v := nI 1) X dX12_fills_11 (by decide) ?_
    exact V_zret X E (by first | rfl | decide | exact zbool (by assumption)) (by omega) (by omega) ⟨F, rfl, zRw.rfl', Or.inl ⟨rfl, trivial, fun p h1 h2 => absurd h2 (by omega), trivial⟩⟩ dX12_fills_12
