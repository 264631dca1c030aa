/-! ===== filled, excess, lack of the class ===== -/
/-- the voices of the first i parts of a set -/
def zVs (F : Nat → Nat → Int32) (m i c : Nat) : Prop := c < 16 ∧ ∀ v, v < 4 → (c.testBit v = true ↔ ∃ p, p < i ∧ m.testBit p = true ∧ F 2 p = nI v)
section ZVS
variable {F : Nat → Nat → Int32} {m i c v : Nat}
theorem zVs_0 : zVs F m 0 0 := ⟨by decide, fun v _ => by rw [Nat.zero_testBit]; exact ⟨fun h => (by cases h), fun ⟨p, h, _⟩ => absurd h (Nat.not_lt_zero p)⟩⟩
theorem zVs_no (h : zVs F m i c) (hz : ¬ zIn (nI m) (nI i)) (hm : m < 128) (hi : i < 31) : zVs F m (i + 1) c := ⟨h.1, fun v hv => (h.2 v hv).trans ⟨fun ⟨p, a, b⟩ => ⟨p, by omega, b⟩, fun ⟨p, a, b, d⟩ => ⟨p, by
  by_cases e : p = i
  · subst e
    exact absurd ((zIn_nat (by omega) hi).mpr b) hz
  · omega, b, d⟩⟩⟩
theorem zVs_yes (h : zVs F m i c) (hz : zIn (nI m) (nI i)) (hv : v < 4) (ev : F 2 i = nI v) (hm : m < 128) (hi : i < 31) : zVs F m (i + 1) (c ||| 2 ^ v) := by
  have hb := (zIn_nat (by omega) hi).mp hz
  refine ⟨Nat.or_lt_two_pow (n := 4) h.1 (Nat.pow_lt_pow_right (by decide : 1 < 2) hv : 2 ^ v < 2 ^ 4), fun w hw => ?_⟩
  rw [tb_or2, h.2 w hw]
  constructor
  · rintro (⟨p, a, b, d⟩ | rfl)
    · exact ⟨p, by omega, b, d⟩
    · exact ⟨i, Nat.lt_succ_self i, hb, ev⟩
  · rintro ⟨p, a, b, d⟩
    by_cases e : p = i
    · subst e
      exact Or.inr ((nI_eq (by omega) (by omega)).mp (d.symm.trans ev))
    · exact Or.inl ⟨p, by omega, b, d⟩
theorem zVs_end {nP nS nA : Nat} {x : Int32} (hB : cBd nP nS nA F) (hm : m < 128) (h : zVs F m i c) (hi : i = nP) (f : zMk x (fun q => q < nA ∧ mAb F (nI c) q)) : zMk x (fun q => ∃ p, p < nP ∧ m.testBit p = true ∧ mPm F nA q p) := by
  subst hi
  refine f.cg fun q => ?_
  constructor
  · rintro ⟨hq, hs, hn⟩
    obtain ⟨w, hw, ew⟩ := hB.2.1 q hq
    have key : ∀ w, w < 16 → ∀ c, c < 16 → w &&& c ≠ 0 → ∃ v, v < 4 ∧ w.testBit v = true ∧ c.testBit v = true := by decide +kernel
    have h0 : w &&& c ≠ 0 := fun e => hn (by rw [ew, nI_andN, e]; exact nI_0)
    obtain ⟨v, hv, b1, b2⟩ := key w hw c h.1 h0
    obtain ⟨p, a1, a2, a3⟩ := (h.2 v hv).mp b2
    refine ⟨p, a1, a2, hq, hs, ?_⟩
    rw [ew, a3]
    exact (zIn_nat (by omega) (by omega)).mpr b1
  · rintro ⟨p, a1, a2, hq, hs, hz⟩
    obtain ⟨w, hw, ew⟩ := hB.2.1 q hq
    obtain ⟨v, hv, ev⟩ := hB.1 p a1
    refine ⟨hq, hs, fun e => ?_⟩
    rw [ew, ev] at hz
    have b1 := (zIn_nat (by omega) (by omega)).mp hz
    have b2 := (h.2 v hv).mpr ⟨p, a1, a2, ev⟩
    rw [ew, nI_andN, ← nI_0, nI_eq (Nat.lt_of_le_of_lt Nat.and_le_left (by omega)) (by decide)] at e
    have := congrArg (fun z => z.testBit v) e
    simp only [Nat.testBit_and, b1, b2, Nat.zero_testBit] at this
    exact absurd this (by decide)
end ZVS
set_option maxRecDepth 100000 in
set_option maxHeartbeats 4000000 in
theorem k_X5_withOneMore {g : zG} {σ : zS} (a1 : Int32) (m : Nat) (hm : m < 32) (pm : Nat → Nat → Prop) (A : Nat → Prop) (p : Nat) (hx : zRc a1 pm A) (ha : ∀ a, a < 5 → (zIn (nI m) (nI a) ↔ pm a p)) (hA : ¬ A p) : Ct g 11 yX5_withOneMore cX5_withOneMore 5 (some FieldType.int) 0 0 [.int (a1), .int (nI (m))] σ (qR (fun v => ∃ x : Int32, v = some (.int x) ∧ zRc x pm (fun q => A q ∨ q = p)) σ) zNo := by
  refine Ct.of (lv := [(0, .int (a1)), (1, .int (nI (m)))]) (by decide) (Nat.le_of_ble_eq_true rfl) rfl ?_
  intro κ X E B _
  have X : zX g κ RX5 cX5_withOneMore 5 := X
  refine V_iload_n X dX5_withOneMore_0 0 rfl ?_
  refine V_istore_n X [(2, .int (a1)), (0, .int (a1)), (1, .int (nI (m)))] dX5_withOneMore_1 (by decide) rfl ?_
  refine V_iconst (v := nI 0) X dX5_withOneMore_2 (by decide) ?_
  refine V_istore_n X [(3, .int (nI (0))), (2, .int (a1)), (0, .int (a1)), (1, .int (nI (m)))] dX5_withOneMore_3 (by decide) rfl ?_
  have L4 : ∀ (n4 : Nat) (i4 : Nat) (x4_2 : Int32), n4 = 32 - i4 → i4 ≤ 32 → zWm a1 (nI m) x4_2 i4 0 → V g κ 5 0 0 σ 4 [(3, .int (nI (i4))), (2, .int (x4_2)), (0, .int (a1)), (1, .int (nI (m)))] [] := by
    intro n4
    induction n4 using Nat.strongRecOn with
    | ind n4 ih4 =>
      intro i4 x4_2 hn4 hi4 hv4_0
      refine V_iload_n X dX5_withOneMore_4 0 rfl ?_
      refine V_bipush (v := nI 32) X dX5_withOneMore_5 (by decide) ?_
      refine V_icmpgeN X (by omega) (by omega) (tgt := 66) dX5_withOneMore_7 (by decide) (fun h1 => ?_) (fun h1 => ?_)
      · -- 7 true
        refine V_iload_n X dX5_withOneMore_66 1 rfl ?_
        exact V_iret X E (Nat.zero_le _) (Nat.zero_le _) ⟨⟨_, rfl, (zWm_end (by rw [← show i4 = 32 by omega]; exact hv4_0) hx ha hA)⟩, rfl⟩ dX5_withOneMore_67
      · -- 7 false
        refine V_iload_n X dX5_withOneMore_10 2 rfl ?_
        refine V_iload_n X dX5_withOneMore_11 0 rfl ?_
        refine V_callS (rest := []) X E.room ml_X5_102 st_X5_has (by omega) (by decide) (k_X5_has (σ := σ) (a1) (nI (i4))) rfl rfl (Nat.le_of_ble_eq_true rfl) ⟨Nat.le_refl _, Nat.le_refl _⟩ dX5_withOneMore_12 (fun _ _ h => False.elim h) (fun v12 σ' hp12 => ?_)
        obtain ⟨hp12, e9hp12⟩ := hp12
        rw [e9hp12]
        obtain ⟨r2, rfl, hr2, fr2⟩ := hp12
        show V g κ 5 0 0 σ 15 [(3, .int (nI (i4))), (2, .int (x4_2)), (0, .int (a1)), (1, .int (nI (m)))] [.int (r2)]
        refine V_ifne X (tgt := 21) dX5_withOneMore_15 (by decide) (fun h3 => ?_) (fun h3 => ?_)
        · -- 15 true
          have zh3 := fr2.mp h3
          refine V_iconst (v := nI 0) X dX5_withOneMore_21 (by decide) ?_
          refine V_istore X [(4, .int (nI (0))), (3, .int (nI (i4))), (2, .int (x4_2)), (0, .int (a1)), (1, .int (nI (m)))] dX5_withOneMore_22 (by decide) rfl ?_
          have L24 : ∀ (n24 : Nat) (i24 : Nat) (x24_2 : Int32), n24 = 5 - i24 → i24 ≤ 5 → zWm a1 (nI m) x24_2 i4 i24 → V g κ 5 0 0 σ 24 [(4, .int (nI (i24))), (3, .int (nI (i4))), (2, .int (x24_2)), (0, .int (a1)), (1, .int (nI (m)))] [] := by
            intro n24
            induction n24 using Nat.strongRecOn with
            | ind n24 ih24 =>
              intro i24 x24_2 hn24 hi24 hv24_0
              refine V_iload X dX5_withOneMore_24 0 rfl ?_
              refine V_iconst (v := nI 5) X dX5_withOneMore_26 (by decide) ?_
              refine V_icmpgeN X (by omega) (by omega) (tgt := 60) dX5_withOneMore_27 (by decide) (fun h4 => ?_) (fun h4 => ?_)
              · -- 27 true
                refine V_iinc X (nI (i4 + 1)) [(3, .int (nI (i4 + 1))), (4, .int (nI (i24))), (2, .int (x24_2)), (0, .int (a1)), (1, .int (nI (m)))] dX5_withOneMore_60 1 rfl (zinc _) (by decide) rfl ?_
                refine V_goto (tgt := 4) X dX5_withOneMore_63 (by decide) ?_
                exact V.sub [0, 2, 3, 4] rfl (ih4 _ (by omega) (i4 + 1) x24_2 rfl (by omega) (zWm_next (by rw [← show i24 = 5 by omega]; exact hv24_0)))
              · -- 27 false
                refine V_iload_n X dX5_withOneMore_30 4 rfl ?_
                refine V_iload_n X dX5_withOneMore_31 1 rfl ?_
                refine V_iconst (v := (-1)) X dX5_withOneMore_32 (by decide) ?_
                refine V_ixor X dX5_withOneMore_33 (V.topi (fun w5 ew5 => ?_))
                refine V_iandL X (by omega) dX5_withOneMore_34 (fun j6 hj6 ej6 => ?_)
                refine V_iload X dX5_withOneMore_35 0 rfl ?_
                refine V_callS (rest := []) X E.room ml_X5_102 st_X5_has (by omega) (by decide) (k_X5_has (σ := σ) (nI (j6)) (nI (i24))) rfl rfl (Nat.le_of_ble_eq_true rfl) ⟨Nat.le_refl _, Nat.le_refl _⟩ dX5_withOneMore_37 (fun _ _ h => False.elim h) (fun v37 σ' hp37 => ?_)
                obtain ⟨hp37, e9hp37⟩ := hp37
                rw [e9hp37]
                obtain ⟨r7, rfl, hr7, fr7⟩ := hp37
                show V g κ 5 0 0 σ 40 [(4, .int (nI (i24))), (3, .int (nI (i4))), (2, .int (x24_2)), (0, .int (a1)), (1, .int (nI (m)))] [.int (r7)]
                refine V_ifeq X (tgt := 54) dX5_withOneMore_40 (by decide) (fun h8 => ?_) (fun h8 => ?_)
                · -- 40 true
                  have zh8 := mt fr7.mpr (not_not_intro h8)
                  refine V_iinc X (nI (i24 + 1)) [(4, .int (nI (i24 + 1))), (3, .int (nI (i4))), (2, .int (x24_2)), (0, .int (a1)), (1, .int (nI (m)))] dX5_withOneMore_54 0 rfl (zinc _) (by decide) rfl ?_
                  refine V_goto (tgt := 24) X dX5_withOneMore_57 (by decide) ?_
                  exact V.sub [0, 1, 2, 3, 4] rfl (ih24 _ (by omega) (i24 + 1) x24_2 rfl (by omega) (zWm_no hv24_0 (fun q => zh8 ((zless_iff (a := i24) hm (by omega) (by omega) ej6 ew5).mpr q.2))))
                · -- 40 false
                  have zh8 := fr7.mp h8
                  refine V_iload_n X dX5_withOneMore_43 2 rfl ?_
                  refine V_iconst (v := nI 1) X dX5_withOneMore_44 (by decide) ?_
                  refine V_iload_n X dX5_withOneMore_45 1 rfl ?_
                  refine V_iconst (v := nI 1) X dX5_withOneMore_46 (by decide) ?_
                  refine V_iload X dX5_withOneMore_47 0 rfl ?_
                  refine V_ishl1 X (by omega) dX5_withOneMore_49 ?_
                  refine V_iorN X dX5_withOneMore_50 ?_
                  refine V_ishl X dX5_withOneMore_51 (V.topi (fun w9 ew9 => ?_))
                  refine V_ior X dX5_withOneMore_52 (V.topi (fun w10 ew10 => ?_))
                  refine V_istore_n X [(2, .int (w10)), (4, .int (nI (i24))), (3, .int (nI (i4))), (0, .int (a1)), (1, .int (nI (m)))] dX5_withOneMore_53 (by decide) rfl ?_
                  refine V_iinc X (nI (i24 + 1)) [(4, .int (nI (i24 + 1))), (2, .int (w10)), (3, .int (nI (i4))), (0, .int (a1)), (1, .int (nI (m)))] dX5_withOneMore_54 1 rfl (zinc _) (by decide) rfl ?_
                  refine V_goto (tgt := 24) X dX5_withOneMore_57 (by decide) ?_
                  exact V.sub [0, 2, 1, 3, 4] rfl (ih24 _ (by omega) (i24 + 1) w10 rfl (by omega) (zWm_yes hv24_0 (by omega) (by omega) zh3 ((zless_iff (a := i24) hm (by omega) (by omega) ej6 ew5).mp zh8).1 ((zless_iff (a := i24) hm (by omega) (by omega) ej6 ew5).mp zh8).2 (by rw [ew10, ew9])))
          exact L24 _ 0 x4_2 rfl (by omega) (hv4_0)
        · -- 15 false
          have zh3 := mt fr2.mpr (not_not_intro h3)
          refine V_goto (tgt := 60) X dX5_withOneMore_18 (by decide) ?_
          refine V_iinc X (nI (i4 + 1)) [(3, .int (nI (i4 + 1))), (2, .int (x4_2)), (0, .int (a1)), (1, .int (nI (m)))] dX5_withOneMore_60 0 rfl (zinc _) (by decide) rfl ?_
          refine V_goto (tgt := 4) X dX5_withOneMore_63 (by decide) ?_
          exact V.sub [0, 1, 2, 3] rfl (ih4 _ (by omega) (i4 + 1) x4_2 rfl (by omega) (zWm_skip hv4_0 zh3))
  exact L4 _ 0 a1 rfl (by omega) (zWm_0)
set_option maxRecDepth 100000 in
set_option maxHeartbeats 4000000 in
theorem k_X5_filled {g : zG} {t : Nat × Nat} {X0 : Nat} {σ0 : Nat → Option va_E} {F : Nat → Nat → Int32} (hX : g.2.1.size ≤ X0) {nP nS nA nC nT : Nat} (hI : cI nP nS nA nC nT F) (m : Nat) (hm : m < 128) (hB : cBd nP nS nA F) : Ct g 12 yX5_filled cX5_filled 5 (some FieldType.int) 0 0 [.ref (X0 + 0), .int (nI (m))] (t, cW g X0 F σ0) (qR (fun v => ∃ x : Int32, v = some (.int x) ∧ ∃ k : Nat, x = nI k ∧ MxK (mPm F nA) (fun q => q < nP ∧ m.testBit q = true) k) (t, cW g X0 F σ0)) zNo := by
  refine Ct.of (lv := [(0, .ref (X0 + 0)), (1, .int (nI (m)))]) (by decide) (Nat.le_of_ble_eq_true rfl) rfl ?_
  intro κ X E B _
  have X : zX g κ RX5 cX5_filled 5 := X
  obtain ⟨b1, b2, b3, b4, b5⟩ := hI.bnd
  refine V_iconst (v := nI 1) X dX5_filled_0 (by decide) ?_
  refine V_istore_n X [(2, .int (nI (1))), (0, .ref (X0 + 0)), (1, .int (nI (m)))] dX5_filled_1 (by decide) rfl ?_
  refine V_iconst (v := nI 0) X dX5_filled_2 (by decide) ?_
  refine V_istore_n X [(3, .int (nI (0))), (2, .int (nI (1))), (0, .ref (X0 + 0)), (1, .int (nI (m)))] dX5_filled_3 (by decide) rfl ?_
  have L4 : ∀ (n4 : Nat) (i4 : Nat) (x4_2 : Int32), n4 = nP - i4 → i4 ≤ nP → zRc x4_2 (mPm F nA) (fun q => q < i4 ∧ m.testBit q = true) → V g κ 5 0 0 (t, cW g X0 F σ0) 4 [(3, .int (nI (i4))), (2, .int (x4_2)), (0, .ref (X0 + 0)), (1, .int (nI (m)))] [] := by
    intro n4
    induction n4 using Nat.strongRecOn with
    | ind n4 ih4 =>
      intro i4 x4_2 hn4 hi4 hv4_0
      refine V_iload_n X dX5_filled_4 0 rfl ?_
      refine V_aload_n X dX5_filled_5 2 rfl ?_
      refine C_getf X fl_X5_10 0 (by decide) rfl rfl dX5_filled_6 ?_
      refine C_getfN (z := nI (nP)) X fl_X5_48 1 (by decide) rfl rfl hI.f1_5 dX5_filled_9 ?_
      refine V_icmpgeN X (by omega) (by omega) (tgt := 52) dX5_filled_12 (by decide) (fun h1 => ?_) (fun h1 => ?_)
      · -- 12 true
        refine V_iconst (v := nI 0) X dX5_filled_52 (by decide) ?_
        refine V_istore_n X [(3, .int (nI (0))), (2, .int (x4_2)), (0, .ref (X0 + 0)), (1, .int (nI (m)))] dX5_filled_53 (by decide) rfl ?_
        refine V_iconst (v := nI 0) X dX5_filled_54 (by decide) ?_
        refine V_istore X [(4, .int (nI (0))), (3, .int (nI (0))), (2, .int (x4_2)), (0, .ref (X0 + 0)), (1, .int (nI (m)))] dX5_filled_55 (by decide) rfl ?_
        have L57 : ∀ (n57 : Nat) (i57 : Nat) (y57_3 : Nat), n57 = 32 - i57 → i57 ≤ 32 → zMx x4_2 i57 y57_3 → V g κ 5 0 0 (t, cW g X0 F σ0) 57 [(4, .int (nI (i57))), (3, .int (nI (y57_3))), (2, .int (x4_2)), (0, .ref (X0 + 0)), (1, .int (nI (m)))] [] := by
          intro n57
          induction n57 using Nat.strongRecOn with
          | ind n57 ih57 =>
            intro i57 y57_3 hn57 hi57 hy57_3
            refine V_iload X dX5_filled_57 0 rfl ?_
            refine V_bipush (v := nI 32) X dX5_filled_59 (by decide) ?_
            refine V_icmpgeN X (by omega) (by omega) (tgt := 89) dX5_filled_61 (by decide) (fun h2 => ?_) (fun h2 => ?_)
            · -- 61 true
              refine V_iload_n X dX5_filled_89 1 rfl ?_
              exact V_iret X E (Nat.zero_le _) (Nat.zero_le _) ⟨⟨_, rfl, ⟨_, rfl, zMx_end (by rw [← show i57 = 32 by omega]; exact hy57_3) (by rw [← show i4 = nP by omega]; exact hv4_0)⟩⟩, rfl⟩ dX5_filled_90
            · -- 61 false
              refine V_iload_n X dX5_filled_64 2 rfl ?_
              refine V_iload X dX5_filled_65 0 rfl ?_
              refine V_callS (rest := []) X E.room ml_X5_102 st_X5_has (by omega) (by decide) (k_X5_has (σ := (t, cW g X0 F σ0)) (x4_2) (nI (i57))) rfl rfl (Nat.le_of_ble_eq_true rfl) ⟨Nat.le_refl _, Nat.le_refl _⟩ dX5_filled_67 (fun _ _ h => False.elim h) (fun v67 σ' hp67 => ?_)
              obtain ⟨hp67, rfl⟩ := hp67
              obtain ⟨r3, rfl, hr3, fr3⟩ := hp67
              show V g κ 5 0 0 (t, cW g X0 F σ0) 70 [(4, .int (nI (i57))), (3, .int (nI (y57_3))), (2, .int (x4_2)), (0, .ref (X0 + 0)), (1, .int (nI (m)))] [.int (r3)]
              refine V_ifeq X (tgt := 83) dX5_filled_70 (by decide) (fun h4 => ?_) (fun h4 => ?_)
              · -- 70 true
                have zh4 := mt fr3.mpr (not_not_intro h4)
                refine V_iinc X (nI (i57 + 1)) [(4, .int (nI (i57 + 1))), (3, .int (nI (y57_3))), (2, .int (x4_2)), (0, .ref (X0 + 0)), (1, .int (nI (m)))] dX5_filled_83 0 rfl (zinc _) (by decide) rfl ?_
                refine V_goto (tgt := 57) X dX5_filled_86 (by decide) ?_
                exact V.sub [0, 1, 2, 3, 4] rfl (ih57 _ (by omega) (i57 + 1) (y57_3) rfl (by omega) (zMx_no hy57_3 zh4))
              · -- 70 false
                have zh4 := fr3.mp h4
                refine V_iload_n X dX5_filled_73 1 rfl ?_
                refine V_iload X dX5_filled_74 0 rfl ?_
                refine V_callS (rest := [.int (nI (y57_3))]) X E.room ml_X5_215 st_J6_bitCount_0f7a4 (by omega) (by decide) (k_J6_bitCount_0f7a4 (σ := (t, cW g X0 F σ0)) (nI (i57))) rfl rfl (Nat.le_of_ble_eq_true rfl) ⟨Nat.le_refl _, Nat.le_refl _⟩ dX5_filled_76 (fun _ _ h => False.elim h) (fun v76 σ' hp76 => ?_)
                obtain ⟨hp76, rfl⟩ := hp76
                cases (hp76 : _ = some (Value.int (zbc (nI (i57)))))
                show V g κ 5 0 0 (t, cW g X0 F σ0) 79 [(4, .int (nI (i57))), (3, .int (nI (y57_3))), (2, .int (x4_2)), (0, .ref (X0 + 0)), (1, .int (nI (m)))] [.int (zbc (nI (i57))), .int (nI (y57_3))]
                refine V_mmax X E.room (Nat.le_refl _) (Nat.le_refl _) (by decide) ml_X5_324 st_J9_max_7cf53 rfl rfl (Nat.le_of_ble_eq_true rfl) dX5_filled_79 ?_
                rw [zmx_n (zMx_le hy57_3) (show i57 < 32 by omega)]
                show V g κ 5 0 0 (t, cW g X0 F σ0) 82 [(4, .int (nI (i57))), (3, .int (nI (y57_3))), (2, .int (x4_2)), (0, .ref (X0 + 0)), (1, .int (nI (m)))] [.int (nI (max (y57_3) (zpc i57)))]
                refine V_istore_n X [(3, .int (nI (max (y57_3) (zpc i57)))), (4, .int (nI (i57))), (2, .int (x4_2)), (0, .ref (X0 + 0)), (1, .int (nI (m)))] dX5_filled_82 (by decide) rfl ?_
                refine V_iinc X (nI (i57 + 1)) [(4, .int (nI (i57 + 1))), (3, .int (nI (max (y57_3) (zpc i57)))), (2, .int (x4_2)), (0, .ref (X0 + 0)), (1, .int (nI (m)))] dX5_filled_83 1 rfl (zinc _) (by decide) rfl ?_
                refine V_goto (tgt := 57) X dX5_filled_86 (by decide) ?_
                exact V.sub [0, 1, 2, 3, 4] rfl (ih57 _ (by omega) (i57 + 1) (max (y57_3) (zpc i57)) rfl (by omega) (zMx_yes hy57_3 (by omega) zh4 rfl))
        exact L57 _ 0 (0) rfl (by omega) (zMx_0)
      · -- 12 false
        refine V_iload_n X dX5_filled_15 3 rfl ?_
        refine V_iload_n X dX5_filled_16 0 rfl ?_
        refine V_callS (rest := []) X E.room ml_X5_102 st_X5_has (by omega) (by decide) (k_X5_has (σ := (t, cW g X0 F σ0)) (nI (m)) (nI (i4))) rfl rfl (Nat.le_of_ble_eq_true rfl) ⟨Nat.le_refl _, Nat.le_refl _⟩ dX5_filled_17 (fun _ _ h => False.elim h) (fun v17 σ' hp17 => ?_)
        obtain ⟨hp17, rfl⟩ := hp17
        obtain ⟨r5, rfl, hr5, fr5⟩ := hp17
        show V g κ 5 0 0 (t, cW g X0 F σ0) 20 [(3, .int (nI (i4))), (2, .int (x4_2)), (0, .ref (X0 + 0)), (1, .int (nI (m)))] [.int (r5)]
        refine V_ifeq X (tgt := 46) dX5_filled_20 (by decide) (fun h6 => ?_) (fun h6 => ?_)
        · -- 20 true
          have zh6 := mt fr5.mpr (not_not_intro h6)
          refine V_iinc X (nI (i4 + 1)) [(3, .int (nI (i4 + 1))), (2, .int (x4_2)), (0, .ref (X0 + 0)), (1, .int (nI (m)))] dX5_filled_46 0 rfl (zinc _) (by decide) rfl ?_
          refine V_goto (tgt := 4) X dX5_filled_49 (by decide) ?_
          exact V.sub [0, 1, 2, 3] rfl (ih4 _ (by omega) (i4 + 1) x4_2 rfl (by omega) (zfi_no hv4_0 zh6 hm (by omega)))
        · -- 20 false
          have zh6 := fr5.mp h6
          refine V_iload_n X dX5_filled_23 1 rfl ?_
          refine V_aload_n X dX5_filled_24 2 rfl ?_
          refine C_getf X fl_X5_19 0 (by decide) rfl rfl dX5_filled_25 ?_
          refine V_iconst (v := nI 1) X dX5_filled_28 (by decide) ?_
          refine V_aload_n X dX5_filled_29 2 rfl ?_
          refine C_getf X fl_X5_10 0 (by decide) rfl rfl dX5_filled_30 ?_
          refine C_getf X fl_X5_154 1 (by decide) rfl rfl dX5_filled_33 ?_
          refine V_iload_n X dX5_filled_36 0 rfl ?_
          refine C_iald X (N := 7) 2 (by decide) (i4) rfl (by omega) (by decide) rfl dX5_filled_37 ?_
          obtain ⟨v7, hv7, ev7⟩ := hB.1 (i4) (by omega)
          rw [ev7]
          refine V_ishl1 X (by omega) dX5_filled_38 ?_
          refine V_callV (rest := [.int (x4_2)]) X E.room ml_X5_171 in_X1_ableOfAny (ci := 3) rfl se_X1_ableOfAny (C_recv (q := 7) (by decide) rfl) (by decide) (by decide) (k_X1_ableOfAny hX hI (nI (2 ^ (v7)))) rfl rfl (Nat.le_of_ble_eq_true rfl) ⟨Nat.le_refl _, Nat.le_refl _⟩ dX5_filled_39 (fun _ _ h => False.elim h) (fun v39 σ' hp39 => ?_)
          obtain ⟨⟨r8, rfl, fr8⟩, rfl⟩ := hp39
          obtain ⟨mk9, hmk9, rfl, amk9⟩ := zMk_32 (mPm_of hB hv7 ev7 fr8) (fun q hq => by have := hq.1; omega)
          show V g κ 5 0 0 (t, cW g X0 F σ0) 42 [(3, .int (nI (i4))), (2, .int (x4_2)), (0, .ref (X0 + 0)), (1, .int (nI (m)))] [.int (nI (mk9)), .int (x4_2)]
          refine V_callS (rest := []) X E.room ml_X5_321 st_X5_withOneMore (by omega) (by decide) (k_X5_withOneMore (σ := (t, cW g X0 F σ0)) (x4_2) (mk9) (by omega) (mPm F nA) (fun q => q < i4 ∧ m.testBit q = true) i4 hv4_0 amk9 (fun q => absurd q.1 (Nat.lt_irrefl _))) rfl rfl (Nat.le_of_ble_eq_true rfl) ⟨Nat.le_refl _, Nat.le_refl _⟩ dX5_filled_42 (fun _ _ h => False.elim h) (fun v42 σ' hp42 => ?_)
          obtain ⟨hp42, rfl⟩ := hp42
          obtain ⟨r10, rfl, fr10⟩ := hp42
          show V g κ 5 0 0 (t, cW g X0 F σ0) 45 [(3, .int (nI (i4))), (2, .int (x4_2)), (0, .ref (X0 + 0)), (1, .int (nI (m)))] [.int (r10)]
          refine V_istore_n X [(2, .int (r10)), (3, .int (nI (i4))), (0, .ref (X0 + 0)), (1, .int (nI (m)))] dX5_filled_45 (by decide) rfl ?_
          refine V_iinc X (nI (i4 + 1)) [(3, .int (nI (i4 + 1))), (2, .int (r10)), (0, .ref (X0 + 0)), (1, .int (nI (m)))] dX5_filled_46 1 rfl (zinc _) (by decide) rfl ?_
          refine V_goto (tgt := 4) X dX5_filled_49 (by decide) ?_
          exact V.sub [0, 1, 2, 3] rfl (ih4 _ (by omega) (i4 + 1) r10 rfl (by omega) (zfi_yes fr10 zh6 hm (by omega)))
  exact L4 _ 0 (nI (1)) rfl (by omega) (zRc_1 (fun q h => absurd h.1 (Nat.not_lt_zero q)))
set_option maxRecDepth 100000 in
set_option maxHeartbeats 4000000 in
theorem k_X5_excess {g : zG} {t : Nat × Nat} {X0 : Nat} {σ0 : Nat → Option va_E} {F : Nat → Nat → Int32} (hX : g.2.1.size ≤ X0) {nP nS nA nC nT : Nat} (hI : cI nP nS nA nC nT F) (m : Nat) (hm : m < 128) (hB : cBd nP nS nA F) : Ct g 12 yX5_excess cX5_excess 4 (some FieldType.int) 0 0 [.ref (X0 + 0), .int (nI (m))] (t, cW g X0 F σ0) (qR (fun v => ∃ x : Int32, v = some (.int x) ∧ zEk (mPm F nA) nP m x) (t, cW g X0 F σ0)) zNo := by
  refine Ct.of (lv := [(0, .ref (X0 + 0)), (1, .int (nI (m)))]) (by decide) (Nat.le_of_ble_eq_true rfl) rfl ?_
  intro κ X E B _
  have X : zX g κ RX5 cX5_excess 4 := X
  obtain ⟨b1, b2, b3, b4, b5⟩ := hI.bnd
  refine V_iconst (v := nI 0) X dX5_excess_0 (by decide) ?_
  refine V_istore_n X [(2, .int (nI (0))), (0, .ref (X0 + 0)), (1, .int (nI (m)))] dX5_excess_1 (by decide) rfl ?_
  refine V_iconst (v := nI 0) X dX5_excess_2 (by decide) ?_
  refine V_istore_n X [(3, .int (nI (0))), (2, .int (nI (0))), (0, .ref (X0 + 0)), (1, .int (nI (m)))] dX5_excess_3 (by decide) rfl ?_
  have L4 : ∀ (n4 : Nat) (i4 : Nat) (y4_2 : Nat), n4 = nP - i4 → i4 ≤ nP → zVs F m i4 y4_2 → V g κ 4 0 0 (t, cW g X0 F σ0) 4 [(3, .int (nI (i4))), (2, .int (nI (y4_2))), (0, .ref (X0 + 0)), (1, .int (nI (m)))] [] := by
    intro n4
    induction n4 using Nat.strongRecOn with
    | ind n4 ih4 =>
      intro i4 y4_2 hn4 hi4 hy4_2
      refine V_iload_n X dX5_excess_4 0 rfl ?_
      refine V_aload_n X dX5_excess_5 2 rfl ?_
      refine C_getf X fl_X5_10 0 (by decide) rfl rfl dX5_excess_6 ?_
      refine C_getfN (z := nI (nP)) X fl_X5_48 1 (by decide) rfl rfl hI.f1_5 dX5_excess_9 ?_
      refine V_icmpgeN X (by omega) (by omega) (tgt := 43) dX5_excess_12 (by decide) (fun h1 => ?_) (fun h1 => ?_)
      · -- 12 true
        refine V_iload_n X dX5_excess_43 3 rfl ?_
        refine V_callS (rest := []) X E.room ml_X5_215 st_J6_bitCount_0f7a4 (by omega) (by decide) (k_J6_bitCount_0f7a4 (σ := (t, cW g X0 F σ0)) (nI (m))) rfl rfl (Nat.le_of_ble_eq_true rfl) ⟨Nat.le_refl _, Nat.le_refl _⟩ dX5_excess_44 (fun _ _ h => False.elim h) (fun v44 σ' hp44 => ?_)
        obtain ⟨hp44, rfl⟩ := hp44
        cases (hp44 : _ = some (Value.int (zbc (nI (m)))))
        show V g κ 4 0 0 (t, cW g X0 F σ0) 47 [(3, .int (nI (i4))), (2, .int (nI (y4_2))), (0, .ref (X0 + 0)), (1, .int (nI (m)))] [.int (zbc (nI (m)))]
        refine V_aload_n X dX5_excess_47 2 rfl ?_
        refine C_getf X fl_X5_19 0 (by decide) rfl rfl dX5_excess_48 ?_
        refine V_iload_n X dX5_excess_51 1 rfl ?_
        refine V_callV (rest := [.int (zbc (nI (m)))]) X E.room ml_X5_171 in_X1_ableOfAny (ci := 3) rfl se_X1_ableOfAny (C_recv (q := 7) (by decide) rfl) (by decide) (by decide) (k_X1_ableOfAny hX hI (nI (y4_2))) rfl rfl (Nat.le_of_ble_eq_true rfl) ⟨Nat.le_refl _, Nat.le_refl _⟩ dX5_excess_52 (fun _ _ h => False.elim h) (fun v52 σ' hp52 => ?_)
        obtain ⟨⟨r2, rfl, fr2⟩, rfl⟩ := hp52
        show V g κ 4 0 0 (t, cW g X0 F σ0) 55 [(3, .int (nI (i4))), (2, .int (nI (y4_2))), (0, .ref (X0 + 0)), (1, .int (nI (m)))] [.int (r2), .int (zbc (nI (m)))]
        refine V_callS (rest := [.int (zbc (nI (m)))]) X E.room ml_X5_215 st_J6_bitCount_0f7a4 (by omega) (by decide) (k_J6_bitCount_0f7a4 (σ := (t, cW g X0 F σ0)) (r2)) rfl rfl (Nat.le_of_ble_eq_true rfl) ⟨Nat.le_refl _, Nat.le_refl _⟩ dX5_excess_55 (fun _ _ h => False.elim h) (fun v55 σ' hp55 => ?_)
        obtain ⟨hp55, rfl⟩ := hp55
        cases (hp55 : _ = some (Value.int (zbc (r2))))
        show V g κ 4 0 0 (t, cW g X0 F σ0) 58 [(3, .int (nI (i4))), (2, .int (nI (y4_2))), (0, .ref (X0 + 0)), (1, .int (nI (m)))] [.int (zbc (r2)), .int (zbc (nI (m)))]
        refine V_isub X dX5_excess_58 (V.topi (fun w3 ew3 => ?_))
        exact V_iret X E (Nat.zero_le _) (Nat.zero_le _) ⟨⟨_, rfl, ⟨_, zVs_end hB hm hy4_2 (show i4 = nP by omega) fr2, by rw [ew3]⟩⟩, rfl⟩ dX5_excess_59
      · -- 12 false
        refine V_iload_n X dX5_excess_15 3 rfl ?_
        refine V_iload_n X dX5_excess_16 0 rfl ?_
        refine V_callS (rest := []) X E.room ml_X5_102 st_X5_has (by omega) (by decide) (k_X5_has (σ := (t, cW g X0 F σ0)) (nI (m)) (nI (i4))) rfl rfl (Nat.le_of_ble_eq_true rfl) ⟨Nat.le_refl _, Nat.le_refl _⟩ dX5_excess_17 (fun _ _ h => False.elim h) (fun v17 σ' hp17 => ?_)
        obtain ⟨hp17, rfl⟩ := hp17
        obtain ⟨r4, rfl, hr4, fr4⟩ := hp17
        show V g κ 4 0 0 (t, cW g X0 F σ0) 20 [(3, .int (nI (i4))), (2, .int (nI (y4_2))), (0, .ref (X0 + 0)), (1, .int (nI (m)))] [.int (r4)]
        refine V_ifeq X (tgt := 37) dX5_excess_20 (by decide) (fun h5 => ?_) (fun h5 => ?_)
        · -- 20 true
          have zh5 := mt fr4.mpr (not_not_intro h5)
          refine V_iinc X (nI (i4 + 1)) [(3, .int (nI (i4 + 1))), (2, .int (nI (y4_2))), (0, .ref (X0 + 0)), (1, .int (nI (m)))] dX5_excess_37 0 rfl (zinc _) (by decide) rfl ?_
          refine V_goto (tgt := 4) X dX5_excess_40 (by decide) ?_
          exact V.sub [0, 1, 2, 3] rfl (ih4 _ (by omega) (i4 + 1) (y4_2) rfl (by omega) (zVs_no hy4_2 zh5 hm (by omega)))
        · -- 20 false
          have zh5 := fr4.mp h5
          refine V_iload_n X dX5_excess_23 1 rfl ?_
          refine V_iconst (v := nI 1) X dX5_excess_24 (by decide) ?_
          refine V_aload_n X dX5_excess_25 2 rfl ?_
          refine C_getf X fl_X5_10 0 (by decide) rfl rfl dX5_excess_26 ?_
          refine C_getf X fl_X5_154 1 (by decide) rfl rfl dX5_excess_29 ?_
          refine V_iload_n X dX5_excess_32 0 rfl ?_
          refine C_iald X (N := 7) 2 (by decide) (i4) rfl (by omega) (by decide) rfl dX5_excess_33 ?_
          obtain ⟨v6, hv6, ev6⟩ := hB.1 (i4) (by omega)
          rw [ev6]
          refine V_ishl1 X (by omega) dX5_excess_34 ?_
          refine V_iorN X dX5_excess_35 ?_
          refine V_istore_n X [(2, .int (nI ((y4_2) ||| (2 ^ (v6))))), (3, .int (nI (i4))), (0, .ref (X0 + 0)), (1, .int (nI (m)))] dX5_excess_36 (by decide) rfl ?_
          refine V_iinc X (nI (i4 + 1)) [(3, .int (nI (i4 + 1))), (2, .int (nI ((y4_2) ||| (2 ^ (v6))))), (0, .ref (X0 + 0)), (1, .int (nI (m)))] dX5_excess_37 1 rfl (zinc _) (by decide) rfl ?_
          refine V_goto (tgt := 4) X dX5_excess_40 (by decide) ?_
          exact V.sub [0, 1, 2, 3] rfl (ih4 _ (by omega) (i4 + 1) ((y4_2) ||| (2 ^ (v6))) rfl (by omega) (zVs_yes hy4_2 zh5 hv6 ev6 hm (by omega)))
  exact L4 _ 0 (0) rfl (by omega) (zVs_0)
set_option maxRecDepth 100000 in
set_option maxHeartbeats 4000000 in
theorem k_X5_lack {g : zG} {t : Nat × Nat} {X0 : Nat} {σ0 : Nat → Option va_E} {F : Nat → Nat → Int32} (hX : g.2.1.size ≤ X0) {nP nS nA nC nT : Nat} (hI : cI nP nS nA nC nT F) (m : Nat) (hm : m < 128) (hB : cBd nP nS nA F) : Ct g 13 yX5_lack cX5_lack 6 (some FieldType.int) 0 0 [.ref (X0 + 0), .int (nI (m))] (t, cW g X0 F σ0) (qR (fun v => ∃ x : Int32, v = some (.int x) ∧ ∃ (c : Nat) (e : Int32), c ≤ m ∧ x = nI c ∧ zLk (zEk (mPm F nA) nP) m (m + 1) c e) (t, cW g X0 F σ0)) zNo := by
  refine Ct.of (lv := [(0, .ref (X0 + 0)), (1, .int (nI (m)))]) (by decide) (Nat.le_of_ble_eq_true rfl) rfl ?_
  intro κ X E B _
  have X : zX g κ RX5 cX5_lack 6 := X
  obtain ⟨b1, b2, b3, b4, b5⟩ := hI.bnd
  refine V_iconst (v := nI 0) X dX5_lack_0 (by decide) ?_
  refine V_istore_n X [(2, .int (nI (0))), (0, .ref (X0 + 0)), (1, .int (nI (m)))] dX5_lack_1 (by decide) rfl ?_
  refine V_iconst (v := nI 0) X dX5_lack_2 (by decide) ?_
  refine V_istore_n X [(3, .int (nI (0))), (2, .int (nI (0))), (0, .ref (X0 + 0)), (1, .int (nI (m)))] dX5_lack_3 (by decide) rfl ?_
  refine V_iconst (v := nI 1) X dX5_lack_4 (by decide) ?_
  refine V_istore X [(4, .int (nI (1))), (3, .int (nI (0))), (2, .int (nI (0))), (0, .ref (X0 + 0)), (1, .int (nI (m)))] dX5_lack_5 (by decide) rfl ?_
  have L7 : ∀ (n7 : Nat) (i7 : Nat) (x7_3 : Int32) (y7_2 : Nat), n7 = (m + 1) - i7 → i7 ≤ (m + 1) → 1 ≤ i7 → (y7_2 ≤ m) → zLk (zEk (mPm F nA) nP) m i7 y7_2 x7_3 → V g κ 6 0 0 (t, cW g X0 F σ0) 7 [(4, .int (nI (i7))), (3, .int (x7_3)), (2, .int (nI (y7_2))), (0, .ref (X0 + 0)), (1, .int (nI (m)))] [] := by
    intro n7
    induction n7 using Nat.strongRecOn with
    | ind n7 ih7 =>
      intro i7 x7_3 y7_2 hn7 hi7 hl7 hy7_2 hv7_0
      refine V_iload X dX5_lack_7 0 rfl ?_
      refine V_iload_n X dX5_lack_9 4 rfl ?_
      refine V_icmpgtN X (by omega) (by omega) (tgt := 51) dX5_lack_10 (by decide) (fun h1 => ?_) (fun h1 => ?_)
      · -- 10 true
        refine V_iload_n X dX5_lack_51 2 rfl ?_
        exact V_iret X E (Nat.zero_le _) (Nat.zero_le _) ⟨⟨_, rfl, ⟨_, _, hy7_2, rfl, by rw [← show i7 = m + 1 by omega]; exact hv7_0⟩⟩, rfl⟩ dX5_lack_52
      · -- 10 false
        refine V_iload X dX5_lack_13 0 rfl ?_
        refine V_iload_n X dX5_lack_15 4 rfl ?_
        refine V_iconst (v := (-1)) X dX5_lack_16 (by decide) ?_
        refine V_ixor X dX5_lack_17 (V.topi (fun w2 ew2 => ?_))
        refine V_iandL X (by omega) dX5_lack_18 (fun j3 hj3 ej3 => ?_)
        refine V_ifeqN X (by omega) (tgt := 25) dX5_lack_19 (by decide) (fun h4 => ?_) (fun h4 => ?_)
        · -- 19 true
          refine V_aload_n X dX5_lack_25 3 rfl ?_
          refine V_iload X dX5_lack_26 0 rfl ?_
          refine V_callV (rest := []) X E.room ml_X5_198 in_X5_excess (ci := 7) rfl se_X5_excess (C_recv (q := 0) (by decide) rfl) (by decide) (by decide) (k_X5_excess hX hI (i7) (by omega) hB) rfl rfl (Nat.le_of_ble_eq_true rfl) ⟨Nat.le_refl _, Nat.le_refl _⟩ dX5_lack_28 (fun _ _ h => False.elim h) (fun v28 σ' hp28 => ?_)
          obtain ⟨hp28, rfl⟩ := hp28
          obtain ⟨r5, rfl, fr5⟩ := hp28
          show V g κ 6 0 0 (t, cW g X0 F σ0) 31 [(4, .int (nI (i7))), (3, .int (x7_3)), (2, .int (nI (y7_2))), (0, .ref (X0 + 0)), (1, .int (nI (m)))] [.int (r5)]
          refine V_istore X [(5, .int (r5)), (4, .int (nI (i7))), (3, .int (x7_3)), (2, .int (nI (y7_2))), (0, .ref (X0 + 0)), (1, .int (nI (m)))] dX5_lack_31 (by decide) rfl ?_
          refine V_iload X dX5_lack_33 0 rfl ?_
          refine V_iload_n X dX5_lack_35 2 rfl ?_
          refine V_icmple X (tgt := 45) dX5_lack_36 (by decide) (fun h6 => ?_) (fun h6 => ?_)
          · -- 36 true
            refine V_iinc X (nI (i7 + 1)) [(4, .int (nI (i7 + 1))), (5, .int (r5)), (3, .int (x7_3)), (2, .int (nI (y7_2))), (0, .ref (X0 + 0)), (1, .int (nI (m)))] dX5_lack_45 1 rfl (zinc _) (by decide) rfl ?_
            refine V_goto (tgt := 7) X dX5_lack_48 (by decide) ?_
            exact V.sub [0, 2, 3, 4, 5] rfl (ih7 _ (by omega) (i7 + 1) x7_3 (y7_2) rfl (by omega) (by omega) (by omega) (zLk_no hv7_0 fr5 (Int32.not_lt.mpr h6)))
          · -- 36 false
            refine V_iload X dX5_lack_39 1 rfl ?_
            refine V_istore_n X [(2, .int (nI (i7))), (5, .int (r5)), (4, .int (nI (i7))), (3, .int (x7_3)), (0, .ref (X0 + 0)), (1, .int (nI (m)))] dX5_lack_41 (by decide) rfl ?_
            refine V_iload X dX5_lack_42 1 rfl ?_
            refine V_istore_n X [(3, .int (r5)), (2, .int (nI (i7))), (5, .int (r5)), (4, .int (nI (i7))), (0, .ref (X0 + 0)), (1, .int (nI (m)))] dX5_lack_44 (by decide) rfl ?_
            refine V_iinc X (nI (i7 + 1)) [(4, .int (nI (i7 + 1))), (3, .int (r5)), (2, .int (nI (i7))), (5, .int (r5)), (0, .ref (X0 + 0)), (1, .int (nI (m)))] dX5_lack_45 3 rfl (zinc _) (by decide) rfl ?_
            refine V_goto (tgt := 7) X dX5_lack_48 (by decide) ?_
            exact V.sub [0, 1, 2, 4, 5] rfl (ih7 _ (by omega) (i7 + 1) r5 (i7) rfl (by omega) (by omega) (by omega) (zLk_yes hv7_0 fr5 ((zSb_iff ej3 ew2 (by omega)).mpr h4) (Int32.not_le.mp h6)))
        · -- 19 false
          refine V_goto (tgt := 45) X dX5_lack_22 (by decide) ?_
          refine V_iinc X (nI (i7 + 1)) [(4, .int (nI (i7 + 1))), (3, .int (x7_3)), (2, .int (nI (y7_2))), (0, .ref (X0 + 0)), (1, .int (nI (m)))] dX5_lack_45 0 rfl (zinc _) (by decide) rfl ?_
          refine V_goto (tgt := 7) X dX5_lack_48 (by decide) ?_
          exact V.sub [0, 1, 2, 3, 4] rfl (ih7 _ (by omega) (i7 + 1) x7_3 (y7_2) rfl (by omega) (by omega) (by omega) (zLk_skip hv7_0 (fun q => h4 ((zSb_iff ej3 ew2 (by omega)).mp q))))
  exact L7 _ 1 (nI (0)) (0) rfl (by omega) (by omega) (Nat.zero_le _) (zLk_0 (zEk_0))
