/-! ===== general rows ===== -/
theorem mFirst_ex {pm cl : Nat → Nat → Prop} (hs : ∀ p q, cl p q → cl q p) : ∀ (T : List Nat), T.Nodup → ∀ (R : Nat → Nat → Prop) (k : Nat) (g : Nat → Nat), mExt pm cl T R k g → ∃ h, mFirst pm cl T R k h := by
  intro T
  induction T with
  | nil => exact fun _ R k g _ => ⟨g, mFirst_nil⟩
  | cons p T ih =>
    intro hd R k g hg
    obtain ⟨hp, hT⟩ := List.nodup_cons.mp hd
    have g0 := (mExt_cons hs hp).mp hg
    have key : ∀ n i : Nat, n = g p - i → i ≤ g p → mNo pm cl T R k p i → ∃ h, mFirst pm cl (p :: T) R k h := by
      intro n
      induction n with
      | zero =>
        intro i hn hi hno
        obtain rfl : i = g p := by omega
        obtain ⟨h', hh⟩ := ih hT _ _ g g0.2.2.2.2
        exact ⟨_, mFirst_cons hs hp g0.1 hno g0.2.1 g0.2.2.1 g0.2.2.2.1 hh⟩
      | succ n ihn =>
        intro i hn hi hno
        rcases Classical.em (pm i p ∧ (∀ q, R i q → ¬ cl p q) ∧ mFr R i ≤ k ∧ ∃ g', mExt pm cl T (mAdd R i p) (k - mFr R i) g') with c | c
        · obtain ⟨c1, c2, c3, g', hg'⟩ := c
          obtain ⟨h', hh⟩ := ih hT _ _ g' hg'
          have := g0.1
          exact ⟨_, mFirst_cons hs hp (by omega) hno c1 c2 c3 hh⟩
        · exact ihn (i + 1) (by omega) (by omega) (mNo_s hs hp hno c)
    exact key _ 0 rfl (Nat.zero_le _) mNo_0
theorem mBst_ex {pm cl : Nat → Nat → Prop} {D : Nat → Prop} (hs : ∀ p q, cl p q → cl q p) (hD : ∀ p, D p → p < 7) : ∃ b h, mBst pm cl D b h := by
  rcases Classical.em (mFit pm cl D 5) with e | e
  · have low : ∀ n, mFit pm cl D n → ∃ k, k ≤ n ∧ mFit pm cl D k ∧ ∀ j, j < k → ¬ mFit pm cl D j := by
      intro n
      induction n using Nat.strongRecOn with
      | ind n ih =>
        intro hn
        rcases Classical.em (∃ j, j < n ∧ mFit pm cl D j) with ⟨j, hj, fj⟩ | no
        · obtain ⟨k, a, b, c⟩ := ih j hj fj
          exact ⟨k, by omega, b, c⟩
        · exact ⟨n, Nat.le_refl _, hn, fun j hj fj => no ⟨j, hj, fj⟩⟩
    obtain ⟨k, a, b, c⟩ := low 5 e
    obtain ⟨g, hg⟩ := (mFit_ext fun p => (dL_mem 7 0 p).trans ⟨fun q => q.2.2, fun q => ⟨Nat.zero_le _, by have := hD p q; omega, q⟩⟩).mpr b
    obtain ⟨h, hh⟩ := mFirst_ex hs _ (dL_nodup 7 0) _ _ g hg
    exact ⟨nI k, h, Or.inr ⟨k, a, rfl, c, hh⟩⟩
  · exact ⟨-1, fun _ => 0, Or.inl ⟨rfl, e⟩⟩
set_option maxRecDepth 100000 in
set_option maxHeartbeats 4000000 in
theorem k_J6_numberOfTrailingZeros_0f7a4 {g : zG} {σ : zS} (m : Nat) (hm : m < 128) (h0 : m ≠ 0) : Ct g 10 yJ6_numberOfTrailingZeros_0f7a4 cJ6_numberOfTrailingZeros_0f7a4 2 (some FieldType.int) 0 0 [.int (nI (m))] σ (qR (fun v => v = some (.int (nI (zctz m)))) σ) zNo := by
  refine Ct.of (lv := [(0, .int (nI (m)))]) (by decide) (Nat.le_of_ble_eq_true rfl) rfl ?_
  intro κ X E B _
  have X : zX g κ RJ6 cJ6_numberOfTrailingZeros_0f7a4 2 := X
  refine V_iload_n X dJ6_numberOfTrailingZeros_0f7a4_0 0 rfl ?_
  refine V_iconst (v := (-1)) X dJ6_numberOfTrailingZeros_0f7a4_1 (by decide) ?_
  refine V_ixor X dJ6_numberOfTrailingZeros_0f7a4_2 ?_
  refine V_iload_n X dJ6_numberOfTrailingZeros_0f7a4_3 0 rfl ?_
  refine V_iconst (v := nI 1) X dJ6_numberOfTrailingZeros_0f7a4_4 (by decide) ?_
  refine V_isub X dJ6_numberOfTrailingZeros_0f7a4_5 ?_
  refine V_iand X dJ6_numberOfTrailingZeros_0f7a4_6 ?_
  refine V_istore_n X [(0, .int (((nI (m)) ^^^ (-1)) &&& ((nI (m)) - (nI (1)))))] dJ6_numberOfTrailingZeros_0f7a4_7 (by decide) rfl ?_
  refine V_iload_n X dJ6_numberOfTrailingZeros_0f7a4_8 0 rfl ?_
  refine V_ifgt X (tgt := 17) dJ6_numberOfTrailingZeros_0f7a4_9 (by decide) (fun h1 => ?_) (fun h1 => ?_)
  · -- 9 true
    refine V_iconst (v := nI 1) X dJ6_numberOfTrailingZeros_0f7a4_17 (by decide) ?_
    refine V_istore_n X [(1, .int (nI (1))), (0, .int (((nI (m)) ^^^ (-1)) &&& ((nI (m)) - (nI (1)))))] dJ6_numberOfTrailingZeros_0f7a4_18 (by decide) rfl ?_
    refine V_iload_n X dJ6_numberOfTrailingZeros_0f7a4_19 1 rfl ?_
    refine V_ldcw X cn_J6_264 dJ6_numberOfTrailingZeros_0f7a4_20 ?_
    refine V_icmple X (tgt := 34) dJ6_numberOfTrailingZeros_0f7a4_23 (by decide) (fun h2 => ?_) (fun h2 => absurd h2 (fun _ => (zntz1 m hm h0).2.2 (Int32.not_le.mp (by assumption))))
    refine V_iload_n X dJ6_numberOfTrailingZeros_0f7a4_34 1 rfl ?_
    refine V_sipush (v := nI 256) X dJ6_numberOfTrailingZeros_0f7a4_35 (by decide) ?_
    refine V_icmple X (tgt := 49) dJ6_numberOfTrailingZeros_0f7a4_38 (by decide) (fun h3 => ?_) (fun h3 => absurd h3 (fun _ => (zntz1 m hm h0).2.1 (Int32.not_le.mp (by assumption))))
    refine V_iload_n X dJ6_numberOfTrailingZeros_0f7a4_49 1 rfl ?_
    refine V_bipush (v := nI 16) X dJ6_numberOfTrailingZeros_0f7a4_50 (by decide) ?_
    refine V_icmple X (tgt := 62) dJ6_numberOfTrailingZeros_0f7a4_52 (by decide) (fun h4 => ?_) (fun h4 => ?_)
    · -- 52 true
      refine V_iload_n X dJ6_numberOfTrailingZeros_0f7a4_62 1 rfl ?_
      refine V_iconst (v := nI 4) X dJ6_numberOfTrailingZeros_0f7a4_63 (by decide) ?_
      refine V_icmple X (tgt := 74) dJ6_numberOfTrailingZeros_0f7a4_64 (by decide) (fun h5 => ?_) (fun h5 => ?_)
      · -- 64 true
        refine V_iload_n X dJ6_numberOfTrailingZeros_0f7a4_74 0 rfl ?_
        refine V_iload_n X dJ6_numberOfTrailingZeros_0f7a4_75 1 rfl ?_
        refine V_iconst (v := nI 1) X dJ6_numberOfTrailingZeros_0f7a4_76 (by decide) ?_
        refine V_iushr X dJ6_numberOfTrailingZeros_0f7a4_77 ?_
        show V g κ 2 (0) (0) σ 78 [(1, .int (nI (1))), (0, .int (((nI (m)) ^^^ (-1)) &&& ((nI (m)) - (nI (1)))))] [.int (zu (((nI (m)) ^^^ (-1)) &&& ((nI (m)) - (nI (1)))) 1), .int (nI (1))]
        refine V_iadd X dJ6_numberOfTrailingZeros_0f7a4_78 ?_
        exact V_iret X E (by omega) (by omega) ⟨congrArg (fun z => some (Value.int z)) ((((zntz2 m hm h0 (fun q => absurd h1 (Int32.not_lt.mpr q))).2 (Int32.not_lt.mpr h4))).2 (Int32.not_lt.mpr h5)), rfl⟩ dJ6_numberOfTrailingZeros_0f7a4_79
      · -- 64 false
        refine V_iinc X (nI 1 + nI 2) [(1, .int (nI 1 + nI 2)), (0, .int (((nI (m)) ^^^ (-1)) &&& ((nI (m)) - (nI (1)))))] dJ6_numberOfTrailingZeros_0f7a4_67 0 rfl rfl (by decide) rfl ?_
        refine V_iload_n X dJ6_numberOfTrailingZeros_0f7a4_70 1 rfl ?_
        refine V_iconst (v := nI 2) X dJ6_numberOfTrailingZeros_0f7a4_71 (by decide) ?_
        refine V_iushr X dJ6_numberOfTrailingZeros_0f7a4_72 ?_
        show V g κ 2 (0) (0) σ 73 [(1, .int (nI 1 + nI 2)), (0, .int (((nI (m)) ^^^ (-1)) &&& ((nI (m)) - (nI (1)))))] [.int (zu (((nI (m)) ^^^ (-1)) &&& ((nI (m)) - (nI (1)))) 2)]
        refine V_istore_n X [(0, .int (zu (((nI (m)) ^^^ (-1)) &&& ((nI (m)) - (nI (1)))) 2)), (1, .int (nI 1 + nI 2))] dJ6_numberOfTrailingZeros_0f7a4_73 (by decide) rfl ?_
        refine V_iload_n X dJ6_numberOfTrailingZeros_0f7a4_74 1 rfl ?_
        refine V_iload_n X dJ6_numberOfTrailingZeros_0f7a4_75 0 rfl ?_
        refine V_iconst (v := nI 1) X dJ6_numberOfTrailingZeros_0f7a4_76 (by decide) ?_
        refine V_iushr X dJ6_numberOfTrailingZeros_0f7a4_77 ?_
        show V g κ 2 (0) (0) σ 78 [(0, .int (zu (((nI (m)) ^^^ (-1)) &&& ((nI (m)) - (nI (1)))) 2)), (1, .int (nI 1 + nI 2))] [.int (zu (zu (((nI (m)) ^^^ (-1)) &&& ((nI (m)) - (nI (1)))) 2) 1), .int (nI 1 + nI 2)]
        refine V_iadd X dJ6_numberOfTrailingZeros_0f7a4_78 ?_
        exact V_iret X E (by omega) (by omega) ⟨congrArg (fun z => some (Value.int z)) ((((zntz2 m hm h0 (fun q => absurd h1 (Int32.not_lt.mpr q))).2 (Int32.not_lt.mpr h4))).1 (Int32.not_le.mp h5)), rfl⟩ dJ6_numberOfTrailingZeros_0f7a4_79
    · -- 52 false
      refine V_iinc X (nI 1 + nI 4) [(1, .int (nI 1 + nI 4)), (0, .int (((nI (m)) ^^^ (-1)) &&& ((nI (m)) - (nI (1)))))] dJ6_numberOfTrailingZeros_0f7a4_55 0 rfl rfl (by decide) rfl ?_
      refine V_iload_n X dJ6_numberOfTrailingZeros_0f7a4_58 1 rfl ?_
      refine V_iconst (v := nI 4) X dJ6_numberOfTrailingZeros_0f7a4_59 (by decide) ?_
      refine V_iushr X dJ6_numberOfTrailingZeros_0f7a4_60 ?_
      show V g κ 2 (0) (0) σ 61 [(1, .int (nI 1 + nI 4)), (0, .int (((nI (m)) ^^^ (-1)) &&& ((nI (m)) - (nI (1)))))] [.int (zu (((nI (m)) ^^^ (-1)) &&& ((nI (m)) - (nI (1)))) 4)]
      refine V_istore_n X [(0, .int (zu (((nI (m)) ^^^ (-1)) &&& ((nI (m)) - (nI (1)))) 4)), (1, .int (nI 1 + nI 4))] dJ6_numberOfTrailingZeros_0f7a4_61 (by decide) rfl ?_
      refine V_iload_n X dJ6_numberOfTrailingZeros_0f7a4_62 0 rfl ?_
      refine V_iconst (v := nI 4) X dJ6_numberOfTrailingZeros_0f7a4_63 (by decide) ?_
      refine V_icmple X (tgt := 74) dJ6_numberOfTrailingZeros_0f7a4_64 (by decide) (fun h6 => ?_) (fun h6 => ?_)
      · -- 64 true
        refine V_iload_n X dJ6_numberOfTrailingZeros_0f7a4_74 1 rfl ?_
        refine V_iload_n X dJ6_numberOfTrailingZeros_0f7a4_75 0 rfl ?_
        refine V_iconst (v := nI 1) X dJ6_numberOfTrailingZeros_0f7a4_76 (by decide) ?_
        refine V_iushr X dJ6_numberOfTrailingZeros_0f7a4_77 ?_
        show V g κ 2 (0) (0) σ 78 [(0, .int (zu (((nI (m)) ^^^ (-1)) &&& ((nI (m)) - (nI (1)))) 4)), (1, .int (nI 1 + nI 4))] [.int (zu (zu (((nI (m)) ^^^ (-1)) &&& ((nI (m)) - (nI (1)))) 4) 1), .int (nI 1 + nI 4)]
        refine V_iadd X dJ6_numberOfTrailingZeros_0f7a4_78 ?_
        exact V_iret X E (by omega) (by omega) ⟨congrArg (fun z => some (Value.int z)) ((((zntz2 m hm h0 (fun q => absurd h1 (Int32.not_lt.mpr q))).1 (Int32.not_le.mp h4))).2 (Int32.not_lt.mpr h6)), rfl⟩ dJ6_numberOfTrailingZeros_0f7a4_79
      · -- 64 false
        refine V_iinc X (nI 1 + nI 4 + nI 2) [(1, .int (nI 1 + nI 4 + nI 2)), (0, .int (zu (((nI (m)) ^^^ (-1)) &&& ((nI (m)) - (nI (1)))) 4))] dJ6_numberOfTrailingZeros_0f7a4_67 1 rfl rfl (by decide) rfl ?_
        refine V_iload_n X dJ6_numberOfTrailingZeros_0f7a4_70 1 rfl ?_
        refine V_iconst (v := nI 2) X dJ6_numberOfTrailingZeros_0f7a4_71 (by decide) ?_
        refine V_iushr X dJ6_numberOfTrailingZeros_0f7a4_72 ?_
        show V g κ 2 (0) (0) σ 73 [(1, .int (nI 1 + nI 4 + nI 2)), (0, .int (zu (((nI (m)) ^^^ (-1)) &&& ((nI (m)) - (nI (1)))) 4))] [.int (zu (zu (((nI (m)) ^^^ (-1)) &&& ((nI (m)) - (nI (1)))) 4) 2)]
        refine V_istore_n X [(0, .int (zu (zu (((nI (m)) ^^^ (-1)) &&& ((nI (m)) - (nI (1)))) 4) 2)), (1, .int (nI 1 + nI 4 + nI 2))] dJ6_numberOfTrailingZeros_0f7a4_73 (by decide) rfl ?_
        refine V_iload_n X dJ6_numberOfTrailingZeros_0f7a4_74 1 rfl ?_
        refine V_iload_n X dJ6_numberOfTrailingZeros_0f7a4_75 0 rfl ?_
        refine V_iconst (v := nI 1) X dJ6_numberOfTrailingZeros_0f7a4_76 (by decide) ?_
        refine V_iushr X dJ6_numberOfTrailingZeros_0f7a4_77 ?_
        show V g κ 2 (0) (0) σ 78 [(0, .int (zu (zu (((nI (m)) ^^^ (-1)) &&& ((nI (m)) - (nI (1)))) 4) 2)), (1, .int (nI 1 + nI 4 + nI 2))] [.int (zu (zu (zu (((nI (m)) ^^^ (-1)) &&& ((nI (m)) - (nI (1)))) 4) 2) 1), .int (nI 1 + nI 4 + nI 2)]
        refine V_iadd X dJ6_numberOfTrailingZeros_0f7a4_78 ?_
        exact V_iret X E (by omega) (by omega) ⟨congrArg (fun z => some (Value.int z)) ((((zntz2 m hm h0 (fun q => absurd h1 (Int32.not_lt.mpr q))).1 (Int32.not_le.mp h4))).1 (Int32.not_le.mp h6)), rfl⟩ dJ6_numberOfTrailingZeros_0f7a4_79
  · -- 9 false
    refine V_iload_n X dJ6_numberOfTrailingZeros_0f7a4_12 0 rfl ?_
    refine V_bipush (v := nI 32) X dJ6_numberOfTrailingZeros_0f7a4_13 (by decide) ?_
    refine V_iand X dJ6_numberOfTrailingZeros_0f7a4_15 ?_
    exact V_iret X E (by omega) (by omega) ⟨(congrArg (fun z => some (Value.int z)) ((zntz1 m hm h0).1 (Int32.not_lt.mp h1))), rfl⟩ dJ6_numberOfTrailingZeros_0f7a4_16
theorem zup_zup {f : Nat → Option va_E} {a : Nat} {e e' : va_E} : zup (zup f a e) a e' = zup f a e' := by
  funext b
  by_cases h : b = a
  · subst h; rw [zup_eq, zup_eq]
  · rw [zup_ne h, zup_ne h, zup_ne h]
theorem zup_comm {f : Nat → Option va_E} {a b : Nat} {e x : va_E} (h : a ≠ b) : zup (zup f b x) a e = zup (zup f a e) b x := by
  funext c
  by_cases h1 : c = a
  · subst h1; rw [zup_eq, zup_ne h, zup_eq]
  · by_cases h2 : c = b
    · subst h2; rw [zup_ne h1, zup_eq, zup_eq]
    · rw [zup_ne h1, zup_ne h2, zup_ne h2, zup_ne h1]
theorem zup_sub {f : Nat → Option va_E} {a : Nat} {e : va_E} (h : ∀ e', f a = some e' → False) : ∀ b x, f b = some x → zup f a e b = some x := fun b x hb => by
  by_cases e1 : b = a
  · subst e1; exact (h x hb).elim
  · rw [zup_ne e1]; exact hb
theorem V.weak {g : zG} {κ : zC} {nL k n : Nat} {t : Nat × Nat} {f f' : Nat → Option va_E} {pc : Nat} {lv : List (Nat × Value)} {st : List Value} (h : ∀ a e, f' a = some e → f a = some e) (kk : V g κ nL k n (t, f') pc lv st) : V g κ nL k n (t, f) pc lv st := fun H locs ls hR hL hl =>
  kk H locs ls ⟨hR.1, hR.2.1, hR.2.2.1, fun a e he => hR.2.2.2 a e (h a e he)⟩ hL hl
