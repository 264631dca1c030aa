/-! ===== what isSound asks, the same words on both sides (draft for p24) ===== -/
def mSd (ok : Nat → Prop) (nS nA : Nat) (pu : Nat → Int32) (due : Int32) (E : Prop) : Prop := (∀ s, s < nS → ok s) ∧ (∀ i, i < nA → ¬ pu i < 0) ∧ zsm pu nA = due ∧ E
/-- what is told of P -/
def mTl (x : Int32) (P : Prop) : Prop := (x = nI 1 ∧ P) ∨ (x = nI 0 ∧ ¬ P)
theorem mTl_un {x y : Int32} {P Q : Prop} (e : P ↔ Q) (h : mTl x P) (k : mTl y Q) : x = y := by
  rcases h with ⟨rfl, p⟩ | ⟨rfl, p⟩ <;> rcases k with ⟨rfl, q⟩ | ⟨rfl, q⟩
  · rfl
  · exact absurd (e.mp p) q
  · exact absurd (e.mpr q) p
  · rfl
/-- a scene's filled and excess make up its parts; pm: who can play what -/
def mOk (pm : Nat → Nat → Prop) (nP : Nat) (sp : Int32) : Prop := ∃ (m k c : Nat) (e : Int32), m < 2 ^ nP ∧ sp = nI m ∧ MxK pm (fun q => q < nP ∧ m.testBit q = true) k ∧ zLk (zEk pm nP) m (m + 1) c e ∧ nI k + e = zbc (nI m)
theorem mOk_at {pm : Nat → Nat → Prop} {nP m k c : Nat} {e sp : Int32} (h7 : nP ≤ 7) (hm : m < 2 ^ nP) (em : sp = nI m) (hk : MxK pm (fun q => q < nP ∧ m.testBit q = true) k) (hl : zLk (zEk pm nP) m (m + 1) c e) : mOk pm nP sp ↔ nI k + e = zbc (nI m) := by
  have h128 : 2 ^ nP ≤ 128 := zp2 (n := 7) h7
  constructor
  · rintro ⟨m', k', c', e', a1, a2, a3, a4, a5⟩
    have r : m' = m := (nI_eq (by omega) (by omega)).mp (a2.symm.trans em)
    subst r
    rw [MxK_uniq hk a3, (zLk_un hl a4).2]
    exact a5
  · exact fun h => ⟨m, k, c, e, hm, em, hk, hl, h⟩
theorem mOk_cg {pm pm' : Nat → Nat → Prop} {nP : Nat} {sp sp' : Int32} (e : ∀ i p, p < nP → (pm i p ↔ pm' i p)) (es : sp = sp') (h : mOk pm nP sp) : mOk pm' nP sp' := by
  obtain ⟨m, k, c, x, a1, a2, a3, a4, a5⟩ := h
  exact ⟨m, k, c, x, a1, es.symm.trans a2, MxK_cg (fun _ => Iff.rfl) (fun i q hq => e i q hq.1) a3, zLk_cgE (fun u x => ⟨zEk_cg fun i q h1 _ => e i q h1, zEk_cg fun i q h1 _ => (e i q h1).symm⟩) a4, a5⟩
theorem mSd_cg {ok ok' : Nat → Prop} {nS nA : Nat} {pu pu' : Nat → Int32} {due due' : Int32} {E E' : Prop} (e1 : ∀ s, s < nS → (ok s ↔ ok' s)) (e2 : ∀ i, i < nA → pu i = pu' i) (e3 : zsm pu nA = zsm pu' nA) (e4 : due = due') (e5 : E ↔ E') : mSd ok nS nA pu due E ↔ mSd ok' nS nA pu' due' E' := by
  subst e4
  refine and_congr ⟨fun h s hs => (e1 s hs).mp (h s hs), fun h s hs => (e1 s hs).mpr (h s hs)⟩ (and_congr ⟨fun h i hi => by rw [← e2 i hi]; exact h i hi, fun h i hi => by rw [e2 i hi]; exact h i hi⟩ ?_)
  rw [e3, e5]
/-- no cast at all, and only then are scenes cut -/
def mEs (pm cl : Nat → Nat → Prop) (D P : Nat → Prop) (n : Nat) : Prop := ∃ (b : Int32) (h : Nat → Nat) (c : Int32), mBst pm cl D b h ∧ mCut P n c ∧ (b = -1 ↔ ¬ c = 0)
theorem mEs_at {pm cl : Nat → Nat → Prop} {D P : Nat → Prop} {n : Nat} {b c : Int32} {h : Nat → Nat} (hD : ∀ p, D p → p < 7) (hb : mBst pm cl D b h) (hc : mCut P n c) : mEs pm cl D P n ↔ (b = -1 ↔ ¬ c = 0) := ⟨fun ⟨b', h', c', k1, k2, k3⟩ => by rw [(mBst_uniq hD hb k1).1, mCut_uniq hc k2]; exact k3, fun k => ⟨b, h, c, hb, hc, k⟩⟩
theorem mTl_1 {P : Prop} (h : P) : mTl (nI 1) P := Or.inl ⟨rfl, h⟩
theorem mTl_0 {P : Prop} (h : ¬ P) : mTl (nI 0) P := Or.inr ⟨rfl, h⟩
theorem mCl_ne {sp ch pa : Nat → Int32} {nP n p q : Nat} {a : Int32} (h : mCl sp ch pa nP a n p q) : p ≠ q := by
  rcases h with ⟨s, _, _, k⟩ | ⟨s, b, _, _, _, k | k⟩
  · exact fun e => k.2.2.1 e.symm
  · exact k.2.2.1
  · exact fun e => k.2.2.1 e.symm
set_option maxRecDepth 100000 in
set_option maxHeartbeats 4000000 in
theorem k_X5_bestCastClashes_x {g : zG} {t : Nat × Nat} {X0 : Nat} {σ0 : Nat → Option va_E} {F : Nat → Nat → Int32} (hX : g.2.1.size ≤ X0) {nP nS nA nC nT : Nat} (hI : cI nP nS nA nC nT F) (hB : cBd nP nS nA F) (Dd : Nat → Prop) (h : Nat → Nat) (y : ∀ i, i < 5 → zMk (F 13 i) (fun q => ¬ F 12 1 = -1 ∧ Dd q ∧ h q = i)) (hcl : ¬ F 12 1 = -1 → ∀ p q, Dd p → Dd q → p ≠ q → h p = h q → ¬ mCl (F 5) (F 4) (F 6) nP (nI (2 ^ nS - 1)) nS p q) : Ct g 14 yX5_bestCastClashes cX5_bestCastClashes 3 (some FieldType.boolean) 0 0 [.ref (X0 + 0)] (t, cW g X0 F σ0) (fun r σ' => r = some (.int (nI 0)) ∧ ∃ F' : Nat → Nat → Int32, σ' = (t, cW g X0 F' σ0) ∧ cJ F F') zNo := by
  refine Ct.of (lv := [(0, .ref (X0 + 0))]) (by decide) (Nat.le_of_ble_eq_true rfl) rfl ?_
  intro κ X E B _
  have X : zX g κ RX5 cX5_bestCastClashes 3 := X
  obtain ⟨b1, b2, b3, b4, b5⟩ := hI.bnd
  refine V_iconst (v := nI 0) X dX5_bestCastClashes_0 (by decide) ?_
  refine V_istore_n X [(1, .int (nI (0))), (0, .ref (X0 + 0))] dX5_bestCastClashes_1 (by decide) rfl ?_
  have L2 : ∀ (n2 : Nat) (i2 : Nat) (G2 : Nat → Nat → Int32), n2 = nP - i2 → i2 ≤ nP → cJ F G2 → V g κ 3 0 0 (t, cW g X0 G2 σ0) 2 [(1, .int (nI (i2))), (0, .ref (X0 + 0))] [] := by
    intro n2
    induction n2 using Nat.strongRecOn with
    | ind n2 ih2 =>
      intro i2 G2 hn2 hi2 hJ2
      refine V_iload_n X dX5_bestCastClashes_2 0 rfl ?_
      refine V_aload_n X dX5_bestCastClashes_3 1 rfl ?_
      refine C_getf X fl_X5_10 0 (by decide) rfl rfl dX5_bestCastClashes_4 ?_
      refine C_getfN (z := nI (nP)) X fl_X5_48 1 (by decide) rfl rfl (hI.mv hJ2).f1_5 dX5_bestCastClashes_7 ?_
      refine V_icmpgeN X (by omega) (by omega) (tgt := 60) dX5_bestCastClashes_10 (by decide) (fun h1 => ?_) (fun h1 => ?_)
      · -- 10 true
        refine V_iconst (v := nI 0) X dX5_bestCastClashes_60 (by decide) ?_
        exact V_zret X E (zbool z01_0) (Nat.zero_le _) (Nat.zero_le _) ⟨rfl, _, rfl, hJ2⟩ dX5_bestCastClashes_61
      · -- 10 false
        refine V_aload_n X dX5_bestCastClashes_13 1 rfl ?_
        refine C_getf X fl_X5_26 0 (by decide) rfl rfl dX5_bestCastClashes_14 ?_
        refine V_iload_n X dX5_bestCastClashes_17 0 rfl ?_
        refine V_callV (rest := []) X E.room ml_X5_174 in_X0_playerOf (ci := 2) rfl se_X0_playerOf (C_recv (q := 12) (by decide) rfl) (by decide) (by decide) (k_X0_playerOf hX (hI.mv hJ2) (nI (i2))) rfl rfl (Nat.le_of_ble_eq_true rfl) ⟨Nat.le_refl _, Nat.le_refl _⟩ dX5_bestCastClashes_18 (fun _ _ h => False.elim h) (fun v18 σ' hp18 => ?_)
        obtain ⟨hp18, rfl⟩ := hp18
        rcases hp18 with ⟨rfl, nr2⟩ | ⟨r2, hr2, rfl, yr2, zr2⟩
        · -- none
          show V g κ 3 0 0 (t, cW g X0 G2 σ0) 21 [(1, .int (nI (i2))), (0, .ref (X0 + 0))] [.int (-1)]
          refine V_istore_n X [(2, .int (-1)), (1, .int (nI (i2))), (0, .ref (X0 + 0))] dX5_bestCastClashes_21 (by decide) rfl ?_
          refine V_iload_n X dX5_bestCastClashes_22 0 rfl ?_
          refine V_iconst (v := (-1)) X dX5_bestCastClashes_23 (by decide) ?_
          refine V_icmpeq X (tgt := 54) dX5_bestCastClashes_24 (by decide) (fun h3 => ?_) (fun h3 => absurd h3 (not_not_intro rfl))
          refine V_iinc X (nI (i2 + 1)) [(1, .int (nI (i2 + 1))), (2, .int (-1)), (0, .ref (X0 + 0))] dX5_bestCastClashes_54 1 rfl (zinc _) (by decide) rfl ?_
          refine V_goto (tgt := 2) X dX5_bestCastClashes_57 (by decide) ?_
          exact V.sub [0, 2] rfl (ih2 _ (by omega) (i2 + 1) G2 rfl (by omega) hJ2)
        · -- number
          show V g κ 3 0 0 (t, cW g X0 G2 σ0) 21 [(1, .int (nI (i2))), (0, .ref (X0 + 0))] [.int (nI (r2))]
          refine V_istore_n X [(2, .int (nI (r2))), (1, .int (nI (i2))), (0, .ref (X0 + 0))] dX5_bestCastClashes_21 (by decide) rfl ?_
          refine V_iload_n X dX5_bestCastClashes_22 0 rfl ?_
          refine V_iconst (v := (-1)) X dX5_bestCastClashes_23 (by decide) ?_
          refine V_icmpeq X (tgt := 54) dX5_bestCastClashes_24 (by decide) (fun h4 => absurd h4 (znm1 (by omega))) (fun h4 => ?_)
          refine V_aload_n X dX5_bestCastClashes_27 2 rfl ?_
          refine C_getf X fl_X5_26 0 (by decide) rfl rfl dX5_bestCastClashes_28 ?_
          refine C_getf X fl_X5_186 12 (by decide) rfl rfl dX5_bestCastClashes_31 ?_
          refine V_iload_n X dX5_bestCastClashes_34 0 rfl ?_
          refine C_iald X (N := 5) 13 (by decide) (r2) rfl (by omega) (by decide) rfl dX5_bestCastClashes_35 ?_
          refine V.topi (fun x5 ex5 => ?_)
          refine V_aload_n X dX5_bestCastClashes_36 2 rfl ?_
          refine C_getf X fl_X5_26 0 (by decide) rfl rfl dX5_bestCastClashes_37 ?_
          refine V_iload_n X dX5_bestCastClashes_40 1 rfl ?_
          refine V_aload_n X dX5_bestCastClashes_41 2 rfl ?_
          refine C_getf X fl_X5_10 0 (by decide) rfl rfl dX5_bestCastClashes_42 ?_
          refine V_callV (rest := [.int (x5)]) X E.room ml_X5_167 in_X0_clashesOf (ci := 2) rfl se_X0_clashesOf (C_recv (q := 12) (by decide) rfl) (by decide) (by decide) (k_X0_clashesOf_x hX (hI.mv hJ2) (i2) (by omega) (hB.mv hJ2)) rfl rfl (Nat.le_of_ble_eq_true rfl) ⟨Nat.le_refl _, Nat.le_refl _⟩ dX5_bestCastClashes_45 (fun _ _ h => False.elim h) (fun v45 σ' hp45 => ?_)
          obtain ⟨r7, rfl, fr7, F6, rfl, hJF6⟩ := hp45
          have hKF6 : cJ F F6 := hJ2.trans hJF6
          show V g κ 3 0 0 (t, cW g X0 F6 σ0) 48 [(2, .int (nI (r2))), (1, .int (nI (i2))), (0, .ref (X0 + 0))] [.int (r7), .int (x5)]
          refine V_iand X dX5_bestCastClashes_48 (V.topi (fun w8 ew8 => ?_))
          refine V_ifeq X (tgt := 54) dX5_bestCastClashes_49 (by decide) (fun h9 => ?_) (fun h9 => ?_)
          · -- 49 true
            refine V_iinc X (nI (i2 + 1)) [(1, .int (nI (i2 + 1))), (2, .int (nI (r2))), (0, .ref (X0 + 0))] dX5_bestCastClashes_54 1 rfl (zinc _) (by decide) rfl ?_
            refine V_goto (tgt := 2) X dX5_bestCastClashes_57 (by decide) ?_
            exact V.sub [0, 2] rfl (ih2 _ (by omega) (i2 + 1) F6 rfl (by omega) hKF6)
          · -- 49 false
            have h13 : zMk x5 (fun q => ¬ F 12 1 = -1 ∧ Dd q ∧ h q = r2) := by rw [ex5, (hJ2) 13 r2 (by simp [scr])]; exact y r2 (by omega)
            have hcl9 := fr7
            rw [show G2 5 = F 5 from funext fun j => (hJ2) 5 j (by simp [scr]), show G2 4 = F 4 from funext fun j => (hJ2) 4 j (by simp [scr]), show G2 6 = F 6 from funext fun j => (hJ2) 6 j (by simp [scr])] at hcl9
            have hp9 : ¬ F 12 1 = -1 ∧ Dd i2 ∧ h i2 = r2 := ((y r2 (by omega)).In (by omega)).mp (by rw [← (hJ2) 13 r2 (by simp [scr])]; exact yr2)
            have no9 : False := h9 (ew8.trans ((zMk_and h13 hcl9).mpr fun q9 z9 => hcl hp9.1 i2 q9 hp9.2.1 z9.1.2.1 (mCl_ne z9.2) (hp9.2.2.trans z9.1.2.2.symm) z9.2))
            refine V_iconst (v := nI 1) X dX5_bestCastClashes_52 (by decide) ?_
            exact V_zret X E (zbool z01_1) (Nat.zero_le _) (Nat.zero_le _) (False.elim no9) dX5_bestCastClashes_53
  exact L2 _ 0 F rfl (by omega) cJ.rfl'
