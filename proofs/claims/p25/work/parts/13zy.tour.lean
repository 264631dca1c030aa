/-! ===== which tour is best ===== -/
/-- what the towns of s pay together -/
def tS (K : Nat → Nat) : Nat → Nat → Nat
  | 0, _ => 0
  | n + 1, s => tS K n s + (if s.testBit n = true then K n else 0)
theorem zss_tS {f : Nat → Int32} {K : Nat → Nat} {s : Nat} (hs : s < 2 ^ 31) : ∀ {n : Nat}, n ≤ 31 → (∀ q, q < n → f q = nI (K q)) → zss f (fun q => zIn (nI s) (nI q)) n = nI (tS K n s) := by
  intro n
  induction n with
  | zero => exact fun _ _ => rfl
  | succ n ih =>
    intro hn h
    have e := ih (by omega) (fun q hq => h q (by omega))
    by_cases z : s.testBit n = true
    · refine (mite_1 (α := Int32) ((zIn_nat hs (by omega)).mpr z)).trans ?_
      rw [e, h n (Nat.lt_succ_self n), nI_add]
      show nI (tS K n s + K n) = nI (tS K n s + (if s.testBit n = true then K n else 0))
      rw [if_pos z]
    · refine (mite_0 (α := Int32) (fun q => z ((zIn_nat hs (by omega)).mp q))).trans ?_
      rw [e]
      show nI (tS K n s) = nI (tS K n s + (if s.testBit n = true then K n else 0))
      rw [if_neg z, Nat.add_zero]
theorem tS_le {K : Nat → Nat} {nT s : Nat} {P : Nat → Prop} (hK : ∀ q, q < nT → P q ∧ K q ≤ 999) (b5 : nT ≤ 5) : tS K nT s ≤ 4995 := by
  have key : ∀ n, n ≤ nT → tS K n s ≤ 999 * n := by
    intro n
    induction n with
    | zero => exact fun _ => Nat.le_refl _
    | succ n ih =>
      intro hn
      have a := ih (by omega)
      have b := (hK n (by omega)).2
      show tS K n s + (if s.testBit n = true then K n else 0) ≤ _
      by_cases z : s.testBit n = true
      · rw [if_pos z]
        omega
      · rw [if_neg z]
        omega
  have := key nT (Nat.le_refl _)
  omega
theorem tS_int {a b : Nat} (ha : a ≤ 4995) (hb : b ≤ 4995) : (nI a - nI b).toInt = (a : Int) - (b : Int) := by
  rw [Int32.toInt_sub, nI_toInt (by omega), nI_toInt (by omega)]
  unfold Int.bmod
  first
    | (dsimp only; split <;> omega)
    | (show (if ((a : Int) - (b : Int)) % 4294967296 < (4294967296 + 1) / 2 then ((a : Int) - (b : Int)) % 4294967296 else ((a : Int) - (b : Int)) % 4294967296 - 4294967296) = _; split <;> omega)
    | (simp only [Int.bmod]; split <;> omega)
theorem tS_gt {a b : Nat} (ha : a ≤ 4995) (hb : b ≤ 4995) : 0 < nI a - nI b ↔ b < a := by
  rw [Int32.lt_iff_toInt_lt, tS_int ha hb, show (0 : Int32).toInt = 0 from rfl]
  omega
theorem tS_eq {a b : Nat} (ha : a ≤ 4995) (hb : b ≤ 4995) : nI a - nI b = 0 ↔ a = b := by
  constructor
  · intro h
    have := tS_int ha hb
    rw [h, show (0 : Int32).toInt = 0 from rfl] at this
    omega
  · rintro rfl
    exact Int32.sub_self _
/-- a tour to the towns of e within so many miles: a its takings, b its miles -/
def tKey (X Y K : Nat → Nat) (nT mo a b e : Nat) : Prop := e < 2 ^ nT ∧ a = tS K nT e ∧ b ≤ mo ∧ tT X Y e b
/-- the best of these -/
def tW (P : Nat → Nat → Nat → Prop) (a b e : Nat) : Prop := P a b e ∧ ∀ a' b' e', P a' b' e' → a' < a ∨ (a' = a ∧ (b < b' ∨ (b = b' ∧ e ≤ e')))
def tI (X Y K : Nat → Nat) (F : Nat → Nat → Int32) (nT mo i e : Nat) : Prop := e < i ∧ ∃ r, F 27 e = nI r ∧ tW (fun a b e' => tKey X Y K nT mo a b e' ∧ e' < i) (tS K nT e) r e
/-- what is asked of the best tour -/
def tAns (X Y K : Nat → Nat) (nT mo w : Nat) (x : Int32) : Prop := ∃ A B E, tW (tKey X Y K nT mo) A B E ∧ ((w = 0 ∧ x = nI E) ∨ (w = 1 ∧ x = nI A) ∨ (w = 2 ∧ x = nI B))
/-- the towns of the class -/
def cTc (X Y K : Nat → Nat) (nT : Nat) (F : Nat → Nat → Int32) : Prop := tC X Y F nT ∧ tB X Y F (2 ^ nT) ∧ ∀ q, q < nT → F 26 q = nI (K q) ∧ K q ≤ 999
section TW
variable {P Q : Nat → Nat → Nat → Prop} {X Y K : Nat → Nat} {F : Nat → Nat → Int32} {nT mo i e a b a' b' e' ri : Nat}
theorem tW_un (h : tW P a b e) (h' : tW P a' b' e') : a = a' ∧ b = b' ∧ e = e' := by
  have k := h.2 _ _ _ h'.1
  have k' := h'.2 _ _ _ h.1
  omega
theorem tW_cg (q : ∀ a b e, P a b e ↔ Q a b e) (h : tW P a b e) : tW Q a b e := ⟨(q _ _ _).mp h.1, fun a' b' e' z => h.2 a' b' e' ((q _ _ _).mpr z)⟩
theorem tI_1 (hB : tB X Y F (2 ^ nT)) : tI X Y K F nT mo 1 0 := by
  obtain ⟨v, ev, hv, -⟩ := (hB 0 (Nat.two_pow_pos nT)).1
  obtain rfl := tT_0.mp hv
  refine ⟨by decide, 0, ev, ⟨⟨Nat.two_pow_pos nT, rfl, Nat.zero_le _, Or.inl ⟨rfl, rfl⟩⟩, by decide⟩, fun a' b' e' z => ?_⟩
  obtain ⟨⟨-, k2, -, k4⟩, k5⟩ := z
  obtain rfl : e' = 0 := by omega
  have := tT_0.mp k4
  exact Or.inr ⟨k2, Or.inr ⟨this.symm, Nat.le_refl _⟩⟩
theorem tI_skip (h : tI X Y K F nT mo i e) (hlt : i < 2 ^ nT) (hm : ∀ u, tT X Y i u → ri ≤ u) (hn : mo < ri) : tI X Y K F nT mo (i + 1) e := by
  obtain ⟨h1, r, h2, h3, h4⟩ := h
  refine ⟨by omega, r, h2, ⟨h3.1, by omega⟩, fun a' b' e' z => ?_⟩
  by_cases q : e' = i
  · subst q
    have := hm b' z.1.2.2.2
    have := z.1.2.2.1
    omega
  · exact h4 a' b' e' ⟨z.1, by have := z.2; omega⟩
theorem tI_new (h : tI X Y K F nT mo i e) (er : F 27 i = nI ri) (hk : tKey X Y K nT mo (tS K nT i) ri i) (hm : ∀ u, tT X Y i u → ri ≤ u) (hb : tS K nT e < tS K nT i ∨ (tS K nT i = tS K nT e ∧ ∀ r, (F 27 e = nI r ∧ tT X Y e r) → ri < r)) : tI X Y K F nT mo (i + 1) i := by
  obtain ⟨h1, r, h2, h3, h4⟩ := h
  refine ⟨Nat.lt_succ_self i, ri, er, ⟨hk, Nat.lt_succ_self i⟩, fun a' b' e' z => ?_⟩
  by_cases q : e' = i
  · subst q
    have k1 := hm b' z.1.2.2.2
    have k2 := z.1.2.1
    omega
  · have k := h4 a' b' e' ⟨z.1, by have := z.2; omega⟩
    rcases hb with hb | ⟨hb, hb'⟩
    · omega
    · have := hb' r ⟨h2, h3.1.2.2.2⟩
      omega
theorem tI_keep (h : tI X Y K F nT mo i e) (hm : ∀ u, tT X Y i u → ri ≤ u) (hb : tS K nT i < tS K nT e ∨ (tS K nT i = tS K nT e ∧ ∀ r, (F 27 e = nI r ∧ tT X Y e r) → r ≤ ri)) : tI X Y K F nT mo (i + 1) e := by
  obtain ⟨h1, r, h2, h3, h4⟩ := h
  refine ⟨by omega, r, h2, ⟨h3.1, by omega⟩, fun a' b' e' z => ?_⟩
  by_cases q : e' = i
  · subst q
    have k1 := hm b' z.1.2.2.2
    have k2 := z.1.2.1
    rcases hb with hb | ⟨hb, hb'⟩
    · omega
    · have := hb' r ⟨h2, h3.1.2.2.2⟩
      omega
  · exact h4 a' b' e' ⟨z.1, by have := z.2; omega⟩
theorem tI_end (hi : i = 2 ^ nT) (h : tI X Y K F nT mo i e) : ∃ e' r : Nat, (some (Value.int (nI e)) : Option Value) = some (.int (nI e')) ∧ e' < 2 ^ nT ∧ F 27 e' = nI r ∧ tW (tKey X Y K nT mo) (tS K nT e') r e' := by
  obtain ⟨h1, r, h2, h3⟩ := h
  subst hi
  exact ⟨e, r, rfl, h1, h2, tW_cg (fun a b e => ⟨And.left, fun z => ⟨z, z.1⟩⟩) h3⟩
theorem tT31 {v s : Nat} {n : Nat} (hC : tC X Y F n) (h : tT X Y s v) : v < 2 ^ 31 := by
  have := tT_le hC.1 hC.2.1 h
  omega
theorem tAns_un {w : Nat} {x y : Int32} (h1 : tAns X Y K nT mo w x) (h2 : tAns X Y K nT mo w y) : x = y := by
  obtain ⟨A, B, E, k, q⟩ := h1
  obtain ⟨A', B', E', k', q'⟩ := h2
  obtain ⟨rfl, rfl, rfl⟩ := tW_un k k'
  rcases q with ⟨z, rfl⟩ | ⟨z, rfl⟩ | ⟨z, rfl⟩ <;> rcases q' with ⟨z', rfl⟩ | ⟨z', rfl⟩ | ⟨z', rfl⟩ <;> first | rfl | exact absurd (z.symm.trans z') (by decide)
theorem cTc.mvC {F G : Nat → Nat → Int32} (h : cTc X Y K nT F) (hM : cM F G) : cTc X Y K nT G := ⟨h.1.mv (fun k j q => hM.1 k j (scM_f (by omega))), h.2.1.mv (fun k j q => hM.1 k j (scM_f (by omega))), fun q hq => by rw [hM.1 26 q (scM_f (by omega))]; exact h.2.2 q hq⟩
end TW
set_option maxRecDepth 100000 in
set_option maxHeartbeats 4000000 in
theorem k_X3_milesOut_x {g : zG} {t : Nat × Nat} {X0 : Nat} {σ0 : Nat → Option va_E} {F : Nat → Nat → Int32} (hX : g.2.1.size ≤ X0) {nP nS nA nC nT : Nat} (hI : cI nP nS nA nC nT F) (b l : Nat) (hb : b < 32) (hbn : b < 2 ^ nT) (hl : l < nT) (xs ys : Nat → Nat) (hC : tC xs ys F nT) (hT : ∀ t, b.testBit t = true → tM (F (29 + b) t) (tL xs ys b t)) (hbl : b.testBit l = false) : Ct g 11 yX3_milesOut cX3_milesOut 6 (some FieldType.int) 0 0 [.ref (X0 + 23), .int (nI (b)), .int (nI (l))] (t, cW g X0 F σ0) (fun v σ' => (∃ x : Int32, v = some (.int x) ∧ tM x (tL xs ys (b ||| 2 ^ l) l)) ∧ σ' = (t, cW g X0 F σ0)) zNo := by
  refine Ct.of (lv := [(0, .ref (X0 + 23)), (1, .int (nI (b))), (2, .int (nI (l)))]) (by decide) (Nat.le_of_ble_eq_true rfl) rfl ?_
  intro κ X E B _
  have X : zX g κ RX3 cX3_milesOut 6 := X
  obtain ⟨b1, b2, b3, b4, b5⟩ := hI.bnd
  refine V_iload_n X dX3_milesOut_0 1 rfl ?_
  refine V_ifneN X (by omega) (tgt := 10) dX3_milesOut_1 (by decide) (fun h1 => ?_) (fun h1 => ?_)
  · -- 1 true
    refine V_iconst (v := (-1)) X dX3_milesOut_10 (by decide) ?_
    refine V_istore_n X [(3, .int (-1)), (0, .ref (X0 + 23)), (1, .int (nI (b))), (2, .int (nI (l)))] dX3_milesOut_11 (by decide) rfl ?_
    refine V_iconst (v := nI 0) X dX3_milesOut_12 (by decide) ?_
    refine V_istore X [(4, .int (nI (0))), (3, .int (-1)), (0, .ref (X0 + 23)), (1, .int (nI (b))), (2, .int (nI (l)))] dX3_milesOut_13 (by decide) rfl ?_
    have L15 : ∀ (n15 : Nat) (i15 : Nat) (x15_3 : Int32), n15 = nT - i15 → i15 ≤ nT → lvX x15_3 (tF xs ys b l i15) → V g κ 6 0 0 (t, cW g X0 F σ0) 15 [(4, .int (nI (i15))), (3, .int (x15_3)), (0, .ref (X0 + 23)), (1, .int (nI (b))), (2, .int (nI (l)))] [] := by
      intro n15
      induction n15 using Nat.strongRecOn with
      | ind n15 ih15 =>
        intro i15 x15_3 hn15 hi15 hv15_0
        refine V_iload X dX3_milesOut_15 0 rfl ?_
        refine V_aload_n X dX3_milesOut_17 2 rfl ?_
        refine C_getfN (z := nI (nT)) X fl_X3_29 23 (by decide) rfl rfl hI.f23_4 dX3_milesOut_18 ?_
        refine V_icmpgeN X (by omega) (by omega) (tgt := 103) dX3_milesOut_21 (by decide) (fun h2 => ?_) (fun h2 => ?_)
        · -- 21 true
          refine V_iload_n X dX3_milesOut_103 1 rfl ?_
          exact V_iret X E (Nat.zero_le _) (Nat.zero_le _) ⟨⟨_, rfl, tF_end hb hbn (by omega) (by omega) hbl (by rw [← show i15 = nT by omega]; exact hv15_0)⟩, rfl⟩ dX3_milesOut_104
        · -- 21 false
          refine V_iload_n X dX3_milesOut_24 3 rfl ?_
          refine V_iload X dX3_milesOut_25 0 rfl ?_
          refine V_callSN (rest := []) X E.room ml_X3_37 st_X5_has (by omega) (by decide) (k_X5_has (σ := (t, cW g X0 F σ0)) (nI (b)) (nI (i15))) rfl rfl (Nat.le_of_ble_eq_true rfl) ⟨Nat.le_refl _, Nat.le_refl _⟩ dX3_milesOut_27 (fun _ _ h => False.elim h) (fun v27 σ' hp27 => ?_)
          obtain ⟨hp27, rfl⟩ := hp27
          obtain ⟨r3, rfl, hr3, fr3⟩ := hp27
          show V g κ 6 0 0 (t, cW g X0 F σ0) 30 [(4, .int (nI (i15))), (3, .int (x15_3)), (0, .ref (X0 + 23)), (1, .int (nI (b))), (2, .int (nI (l)))] [.int (r3)]
          refine V_ifne X (tgt := 36) dX3_milesOut_30 (by decide) (fun h4 => ?_) (fun h4 => ?_)
          · -- 30 true
            have zh4 := fr3.mp h4
            have hb5 : (b).testBit i15 = true := (zIn_nat (by omega) (by omega)).mp zh4
            refine V_aload_n X dX3_milesOut_36 2 rfl ?_
            refine C_getf X fl_X3_26 23 (by decide) rfl rfl dX3_milesOut_37 ?_
            refine V_iload_n X dX3_milesOut_40 3 rfl ?_
            refine C_row X (b) rfl (by omega) dX3_milesOut_41 ?_
            show V g κ 6 0 0 (t, cW g X0 F σ0) 42 [(4, .int (nI (i15))), (3, .int (x15_3)), (0, .ref (X0 + 23)), (1, .int (nI (b))), (2, .int (nI (l)))] (.ref (X0 + (29 + (b))) :: [])
            refine V_iload X dX3_milesOut_42 0 rfl ?_
            refine C_iald X (N := 5) (29 + (b)) (by omega) (i15) rfl (by omega) (by decide) (cCell_row g X0 (by omega) _) dX3_milesOut_44 ?_
            obtain ⟨k9, ek9, hk9, hm9⟩ := hT i15 hb5
            rw [ek9]
            refine V_aload_n X dX3_milesOut_45 2 rfl ?_
            refine C_getf X fl_X3_9 23 (by decide) rfl rfl dX3_milesOut_46 ?_
            refine V_iload X dX3_milesOut_49 0 rfl ?_
            refine C_iald X (N := 5) 24 (by decide) (i15) rfl (by omega) (by decide) rfl dX3_milesOut_51 ?_
            rw [(hC.2.2 (i15) (by omega)).1]
            refine V_aload_n X dX3_milesOut_52 2 rfl ?_
            refine C_getf X fl_X3_9 23 (by decide) rfl rfl dX3_milesOut_53 ?_
            refine V_iload_n X dX3_milesOut_56 4 rfl ?_
            refine C_iald X (N := 5) 24 (by decide) (l) rfl (by omega) (by decide) rfl dX3_milesOut_57 ?_
            rw [(hC.2.2 (l) (by omega)).1]
            refine V_isub X dX3_milesOut_58 (V.topi (fun w6 ew6 => ?_))
            refine V_mabs X E.room (Nat.le_refl _) (Nat.le_refl _) (by decide) ml_X3_49 st_J9_abs_0f7a4 rfl rfl (Nat.le_of_ble_eq_true rfl) dX3_milesOut_59 ?_
            rw [ew6, tab99 (xs i15) (Nat.lt_succ_of_le (hC.1 _)) (xs l) (Nat.lt_succ_of_le (hC.1 _))]
            show V g κ 6 0 0 (t, cW g X0 F σ0) 62 [(4, .int (nI (i15))), (3, .int (x15_3)), (0, .ref (X0 + 23)), (1, .int (nI (b))), (2, .int (nI (l)))] [.int (nI (((xs i15 - xs l) + (xs l - xs i15)))), .int (nI (k9))]
            refine V_iaddN X dX3_milesOut_62 ?_
            refine V_aload_n X dX3_milesOut_63 2 rfl ?_
            refine C_getf X fl_X3_15 23 (by decide) rfl rfl dX3_milesOut_64 ?_
            refine V_iload X dX3_milesOut_67 0 rfl ?_
            refine C_iald X (N := 5) 25 (by decide) (i15) rfl (by omega) (by decide) rfl dX3_milesOut_69 ?_
            rw [(hC.2.2 (i15) (by omega)).2]
            refine V_aload_n X dX3_milesOut_70 2 rfl ?_
            refine C_getf X fl_X3_15 23 (by decide) rfl rfl dX3_milesOut_71 ?_
            refine V_iload_n X dX3_milesOut_74 4 rfl ?_
            refine C_iald X (N := 5) 25 (by decide) (l) rfl (by omega) (by decide) rfl dX3_milesOut_75 ?_
            rw [(hC.2.2 (l) (by omega)).2]
            refine V_isub X dX3_milesOut_76 (V.topi (fun w7 ew7 => ?_))
            refine V_mabs X E.room (Nat.le_refl _) (Nat.le_refl _) (by decide) ml_X3_49 st_J9_abs_0f7a4 rfl rfl (Nat.le_of_ble_eq_true rfl) dX3_milesOut_77 ?_
            rw [ew7, tab99 (ys i15) (Nat.lt_succ_of_le (hC.2.1 _)) (ys l) (Nat.lt_succ_of_le (hC.2.1 _))]
            show V g κ 6 0 0 (t, cW g X0 F σ0) 80 [(4, .int (nI (i15))), (3, .int (x15_3)), (0, .ref (X0 + 23)), (1, .int (nI (b))), (2, .int (nI (l)))] [.int (nI (((ys i15 - ys l) + (ys l - ys i15)))), .int (nI (k9 + ((xs i15 - xs l) + (xs l - xs i15))))]
            refine V_iaddN X dX3_milesOut_80 ?_
            refine V_istore X [(5, .int (nI (k9 + ((xs i15 - xs l) + (xs l - xs i15)) + ((ys i15 - ys l) + (ys l - ys i15))))), (4, .int (nI (i15))), (3, .int (x15_3)), (0, .ref (X0 + 23)), (1, .int (nI (b))), (2, .int (nI (l)))] dX3_milesOut_81 (by decide) rfl ?_
            refine V_iload_n X dX3_milesOut_83 2 rfl ?_
            refine V_iconst (v := (-1)) X dX3_milesOut_84 (by decide) ?_
            refine V_icmpeq X (tgt := 94) dX3_milesOut_85 (by decide) (fun h8 => ?_) (fun h8 => ?_)
            · -- 85 true
              refine V_iload X dX3_milesOut_94 0 rfl ?_
              refine V_istore_n X [(3, .int (nI (k9 + ((xs i15 - xs l) + (xs l - xs i15)) + ((ys i15 - ys l) + (ys l - ys i15))))), (5, .int (nI (k9 + ((xs i15 - xs l) + (xs l - xs i15)) + ((ys i15 - ys l) + (ys l - ys i15))))), (4, .int (nI (i15))), (0, .ref (X0 + 23)), (1, .int (nI (b))), (2, .int (nI (l)))] dX3_milesOut_96 (by decide) rfl ?_
              refine V_iinc X (nI (i15 + 1)) [(4, .int (nI (i15 + 1))), (3, .int (nI (k9 + ((xs i15 - xs l) + (xs l - xs i15)) + ((ys i15 - ys l) + (ys l - ys i15))))), (5, .int (nI (k9 + ((xs i15 - xs l) + (xs l - xs i15)) + ((ys i15 - ys l) + (ys l - ys i15))))), (0, .ref (X0 + 23)), (1, .int (nI (b))), (2, .int (nI (l)))] dX3_milesOut_97 2 rfl (zinc _) (by decide) rfl ?_
              refine V_goto (tgt := 15) X dX3_milesOut_100 (by decide) ?_
              exact V.sub [0, 1, 3, 4, 5] rfl (ih15 _ (by omega) (i15 + 1) (nI (k9 + ((xs i15 - xs l) + (xs l - xs i15)) + ((ys i15 - ys l) + (ys l - ys i15)))) rfl (by omega) (tF_yes hC.1 hC.2.1 hv15_0 hk9 hm9 (v := k9 + ((xs i15 - xs l) + (xs l - xs i15)) + ((ys i15 - ys l) + (ys l - ys i15))) (by unfold tD; omega) (Or.inl ⟨rfl, Or.inl h8⟩)))
            · -- 85 false
              refine V_iload X dX3_milesOut_88 0 rfl ?_
              refine V_iload_n X dX3_milesOut_90 2 rfl ?_
              refine V_icmpge X (tgt := 97) dX3_milesOut_91 (by decide) (fun h9 => ?_) (fun h9 => ?_)
              · -- 91 true
                refine V_iinc X (nI (i15 + 1)) [(4, .int (nI (i15 + 1))), (5, .int (nI (k9 + ((xs i15 - xs l) + (xs l - xs i15)) + ((ys i15 - ys l) + (ys l - ys i15))))), (3, .int (x15_3)), (0, .ref (X0 + 23)), (1, .int (nI (b))), (2, .int (nI (l)))] dX3_milesOut_97 1 rfl (zinc _) (by decide) rfl ?_
                refine V_goto (tgt := 15) X dX3_milesOut_100 (by decide) ?_
                exact V.sub [0, 2, 3, 4, 5] rfl (ih15 _ (by omega) (i15 + 1) x15_3 rfl (by omega) (tF_yes hC.1 hC.2.1 hv15_0 hk9 hm9 (v := k9 + ((xs i15 - xs l) + (xs l - xs i15)) + ((ys i15 - ys l) + (ys l - ys i15))) (by unfold tD; omega) (Or.inr ⟨rfl, h8, fun q => absurd (Int32.lt_of_lt_of_le q h9) Int32.lt_irrefl⟩)))
              · -- 91 false
                refine V_iload X dX3_milesOut_94 0 rfl ?_
                refine V_istore_n X [(3, .int (nI (k9 + ((xs i15 - xs l) + (xs l - xs i15)) + ((ys i15 - ys l) + (ys l - ys i15))))), (5, .int (nI (k9 + ((xs i15 - xs l) + (xs l - xs i15)) + ((ys i15 - ys l) + (ys l - ys i15))))), (4, .int (nI (i15))), (0, .ref (X0 + 23)), (1, .int (nI (b))), (2, .int (nI (l)))] dX3_milesOut_96 (by decide) rfl ?_
                refine V_iinc X (nI (i15 + 1)) [(4, .int (nI (i15 + 1))), (3, .int (nI (k9 + ((xs i15 - xs l) + (xs l - xs i15)) + ((ys i15 - ys l) + (ys l - ys i15))))), (5, .int (nI (k9 + ((xs i15 - xs l) + (xs l - xs i15)) + ((ys i15 - ys l) + (ys l - ys i15))))), (0, .ref (X0 + 23)), (1, .int (nI (b))), (2, .int (nI (l)))] dX3_milesOut_97 2 rfl (zinc _) (by decide) rfl ?_
                refine V_goto (tgt := 15) X dX3_milesOut_100 (by decide) ?_
                exact V.sub [0, 1, 3, 4, 5] rfl (ih15 _ (by omega) (i15 + 1) (nI (k9 + ((xs i15 - xs l) + (xs l - xs i15)) + ((ys i15 - ys l) + (ys l - ys i15)))) rfl (by omega) (tF_yes hC.1 hC.2.1 hv15_0 hk9 hm9 (v := k9 + ((xs i15 - xs l) + (xs l - xs i15)) + ((ys i15 - ys l) + (ys l - ys i15))) (by unfold tD; omega) (Or.inl ⟨rfl, Or.inr (Int32.not_le.mp h9)⟩)))
          · -- 30 false
            have zh4 := mt fr3.mpr (not_not_intro h4)
            have hb10 : ¬ (b).testBit i15 = true := fun q => zh4 ((zIn_nat (by omega) (by omega)).mpr q)
            refine V_goto (tgt := 97) X dX3_milesOut_33 (by decide) ?_
            refine V_iinc X (nI (i15 + 1)) [(4, .int (nI (i15 + 1))), (3, .int (x15_3)), (0, .ref (X0 + 23)), (1, .int (nI (b))), (2, .int (nI (l)))] dX3_milesOut_97 0 rfl (zinc _) (by decide) rfl ?_
            refine V_goto (tgt := 15) X dX3_milesOut_100 (by decide) ?_
            exact V.sub [0, 1, 2, 3, 4] rfl (ih15 _ (by omega) (i15 + 1) x15_3 rfl (by omega) (lvX_cg (fun u => tF_no hb10) hv15_0))
    exact L15 _ 0 (-1) rfl (by omega) (lvX_0 fun v => tF_0)
  · -- 1 false
    refine V_aload_n X dX3_milesOut_4 0 rfl ?_
    refine V_iload_n X dX3_milesOut_5 2 rfl ?_
    refine V_callV (rest := []) X E.room ml_X3_45 in_X3_milesHome (ci := 7) rfl se_X3_milesHome (C_recv (q := 23) (by decide) rfl) (by decide) (by decide) (k_X3_milesHome hX hI (l) (by omega)) rfl rfl (Nat.le_of_ble_eq_true rfl) ⟨Nat.le_refl _, Nat.le_refl _⟩ dX3_milesOut_6 (fun _ _ h => False.elim h) (fun v58 σ' hp58 => ?_)
    obtain ⟨hp58, rfl⟩ := hp58
    rw [(hC.2.2 (l) (by omega)).1, (hC.2.2 (l) (by omega)).2, nI_add] at hp58
    cases (hp58 : _ = some (Value.int (nI (xs l + ys l))))
    show V g κ 6 0 0 (t, cW g X0 F σ0) 9 [(0, .ref (X0 + 23)), (1, .int (nI (b))), (2, .int (nI (l)))] [.int (nI ((xs l + ys l)))]
    exact V_iret X E (Nat.zero_le _) (Nat.zero_le _) ⟨⟨_, rfl, by rw [show b = 0 by omega, Nat.zero_or]; exact tF_home (by omega)⟩, rfl⟩ dX3_milesOut_9
set_option maxRecDepth 100000 in
set_option maxHeartbeats 4000000 in
theorem k_X3_measure_x {g : zG} {t : Nat × Nat} {X0 : Nat} {σ0 : Nat → Option va_E} {F : Nat → Nat → Int32} (hX : g.2.1.size ≤ X0) {nP nS nA nC nT : Nat} (hI : cI nP nS nA nC nT F) (b : Nat) (hb : b < 32) (hbn : b < 2 ^ nT) (h0 : b ≠ 0) (xs ys : Nat → Nat) (hC : tC xs ys F nT) (hT : tB xs ys F b) : Ct g 12 yX3_measure cX3_measure 4 none 0 0 [.ref (X0 + 23), .int (nI (b))] (t, cW g X0 F σ0) (fun r σ' => r = none ∧ ∃ F' : Nat → Nat → Int32, σ' = (t, cW g X0 F' σ0) ∧ cRw sRo F F' ∧ tB xs ys F' (b + 1)) zNo := by
  refine Ct.of (lv := [(0, .ref (X0 + 23)), (1, .int (nI (b)))]) (by decide) (Nat.le_of_ble_eq_true rfl) rfl ?_
  intro κ X E B _
  have X : zX g κ RX3 cX3_measure 4 := X
  obtain ⟨b1, b2, b3, b4, b5⟩ := hI.bnd
  refine V_aload_n X dX3_measure_0 0 rfl ?_
  refine C_getf X fl_X3_21 23 (by decide) rfl rfl dX3_measure_1 ?_
  refine V_iload_n X dX3_measure_4 1 rfl ?_
  refine V_iconst (v := (-1)) X dX3_measure_5 (by decide) ?_
  refine C_iast X (N := 32) 27 (by decide) hX (b) rfl (by omega) (by decide) (fun _ => rfl) dX3_measure_6 (fun F1 hF1 => ?_)
  have hrF1 : tR xs ys F F1 b 0 := tR_0 hF1
  have hJF1 := (cRw.rfl' : cRw sRo F F).set hF1 (zsRo (by omega))
  refine V_iconst (v := nI 0) X dX3_measure_7 (by decide) ?_
  refine V_istore_n X [(2, .int (nI (0))), (0, .ref (X0 + 23)), (1, .int (nI (b)))] dX3_measure_8 (by decide) rfl ?_
  have L9 : ∀ (n9 : Nat) (i9 : Nat) (G9 : Nat → Nat → Int32), n9 = nT - i9 → i9 ≤ nT → cRw sRo F G9 → tR xs ys F G9 b i9 → V g κ 4 0 0 (t, cW g X0 G9 σ0) 9 [(2, .int (nI (i9))), (0, .ref (X0 + 23)), (1, .int (nI (b)))] [] := by
    intro n9
    induction n9 using Nat.strongRecOn with
    | ind n9 ih9 =>
      intro i9 G9 hn9 hi9 hJ9 hv9_0
      refine V_iload_n X dX3_measure_9 0 rfl ?_
      refine V_aload_n X dX3_measure_10 1 rfl ?_
      refine C_getfN (z := nI (nT)) X fl_X3_29 23 (by decide) rfl rfl (hI.mvR hJ9).f23_4 dX3_measure_11 ?_
      refine V_icmpgeN X (by omega) (by omega) (tgt := 96) dX3_measure_14 (by decide) (fun h2 => ?_) (fun h2 => ?_)
      · -- 14 true
        exact V_vret X E (Nat.zero_le _) (Nat.zero_le _) ⟨rfl, _, rfl, hJ9, tR_end hb hbn h0 (by rw [← show i9 = nT by omega]; exact hv9_0) hT⟩ dX3_measure_96
      · -- 14 false
        refine V_iload_n X dX3_measure_17 2 rfl ?_
        refine V_iload_n X dX3_measure_18 0 rfl ?_
        refine V_callSN (rest := []) X E.room ml_X3_37 st_X5_has (by omega) (by decide) (k_X5_has (σ := (t, cW g X0 G9 σ0)) (nI (b)) (nI (i9))) rfl rfl (Nat.le_of_ble_eq_true rfl) ⟨Nat.le_refl _, Nat.le_refl _⟩ dX3_measure_19 (fun _ _ h => False.elim h) (fun v19 σ' hp19 => ?_)
        obtain ⟨hp19, rfl⟩ := hp19
        obtain ⟨r3, rfl, hr3, fr3⟩ := hp19
        show V g κ 4 0 0 (t, cW g X0 G9 σ0) 22 [(2, .int (nI (i9))), (0, .ref (X0 + 23)), (1, .int (nI (b)))] [.int (r3)]
        refine V_ifne X (tgt := 28) dX3_measure_22 (by decide) (fun h4 => ?_) (fun h4 => ?_)
        · -- 22 true
          have zh4 := fr3.mp h4
          have hb5 : (b).testBit i9 = true := (zIn_nat (by omega) (by omega)).mp zh4
          refine V_aload_n X dX3_measure_28 1 rfl ?_
          refine C_getf X fl_X3_26 23 (by decide) rfl rfl dX3_measure_29 ?_
          refine V_iload_n X dX3_measure_32 2 rfl ?_
          refine C_row X (b) rfl (by omega) dX3_measure_33 ?_
          show V g κ 4 0 0 (t, cW g X0 G9 σ0) 34 [(2, .int (nI (i9))), (0, .ref (X0 + 23)), (1, .int (nI (b)))] (.ref (X0 + (29 + (b))) :: [])
          refine V_iload_n X dX3_measure_34 0 rfl ?_
          refine V_aload_n X dX3_measure_35 1 rfl ?_
          refine V_iload_n X dX3_measure_36 2 rfl ?_
          refine V_iconst (v := nI 1) X dX3_measure_37 (by decide) ?_
          refine V_iload_n X dX3_measure_38 0 rfl ?_
          refine V_ishl1 X (by omega) dX3_measure_39 ?_
          refine V_iconst (v := (-1)) X dX3_measure_40 (by decide) ?_
          refine V_ixor X dX3_measure_41 (V.topi (fun w6 ew6 => ?_))
          refine V_iandL X (by omega) dX3_measure_42 (fun j7 hj7 ej7 => ?_)
          obtain ⟨hd1, hd2, hd3⟩ := tk_del b hb i9 (by omega) hb5
          have ej9 : b &&& (31 ^^^ 2 ^ i9) = j7 := by
            have z9 := (zab_less b hb (2 ^ i9) (tk_one i9 (by omega)).1).1
            have z8 : nI b &&& w6 = nI j7 := ej7
            rw [ew6] at z8
            exact (nI_eq (by omega) (by omega)).mp (z9.symm.trans z8)
          subst ej9
          show V g κ 4 0 0 (t, cW g X0 G9 σ0) 43 [(2, .int (nI (i9))), (0, .ref (X0 + 23)), (1, .int (nI (b)))] [.int (nI (b &&& (31 ^^^ 2 ^ i9))), .ref (X0 + 23), .int (nI (i9)), .ref (X0 + (29 + (b)))]
          refine V_iload_n X dX3_measure_43 0 rfl ?_
          have hC9 : tC xs ys G9 nT := hC.mv (fun k j q => hv9_0.1 k j (by omega) (by omega))
          refine V_callV (rest := [.int (nI (i9)), .ref (X0 + (29 + (b)))]) X E.room ml_X3_41 in_X3_milesOut (ci := 7) rfl se_X3_milesOut (C_recv (q := 23) (by decide) rfl) (by decide) (by decide) (k_X3_milesOut_x hX (hI.mvR hJ9) (b &&& (31 ^^^ 2 ^ i9)) i9 (by omega) (by omega) (by omega) xs ys hC9 (fun t ht => by rw [hv9_0.1 (29 + (b &&& (31 ^^^ 2 ^ i9))) t (by omega) (by omega)]; exact (hT _ hd1).2 t ht) hd2) rfl rfl (Nat.le_of_ble_eq_true rfl) ⟨Nat.le_refl _, Nat.le_refl _⟩ dX3_measure_44 (fun _ _ h => False.elim h) (fun v44 σ' hp44 => ?_)
          obtain ⟨⟨r9, rfl, fr9⟩, rfl⟩ := hp44
          rw [hd3] at fr9
          obtain ⟨k9, rfl, hk9, hm9⟩ := fr9
          show V g κ 4 0 0 (t, cW g X0 G9 σ0) 47 [(2, .int (nI (i9))), (0, .ref (X0 + 23)), (1, .int (nI (b)))] [.int (nI (k9)), .int (nI (i9)), .ref (X0 + (29 + (b)))]
          refine C_iast X (N := 5) (29 + (b)) (by omega) hX (i9) rfl (by omega) (by decide) (cCell_row g X0 (by omega)) dX3_measure_47 (fun F8 hF8 => ?_)
          have hCF8 : tC xs ys F8 nT := hC9.mv (fun k j q => by rw [hF8, fset_ne (by omega)])
          have hJF8 := (hJ9 : cRw sRo F G9).set hF8 (zsRo (by omega))
          refine V_aload_n X dX3_measure_48 1 rfl ?_
          refine C_getf X fl_X3_26 23 (by decide) rfl rfl dX3_measure_49 ?_
          refine V_iload_n X dX3_measure_52 2 rfl ?_
          refine C_row X (b) rfl (by omega) dX3_measure_53 ?_
          show V g κ 4 0 0 (t, cW g X0 F8 σ0) 54 [(2, .int (nI (i9))), (0, .ref (X0 + 23)), (1, .int (nI (b)))] (.ref (X0 + (29 + (b))) :: [])
          refine V_iload_n X dX3_measure_54 0 rfl ?_
          refine C_iald X (N := 5) (29 + (b)) (by omega) (i9) rfl (by omega) (by decide) (cCell_row g X0 (by omega) _) dX3_measure_55 ?_
          rw [show F8 (29 + b) i9 = nI k9 by rw [hF8, fset_eq]]
          refine V_aload_n X dX3_measure_56 1 rfl ?_
          refine V_iload_n X dX3_measure_57 0 rfl ?_
          refine V_callV (rest := [.int (nI (k9))]) X E.room ml_X3_45 in_X3_milesHome (ci := 7) rfl se_X3_milesHome (C_recv (q := 23) (by decide) rfl) (by decide) (by decide) (k_X3_milesHome hX (hI.mvR hJF8) (i9) (by omega)) rfl rfl (Nat.le_of_ble_eq_true rfl) ⟨Nat.le_refl _, Nat.le_refl _⟩ dX3_measure_58 (fun _ _ h => False.elim h) (fun v58 σ' hp58 => ?_)
          obtain ⟨hp58, rfl⟩ := hp58
          rw [(hCF8.2.2 (i9) (by omega)).1, (hCF8.2.2 (i9) (by omega)).2, nI_add] at hp58
          cases (hp58 : _ = some (Value.int (nI (xs i9 + ys i9))))
          show V g κ 4 0 0 (t, cW g X0 F8 σ0) 61 [(2, .int (nI (i9))), (0, .ref (X0 + 23)), (1, .int (nI (b)))] [.int (nI ((xs i9 + ys i9))), .int (nI (k9))]
          refine V_iaddN X dX3_measure_61 ?_
          refine V_istore_n X [(3, .int (nI (k9 + (xs i9 + ys i9)))), (2, .int (nI (i9))), (0, .ref (X0 + 23)), (1, .int (nI (b)))] dX3_measure_62 (by decide) rfl ?_
          refine V_aload_n X dX3_measure_63 2 rfl ?_
          refine C_getf X fl_X3_21 23 (by decide) rfl rfl dX3_measure_64 ?_
          refine V_iload_n X dX3_measure_67 3 rfl ?_
          refine C_iald X (N := 32) 27 (by decide) (b) rfl (by omega) (by decide) rfl dX3_measure_68 ?_
          refine V.topi (fun x9 ex9 => ?_)
          rw [show F8 27 b = G9 27 b by rw [hF8, fset_ne (by omega)]] at ex9
          refine V_iconst (v := (-1)) X dX3_measure_69 (by decide) ?_
          refine V_icmpeq X (tgt := 83) dX3_measure_70 (by decide) (fun h10 => ?_) (fun h10 => ?_)
          · -- 70 true
            refine V_aload_n X dX3_measure_83 2 rfl ?_
            refine C_getf X fl_X3_21 23 (by decide) rfl rfl dX3_measure_84 ?_
            refine V_iload_n X dX3_measure_87 3 rfl ?_
            refine V_iload_n X dX3_measure_88 0 rfl ?_
            refine C_iast X (N := 32) 27 (by decide) hX (b) rfl (by omega) (by decide) (fun _ => rfl) dX3_measure_89 (fun F11 hF11 => ?_)
            have hJF11 := (hJF8 : cRw sRo F F8).set hF11 (zsRo (by omega))
            refine V_iinc X (nI (i9 + 1)) [(2, .int (nI (i9 + 1))), (3, .int (nI (k9 + (xs i9 + ys i9)))), (0, .ref (X0 + 23)), (1, .int (nI (b)))] dX3_measure_90 1 rfl (zinc _) (by decide) rfl ?_
            refine V_goto (tgt := 9) X dX3_measure_93 (by decide) ?_
            exact V.sub [0, 2, 3] rfl (ih9 _ (by omega) (i9 + 1) F11 rfl (by omega) hJF11 (tR_yes hC.1 hC.2.1 hv9_0 hk9 hm9 (v := k9 + (xs i9 + ys i9)) rfl hF8 (Or.inl ⟨hF11, Or.inl (ex9.symm.trans h10)⟩)))
          · -- 70 false
            refine V_iload_n X dX3_measure_73 0 rfl ?_
            refine V_aload_n X dX3_measure_74 2 rfl ?_
            refine C_getf X fl_X3_21 23 (by decide) rfl rfl dX3_measure_75 ?_
            refine V_iload_n X dX3_measure_78 3 rfl ?_
            refine C_iald X (N := 32) 27 (by decide) (b) rfl (by omega) (by decide) rfl dX3_measure_79 ?_
            refine V.topi (fun x12 ex12 => ?_)
            rw [show F8 27 b = G9 27 b by rw [hF8, fset_ne (by omega)]] at ex12
            refine V_icmpge X (tgt := 90) dX3_measure_80 (by decide) (fun h13 => ?_) (fun h13 => ?_)
            · -- 80 true
              refine V_iinc X (nI (i9 + 1)) [(2, .int (nI (i9 + 1))), (3, .int (nI (k9 + (xs i9 + ys i9)))), (0, .ref (X0 + 23)), (1, .int (nI (b)))] dX3_measure_90 1 rfl (zinc _) (by decide) rfl ?_
              refine V_goto (tgt := 9) X dX3_measure_93 (by decide) ?_
              exact V.sub [0, 2, 3] rfl (ih9 _ (by omega) (i9 + 1) F8 rfl (by omega) hJF8 (tR_yes hC.1 hC.2.1 hv9_0 hk9 hm9 (v := k9 + (xs i9 + ys i9)) rfl hF8 (Or.inr ⟨rfl, fun q => h10 (ex9.trans q), fun q => absurd (Int32.lt_of_lt_of_le (by rw [ex12]; exact q) h13) Int32.lt_irrefl⟩)))
            · -- 80 false
              refine V_aload_n X dX3_measure_83 2 rfl ?_
              refine C_getf X fl_X3_21 23 (by decide) rfl rfl dX3_measure_84 ?_
              refine V_iload_n X dX3_measure_87 3 rfl ?_
              refine V_iload_n X dX3_measure_88 0 rfl ?_
              refine C_iast X (N := 32) 27 (by decide) hX (b) rfl (by omega) (by decide) (fun _ => rfl) dX3_measure_89 (fun F14 hF14 => ?_)
              have hJF14 := (hJF8 : cRw sRo F F8).set hF14 (zsRo (by omega))
              refine V_iinc X (nI (i9 + 1)) [(2, .int (nI (i9 + 1))), (3, .int (nI (k9 + (xs i9 + ys i9)))), (0, .ref (X0 + 23)), (1, .int (nI (b)))] dX3_measure_90 1 rfl (zinc _) (by decide) rfl ?_
              refine V_goto (tgt := 9) X dX3_measure_93 (by decide) ?_
              exact V.sub [0, 2, 3] rfl (ih9 _ (by omega) (i9 + 1) F14 rfl (by omega) hJF14 (tR_yes hC.1 hC.2.1 hv9_0 hk9 hm9 (v := k9 + (xs i9 + ys i9)) rfl hF8 (Or.inl ⟨hF14, Or.inr (by rw [← ex12]; exact Int32.not_le.mp h13)⟩)))
        · -- 22 false
          have zh4 := mt fr3.mpr (not_not_intro h4)
          have hb15 : ¬ (b).testBit i9 = true := fun q => zh4 ((zIn_nat (by omega) (by omega)).mpr q)
          refine V_goto (tgt := 90) X dX3_measure_25 (by decide) ?_
          refine V_iinc X (nI (i9 + 1)) [(2, .int (nI (i9 + 1))), (0, .ref (X0 + 23)), (1, .int (nI (b)))] dX3_measure_90 0 rfl (zinc _) (by decide) rfl ?_
          refine V_goto (tgt := 9) X dX3_measure_93 (by decide) ?_
          exact V.sub [0, 1, 2] rfl (ih9 _ (by omega) (i9 + 1) G9 rfl (by omega) hJ9 (tR_no hv9_0 hb15))
  exact L9 _ 0 F1 rfl (by omega) hJF1 (hrF1)
set_option maxRecDepth 100000 in
set_option maxHeartbeats 4000000 in
theorem k_X3_addTown_x {g : zG} {t : Nat × Nat} {X0 : Nat} {σ0 : Nat → Option va_E} {F : Nat → Nat → Int32} (hX : g.2.1.size ≤ X0) {nP nS nA nC nT : Nat} (hI : cI nP nS nA nC nT F) (hb : nT < 5) (x9 y9 : Nat) (hx9 : x9 ≤ 99) (hy9 : y9 ≤ 99) (a3 : Int32) (hT : cTt nT F) : Ct g 13 yX3_addTown cX3_addTown 6 (some FieldType.int) 0 0 [.ref (X0 + 23), .int (nI (x9)), .int (nI (y9)), .int (a3)] (t, cW g X0 F σ0) (fun v σ' => v = some (.int (nI nT)) ∧ ∃ F1 F' : Nat → Nat → Int32, σ' = (t, cW g X0 F' σ0) ∧ F1 = fset (fset (fset (fset F 24 nT (nI x9)) 25 nT (nI y9)) 26 nT a3) 23 4 (nI (nT + 1)) ∧ cRw sRo F1 F' ∧ cI nP nS nA nC (nT + 1) F' ∧ cTt (nT + 1) F') zNo := by
  refine Ct.of (lv := [(0, .ref (X0 + 23)), (1, .int (nI (x9))), (2, .int (nI (y9))), (3, .int (a3))]) (by decide) (Nat.le_of_ble_eq_true rfl) rfl ?_
  intro κ X E B _
  have X : zX g κ RX3 cX3_addTown 6 := X
  obtain ⟨b1, b2, b3, b4, b5⟩ := hI.bnd
  have h32 : 2 ^ (nT + 1) ≤ 32 := zp2 (n := 5) (by omega)
  have hle : 2 ^ nT ≤ 2 ^ (nT + 1) := zp2 (by omega)
  have h1 := Nat.one_le_two_pow (n := nT)
  obtain ⟨xs, ys, hC, hB⟩ := hT
  refine V_aload_n X dX3_addTown_0 0 rfl ?_
  refine C_getfN (z := nI (nT)) X fl_X3_29 23 (by decide) rfl rfl hI.f23_4 dX3_addTown_1 ?_
  refine V_istore X [(4, .int (nI (nT))), (0, .ref (X0 + 23)), (1, .int (nI (x9))), (2, .int (nI (y9))), (3, .int (a3))] dX3_addTown_4 (by decide) rfl ?_
  refine V_aload_n X dX3_addTown_6 1 rfl ?_
  refine C_getf X fl_X3_9 23 (by decide) rfl rfl dX3_addTown_7 ?_
  refine V_iload X dX3_addTown_10 0 rfl ?_
  refine V_iload_n X dX3_addTown_12 2 rfl ?_
  refine C_iast X (N := 5) 24 (by decide) hX (nT) rfl (by omega) (by decide) (fun _ => rfl) dX3_addTown_13 (fun F1 hF1 => ?_)
  have hIF1 := (hI).st hF1 rfl
  refine V_aload_n X dX3_addTown_14 1 rfl ?_
  refine C_getf X fl_X3_15 23 (by decide) rfl rfl dX3_addTown_15 ?_
  refine V_iload X dX3_addTown_18 0 rfl ?_
  refine V_iload_n X dX3_addTown_20 3 rfl ?_
  refine C_iast X (N := 5) 25 (by decide) hX (nT) rfl (by omega) (by decide) (fun _ => rfl) dX3_addTown_21 (fun F2 hF2 => ?_)
  have hIF2 := (hIF1).st hF2 rfl
  refine V_aload_n X dX3_addTown_22 1 rfl ?_
  refine C_getf X fl_X3_18 23 (by decide) rfl rfl dX3_addTown_23 ?_
  refine V_iload X dX3_addTown_26 0 rfl ?_
  refine V_iload_n X dX3_addTown_28 4 rfl ?_
  refine C_iast X (N := 5) 26 (by decide) hX (nT) rfl (by omega) (by decide) (fun _ => rfl) dX3_addTown_29 (fun F3 hF3 => ?_)
  have hIF3 := (hIF2).st hF3 rfl
  refine V_aload_n X dX3_addTown_30 1 rfl ?_
  refine V_dup X dX3_addTown_31 rfl ?_
  refine C_getfN (z := nI (nT)) X fl_X3_29 23 (by decide) rfl rfl hIF3.f23_4 dX3_addTown_32 ?_
  refine V_iconst (v := nI 1) X dX3_addTown_35 (by decide) ?_
  refine V_iaddN X dX3_addTown_36 ?_
  refine C_putf X fl_X3_29 zt_X3 23 (by decide) hX rfl (Nat.le_of_ble_eq_true rfl) rfl rfl rfl rfl rfl dX3_addTown_37 (fun F4 hF4 => ?_)
  have hIF4 := (hIF3).incT hF4 (by omega)
  have o4 : ∀ k q, ¬ (k = 24 ∧ q = nT) → ¬ (k = 25 ∧ q = nT) → k ≠ 26 → k ≠ 23 → F4 k q = F k q := fun k q z1 z2 z3 z4 => by rw [hF4, fset_ne (by omega), hF3, fset_ne (by omega), hF2, fset_ne (by omega), hF1, fset_ne (by omega)]
  have hC4 : tC (fun i => if i = nT then x9 else xs i) (fun i => if i = nT then y9 else ys i) F4 (nT + 1) := hC.more hx9 hy9 (by rw [hF4, fset_ne (by omega), hF3, fset_ne (by omega), hF2, fset_ne (by omega), hF1, fset_eq]) (by rw [hF4, fset_ne (by omega), hF3, fset_ne (by omega), hF2, fset_eq]) (fun k q z1 z2 => o4 k q (by omega) (by omega) (by omega) (by omega))
  have hB4 : tB (fun i => if i = nT then x9 else xs i) (fun i => if i = nT then y9 else ys i) F4 (2 ^ nT) := (hB.more (a := x9) (c := y9)).mv (fun k j z => o4 k j (by omega) (by omega) (by omega) (by omega))
  refine V_iconst (v := nI 1) X dX3_addTown_40 (by decide) ?_
  refine V_iload X dX3_addTown_41 0 rfl ?_
  refine V_ishl1 X (by omega) dX3_addTown_43 ?_
  refine V_istore X [(5, .int (nI (2 ^ (nT)))), (4, .int (nI (nT))), (0, .ref (X0 + 23)), (1, .int (nI (x9))), (2, .int (nI (y9))), (3, .int (a3))] dX3_addTown_44 (by decide) rfl ?_
  have L46 : ∀ (n46 : Nat) (i46 : Nat) (G46 : Nat → Nat → Int32), n46 = 2 ^ (nT + 1) - i46 → i46 ≤ 2 ^ (nT + 1) → 2 ^ (nT) ≤ i46 → cRw sRo F4 G46 → tB (fun i => if i = nT then x9 else xs i) (fun i => if i = nT then y9 else ys i) G46 i46 → V g κ 6 0 0 (t, cW g X0 G46 σ0) 46 [(5, .int (nI (i46))), (4, .int (nI (nT))), (0, .ref (X0 + 23)), (1, .int (nI (x9))), (2, .int (nI (y9))), (3, .int (a3))] [] := by
    intro n46
    induction n46 using Nat.strongRecOn with
    | ind n46 ih46 =>
      intro i46 G46 hn46 hi46 hl46 hJ46 hv46_0
      refine V_iload X dX3_addTown_46 0 rfl ?_
      refine V_iconst (v := nI 1) X dX3_addTown_48 (by decide) ?_
      refine V_aload_n X dX3_addTown_49 2 rfl ?_
      refine C_getfN (z := nI (nT + 1)) X fl_X3_29 23 (by decide) rfl rfl (hIF4.mvR hJ46).f23_4 dX3_addTown_50 ?_
      refine V_ishl1 X (by omega) dX3_addTown_53 ?_
      refine V_icmpgeN X (by omega) (by omega) (tgt := 69) dX3_addTown_54 (by decide) (fun h5 => ?_) (fun h5 => ?_)
      · -- 54 true
        refine V_iload X dX3_addTown_69 1 rfl ?_
        exact V_iret X E (Nat.zero_le _) (Nat.zero_le _) ⟨rfl, F4, G46, rfl, by rw [hF4, hF3, hF2, hF1], hJ46, (hIF4.mvR hJ46), (fun i => if i = nT then x9 else xs i), (fun i => if i = nT then y9 else ys i), hC4.mv (fun k j q => hJ46 k j (decide_eq_false (by omega))), by rw [← show i46 = 2 ^ (nT + 1) by omega]; exact hv46_0⟩ dX3_addTown_71
      · -- 54 false
        refine V_aload_n X dX3_addTown_57 2 rfl ?_
        refine V_iload X dX3_addTown_58 0 rfl ?_
        refine V_callV (rest := []) X E.room ml_X3_33 in_X3_measure (ci := 7) rfl se_X3_measure (C_recv (q := 23) (by decide) rfl) (by decide) (by decide) (k_X3_measure_x hX (hIF4.mvR hJ46) i46 (by omega) (by omega) (by omega) (fun i => if i = nT then x9 else xs i) (fun i => if i = nT then y9 else ys i) (hC4.mv (fun k j q => hJ46 k j (decide_eq_false (by omega)))) hv46_0) rfl rfl (Nat.le_of_ble_eq_true rfl) ⟨Nat.le_refl _, Nat.le_refl _⟩ dX3_addTown_60 (fun _ _ h => False.elim h) (fun v60 σ' hp60 => ?_)
        obtain ⟨rfl, F6, rfl, hKF6, hTF6⟩ := hp60
        have hJF6 : cRw sRo F4 F6 := hJ46.trans hKF6
        show V g κ 6 0 0 (t, cW g X0 F6 σ0) 63 [(5, .int (nI (i46))), (4, .int (nI (nT))), (0, .ref (X0 + 23)), (1, .int (nI (x9))), (2, .int (nI (y9))), (3, .int (a3))] []
        refine V_iinc X (nI (i46 + 1)) [(5, .int (nI (i46 + 1))), (4, .int (nI (nT))), (0, .ref (X0 + 23)), (1, .int (nI (x9))), (2, .int (nI (y9))), (3, .int (a3))] dX3_addTown_63 0 rfl (zinc _) (by decide) rfl ?_
        refine V_goto (tgt := 46) X dX3_addTown_66 (by decide) ?_
        exact V.sub [0, 1, 2, 3, 4, 5] rfl (ih46 _ (by omega) (i46 + 1) F6 rfl (by omega) (by omega) hJF6 (hTF6))
  exact L46 _ (2 ^ (nT)) F4 rfl (by omega) (by omega) cRw.rfl' (hB4)
set_option maxRecDepth 100000 in
set_option maxHeartbeats 4000000 in
theorem k_X3_bestTour_x {g : zG} {t : Nat × Nat} {X0 : Nat} {σ0 : Nat → Option va_E} {F : Nat → Nat → Int32} (hX : g.2.1.size ≤ X0) {nP nS nA nC nT : Nat} (hI : cI nP nS nA nC nT F) (mo : Nat) (hmo : mo ≤ 2000) (xs ys ks : Nat → Nat) (hC : tC xs ys F nT) (hB : tB xs ys F (2 ^ nT)) (hK : ∀ q, q < nT → F 26 q = nI (ks q) ∧ ks q ≤ 999) : Ct g 12 yX3_bestTour cX3_bestTour 5 (some FieldType.int) 0 0 [.ref (X0 + 23), .int (nI (mo))] (t, cW g X0 F σ0) (fun v σ' => (∃ e r : Nat, v = some (.int (nI e)) ∧ e < 2 ^ nT ∧ F 27 e = nI r ∧ tW (tKey xs ys ks nT mo) (tS ks nT e) r e) ∧ σ' = (t, cW g X0 F σ0)) zNo := by
  refine Ct.of (lv := [(0, .ref (X0 + 23)), (1, .int (nI (mo)))]) (by decide) (Nat.le_of_ble_eq_true rfl) rfl ?_
  intro κ X E B _
  have X : zX g κ RX3 cX3_bestTour 5 := X
  obtain ⟨b1, b2, b3, b4, b5⟩ := hI.bnd
  have h32 : 2 ^ nT ≤ 32 := zp2 (n := 5) (by omega)
  have h1 := Nat.one_le_two_pow (n := nT)
  refine V_iconst (v := nI 0) X dX3_bestTour_0 (by decide) ?_
  refine V_istore_n X [(2, .int (nI (0))), (0, .ref (X0 + 23)), (1, .int (nI (mo)))] dX3_bestTour_1 (by decide) rfl ?_
  refine V_iconst (v := nI 1) X dX3_bestTour_2 (by decide) ?_
  refine V_istore_n X [(3, .int (nI (1))), (2, .int (nI (0))), (0, .ref (X0 + 23)), (1, .int (nI (mo)))] dX3_bestTour_3 (by decide) rfl ?_
  have L4 : ∀ (n4 : Nat) (i4 : Nat) (y4_2 : Nat), n4 = 2 ^ nT - i4 → i4 ≤ 2 ^ nT → 1 ≤ i4 → y4_2 < i4 → tI xs ys ks F nT mo i4 y4_2 → V g κ 5 0 0 (t, cW g X0 F σ0) 4 [(3, .int (nI (i4))), (2, .int (nI (y4_2))), (0, .ref (X0 + 23)), (1, .int (nI (mo)))] [] := by
    intro n4
    induction n4 using Nat.strongRecOn with
    | ind n4 ih4 =>
      intro i4 y4_2 hn4 hi4 hl4 hy4_2 hv4_0
      refine V_iload_n X dX3_bestTour_4 0 rfl ?_
      refine V_iconst (v := nI 1) X dX3_bestTour_5 (by decide) ?_
      refine V_aload_n X dX3_bestTour_6 2 rfl ?_
      refine C_getfN (z := nI (nT)) X fl_X3_29 23 (by decide) rfl rfl hI.f23_4 dX3_bestTour_7 ?_
      refine V_ishl1 X (by omega) dX3_bestTour_10 ?_
      refine V_icmpgeN X (by omega) (by omega) (tgt := 73) dX3_bestTour_11 (by decide) (fun h1 => ?_) (fun h1 => ?_)
      · -- 11 true
        refine V_iload_n X dX3_bestTour_73 1 rfl ?_
        exact V_iret X E (Nat.zero_le _) (Nat.zero_le _) ⟨tI_end (show i4 = 2 ^ nT by omega) hv4_0, rfl⟩ dX3_bestTour_74
      · -- 11 false
        refine V_aload_n X dX3_bestTour_14 2 rfl ?_
        refine C_getf X fl_X3_21 23 (by decide) rfl rfl dX3_bestTour_15 ?_
        refine V_iload_n X dX3_bestTour_18 0 rfl ?_
        refine C_iald X (N := 32) 27 (by decide) (i4) rfl (by omega) (by decide) rfl dX3_bestTour_19 ?_
        obtain ⟨ri, eri, hri, hmi⟩ := (hB i4 (by omega)).1
        have bri := tT_le hC.1 hC.2.1 hri
        rw [eri]
        refine V_iload_n X dX3_bestTour_20 3 rfl ?_
        refine V_icmpleN X (by omega) (by omega) (tgt := 27) dX3_bestTour_21 (by decide) (fun h2 => ?_) (fun h2 => ?_)
        · -- 21 true
          refine V_aload_n X dX3_bestTour_27 2 rfl ?_
          refine V_iload_n X dX3_bestTour_28 0 rfl ?_
          refine V_callV (rest := []) X E.room ml_X3_54 in_X3_takingsOf (ci := 7) rfl se_X3_takingsOf (C_recv (q := 23) (by decide) rfl) (by decide) (by decide) (k_X3_takingsOf hX hI (nI (i4))) rfl rfl (Nat.le_of_ble_eq_true rfl) ⟨Nat.le_refl _, Nat.le_refl _⟩ dX3_bestTour_29 (fun _ _ h => False.elim h) (fun v3 σ' hp4 => ?_)
          obtain ⟨hp4, rfl⟩ := hp4
          rw [zss_tS (K := ks) (n := nT) (s := i4) (by omega) (by omega) (fun q hq => (hK q hq).1)] at hp4
          cases (hp4 : _ = some (Value.int (nI (tS ks nT (i4)))))
          show V g κ 5 0 0 (t, cW g X0 F σ0) 32 [(3, .int (nI (i4))), (2, .int (nI (y4_2))), (0, .ref (X0 + 23)), (1, .int (nI (mo)))] [.int (nI (tS ks nT (i4)))]
          refine V_aload_n X dX3_bestTour_32 2 rfl ?_
          refine V_iload_n X dX3_bestTour_33 1 rfl ?_
          refine V_callV (rest := [.int (nI (tS ks nT (i4)))]) X E.room ml_X3_54 in_X3_takingsOf (ci := 7) rfl se_X3_takingsOf (C_recv (q := 23) (by decide) rfl) (by decide) (by decide) (k_X3_takingsOf hX hI (nI (y4_2))) rfl rfl (Nat.le_of_ble_eq_true rfl) ⟨Nat.le_refl _, Nat.le_refl _⟩ dX3_bestTour_34 (fun _ _ h => False.elim h) (fun v5 σ' hp6 => ?_)
          obtain ⟨hp6, rfl⟩ := hp6
          rw [zss_tS (K := ks) (n := nT) (s := y4_2) (by omega) (by omega) (fun q hq => (hK q hq).1)] at hp6
          cases (hp6 : _ = some (Value.int (nI (tS ks nT (y4_2)))))
          show V g κ 5 0 0 (t, cW g X0 F σ0) 37 [(3, .int (nI (i4))), (2, .int (nI (y4_2))), (0, .ref (X0 + 23)), (1, .int (nI (mo)))] [.int (nI (tS ks nT (y4_2))), .int (nI (tS ks nT (i4)))]
          refine V_isub X dX3_bestTour_37 (V.topi (fun w7 ew7 => ?_))
          refine V_istore X [(4, .int (w7)), (3, .int (nI (i4))), (2, .int (nI (y4_2))), (0, .ref (X0 + 23)), (1, .int (nI (mo)))] dX3_bestTour_38 (by decide) rfl ?_
          refine V_iload X dX3_bestTour_40 0 rfl ?_
          refine V_ifgt X (tgt := 65) dX3_bestTour_42 (by decide) (fun h8 => ?_) (fun h8 => ?_)
          · -- 42 true
            have hz9 : tS ks nT (y4_2) < tS ks nT (i4) := (tS_gt (tS_le hK b5) (tS_le hK b5)).mp (by rw [← ew7]; exact h8)
            refine V_iload_n X dX3_bestTour_65 1 rfl ?_
            refine V_istore_n X [(2, .int (nI (i4))), (4, .int (w7)), (3, .int (nI (i4))), (0, .ref (X0 + 23)), (1, .int (nI (mo)))] dX3_bestTour_66 (by decide) rfl ?_
            refine V_iinc X (nI (i4 + 1)) [(3, .int (nI (i4 + 1))), (2, .int (nI (i4))), (4, .int (w7)), (0, .ref (X0 + 23)), (1, .int (nI (mo)))] dX3_bestTour_67 2 rfl (zinc _) (by decide) rfl ?_
            refine V_goto (tgt := 4) X dX3_bestTour_70 (by decide) ?_
            exact V.sub [0, 1, 3, 4] rfl (ih4 _ (by omega) (i4 + 1) (i4) rfl (by omega) (by omega) (by omega) (tI_new hv4_0 eri ⟨by omega, rfl, h2, hri⟩ hmi (Or.inl hz9)))
          · -- 42 false
            have hz10 : ¬ tS ks nT (y4_2) < tS ks nT (i4) := fun q => h8 (by rw [ew7]; exact (tS_gt (tS_le hK b5) (tS_le hK b5)).mpr q)
            refine V_iload X dX3_bestTour_45 0 rfl ?_
            refine V_ifne X (tgt := 67) dX3_bestTour_47 (by decide) (fun h11 => ?_) (fun h11 => ?_)
            · -- 47 true
              have hz12 : ¬ tS ks nT (i4) = tS ks nT (y4_2) := fun q => h11 (by rw [ew7]; exact (tS_eq (tS_le hK b5) (tS_le hK b5)).mpr q)
              refine V_iinc X (nI (i4 + 1)) [(3, .int (nI (i4 + 1))), (4, .int (w7)), (2, .int (nI (y4_2))), (0, .ref (X0 + 23)), (1, .int (nI (mo)))] dX3_bestTour_67 1 rfl (zinc _) (by decide) rfl ?_
              refine V_goto (tgt := 4) X dX3_bestTour_70 (by decide) ?_
              exact V.sub [0, 2, 3, 4] rfl (ih4 _ (by omega) (i4 + 1) (y4_2) rfl (by omega) (by omega) (by omega) (tI_keep hv4_0 hmi (Or.inl (by omega))))
            · -- 47 false
              have hz13 : tS ks nT (i4) = tS ks nT (y4_2) := (tS_eq (tS_le hK b5) (tS_le hK b5)).mp (by rw [← ew7]; exact h11)
              refine V_aload_n X dX3_bestTour_50 3 rfl ?_
              refine C_getf X fl_X3_21 23 (by decide) rfl rfl dX3_bestTour_51 ?_
              refine V_iload_n X dX3_bestTour_54 1 rfl ?_
              refine C_iald X (N := 32) 27 (by decide) (i4) rfl (by omega) (by decide) rfl dX3_bestTour_55 ?_
              rw [eri]
              refine V_aload_n X dX3_bestTour_56 3 rfl ?_
              refine C_getf X fl_X3_21 23 (by decide) rfl rfl dX3_bestTour_57 ?_
              refine V_iload_n X dX3_bestTour_60 2 rfl ?_
              refine C_iald X (N := 32) 27 (by decide) (y4_2) rfl (by omega) (by decide) rfl dX3_bestTour_61 ?_
              obtain ⟨hel, rb, erb, hw9⟩ := id hv4_0
              have brb := tT_le hC.1 hC.2.1 hw9.1.1.2.2.2
              rw [erb]
              refine V_icmpgeN X (by omega) (by omega) (tgt := 67) dX3_bestTour_62 (by decide) (fun h14 => ?_) (fun h14 => ?_)
              · -- 62 true
                refine V_iinc X (nI (i4 + 1)) [(3, .int (nI (i4 + 1))), (4, .int (w7)), (2, .int (nI (y4_2))), (0, .ref (X0 + 23)), (1, .int (nI (mo)))] dX3_bestTour_67 1 rfl (zinc _) (by decide) rfl ?_
                refine V_goto (tgt := 4) X dX3_bestTour_70 (by decide) ?_
                exact V.sub [0, 2, 3, 4] rfl (ih4 _ (by omega) (i4 + 1) (y4_2) rfl (by omega) (by omega) (by omega) (tI_keep hv4_0 hmi (Or.inr ⟨hz13, fun r er => by obtain rfl : rb = r := (nI_eq (by omega) (tT31 hC er.2)).mp (erb.symm.trans er.1); exact h14⟩)))
              · -- 62 false
                refine V_iload_n X dX3_bestTour_65 1 rfl ?_
                refine V_istore_n X [(2, .int (nI (i4))), (4, .int (w7)), (3, .int (nI (i4))), (0, .ref (X0 + 23)), (1, .int (nI (mo)))] dX3_bestTour_66 (by decide) rfl ?_
                refine V_iinc X (nI (i4 + 1)) [(3, .int (nI (i4 + 1))), (2, .int (nI (i4))), (4, .int (w7)), (0, .ref (X0 + 23)), (1, .int (nI (mo)))] dX3_bestTour_67 2 rfl (zinc _) (by decide) rfl ?_
                refine V_goto (tgt := 4) X dX3_bestTour_70 (by decide) ?_
                exact V.sub [0, 1, 3, 4] rfl (ih4 _ (by omega) (i4 + 1) (i4) rfl (by omega) (by omega) (by omega) (tI_new hv4_0 eri ⟨by omega, rfl, h2, hri⟩ hmi (Or.inr ⟨hz13, fun r er => by obtain rfl : rb = r := (nI_eq (by omega) (tT31 hC er.2)).mp (erb.symm.trans er.1); exact h14⟩)))
        · -- 21 false
          refine V_goto (tgt := 67) X dX3_bestTour_24 (by decide) ?_
          refine V_iinc X (nI (i4 + 1)) [(3, .int (nI (i4 + 1))), (2, .int (nI (y4_2))), (0, .ref (X0 + 23)), (1, .int (nI (mo)))] dX3_bestTour_67 0 rfl (zinc _) (by decide) rfl ?_
          refine V_goto (tgt := 4) X dX3_bestTour_70 (by decide) ?_
          exact V.sub [0, 1, 2, 3] rfl (ih4 _ (by omega) (i4 + 1) (y4_2) rfl (by omega) (by omega) (by omega) (tI_skip hv4_0 (by omega) hmi h2))
  exact L4 _ 1 (0) rfl (by omega) (by omega) (by omega) (tI_1 hB)
