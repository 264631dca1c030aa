/-! ===== Koenig: as many parts are filled as there are, less the greatest excess ===== -/
/-- the players that are reached from a part without a player, by so many turns -/
def kR (pm : Nat → Nat → Prop) (A U : Nat → Prop) (g : Nat → Nat) : Nat → Nat → Prop
  | 0, j => j < 5 ∧ ∃ p, A p ∧ (∀ i, U i → g i ≠ p) ∧ pm j p
  | d + 1, j => kR pm A U g d j ∨ (j < 5 ∧ ∃ i, kR pm A U g d i ∧ U i ∧ pm j (g i))
theorem zpc_or7 : ∀ k, k < 128 → ∀ i, i < 7 → k.testBit i = false → zpc (k ||| 2 ^ i) = zpc k + 1 := by decide +kernel
theorem zpc_split : ∀ u, u < 128 → ∀ w, w < 128 → zpc u = zpc (u &&& w) + zpc (u &&& (127 ^^^ w)) := by decide +kernel
theorem zpc_sub : ∀ a, a < 128 → ∀ b, b < 128 → a &&& b = a → zpc a ≤ zpc b := by decide +kernel
theorem zpc_disj : ∀ a, a < 128 → ∀ b, b < 128 → a &&& b = 0 → zpc (a ||| b) = zpc a + zpc b := by decide +kernel
theorem zSb_and : ∀ u, u < 128 → ∀ m, m < 128 → ((nI u &&& (nI m ^^^ (-1)) = 0) ↔ u &&& m = u) := by decide +kernel
theorem tb_127 : ∀ w, w < 128 → ∀ p, p < 7 → (127 ^^^ w).testBit p = !w.testBit p := by decide +kernel
theorem tb7lt {w p : Nat} (hw : w < 128) (h : w.testBit p = true) : p < 7 := Classical.byContradiction fun z => by
  rw [Nat.testBit_lt_two_pow (Nat.lt_of_lt_of_le hw (Nat.pow_le_pow_right (n := 2) (i := 7) (by decide) (by omega)))] at h
  cases h
section KOE
variable {pm : Nat → Nat → Prop} {A U S : Nat → Prop} {g : Nat → Nat} {k m nP u : Nat}
theorem kR_5 : ∀ {d j : Nat}, kR pm A U g d j → j < 5 := by
  intro d
  induction d with
  | zero => exact fun h => h.1
  | succ d ih => exact fun h => h.elim ih And.left
theorem kR_go (hg : ∀ i, U i → (i < 5 ∧ A (g i) ∧ pm i (g i)) ∧ ∀ j, U j → g j = g i → j = i) : ∀ (d j : Nat), kR pm A U g d j → ∃ g' : Nat → Nat, (∀ l, ¬ kR pm A U g d l → g' l = g l) ∧ (∀ i, (U i ∨ i = j) → (i < 5 ∧ A (g' i) ∧ pm i (g' i)) ∧ ∀ l, (U l ∨ l = j) → g' l = g' i → l = i) ∧ (U j → ∀ l, (U l ∨ l = j) → g' l ≠ g j) := by
  intro d
  induction d with
  | zero =>
    intro j hj9
    obtain ⟨hj, p, hp, hn, hm⟩ := id hj9
    obtain ⟨g', eg⟩ : ∃ g' : Nat → Nat, ∀ l, (l = j → g' l = p) ∧ (l ≠ j → g' l = g l) := ⟨fun l => if l = j then p else g l, fun l => ⟨fun z => if_pos z, fun z => if_neg z⟩⟩
    have ej : g' j = p := (eg j).1 rfl
    have el : ∀ l, l ≠ j → g' l = g l := fun l => (eg l).2
    refine ⟨g', fun l hl => el l (fun e => hl (e ▸ hj9)), fun i hi => ?_, fun uj l hl => ?_⟩
    · by_cases e : i = j
      · subst e
        rw [ej]
        refine ⟨⟨hj, hp, hm⟩, fun l hl e' => ?_⟩
        by_cases z : l = i
        · exact z
        · rw [el l z] at e'
          exact absurd e' (hn l (hl.resolve_right z))
      · have ui := hi.resolve_right e
        rw [el i e]
        refine ⟨(hg i ui).1, fun l hl e' => ?_⟩
        by_cases z : l = j
        · subst z
          rw [ej] at e'
          exact absurd e'.symm (hn i ui)
        · rw [el l z] at e'
          exact (hg i ui).2 l (hl.resolve_right z) e'
    · by_cases z : l = j
      · subst z
        rw [ej]
        exact fun e => hn l uj e.symm
      · rw [el l z]
        exact fun e => z ((hg j uj).2 l (hl.resolve_right z) e)
  | succ d ih =>
    intro j hj
    rcases Classical.em (kR pm A U g d j) with old | old
    · obtain ⟨g', a, b, c⟩ := ih j old
      exact ⟨g', fun l hl => a l (fun z => hl (Or.inl z)), b, c⟩
    · obtain ⟨j5, i, hi, ui, hm⟩ := hj.resolve_left old
      obtain ⟨g', a, b, c⟩ := ih i hi
      have nij : i ≠ j := fun e => old (e ▸ hi)
      obtain ⟨g2, e2⟩ : ∃ g2 : Nat → Nat, ∀ l, (l = j → g2 l = g i) ∧ (l ≠ j → g2 l = g' l) := ⟨fun l => if l = j then g i else g' l, fun l => ⟨fun z => if_pos z, fun z => if_neg z⟩⟩
      have ej : g2 j = g i := (e2 j).1 rfl
      have el : ∀ l, l ≠ j → g2 l = g' l := fun l => (e2 l).2
      have gj : g' j = g j := a j old
      refine ⟨g2, fun l hl => ?_, fun l hl => ?_, fun uj l hl => ?_⟩
      · rw [el l (fun e => hl (e ▸ hj))]
        exact a l (fun z => hl (Or.inl z))
      · by_cases z : l = j
        · subst z
          rw [ej]
          refine ⟨⟨j5, (hg i ui).1.2.1, hm⟩, fun q hq e => ?_⟩
          by_cases zq : q = l
          · exact zq
          · rw [el q zq] at e
            exact absurd e (c ui q (Or.inl (hq.resolve_right zq)))
        · have ul := hl.resolve_right z
          rw [el l z]
          refine ⟨(b l (Or.inl ul)).1, fun q hq e => ?_⟩
          by_cases zq : q = j
          · subst zq
            rw [ej] at e
            exact absurd e.symm (c ui l (Or.inl ul))
          · rw [el q zq] at e
            exact (b l (Or.inl ul)).2 q (Or.inl (hq.resolve_right zq)) e
      · by_cases z : l = j
        · subst z
          rw [ej]
          exact fun e => nij ((hg l uj).2 i ui e)
        · rw [el l z, ← gj]
          exact fun e => z ((b j (Or.inl uj)).2 l (Or.inl (hl.resolve_right z)) e)
/-- where the matching is greatest, none of these is free -/
theorem kR_U (h : MxK pm A k) (hg : ∀ i, U i → (i < 5 ∧ A (g i) ∧ pm i (g i)) ∧ ∀ j, U j → g j = g i → j = i) (hk : mcn U = k) {d j : Nat} (hj : kR pm A U g d j) : U j := Classical.byContradiction fun nu => by
  obtain ⟨g', -, b, -⟩ := kR_go hg d j hj
  have a := h.2 (fun i => U i ∨ i = j) ⟨g', b⟩
  have c : mcn (fun i => U i ∨ i = j) = mcn U + 1 := mcn_one (kR_5 hj) nu fun i _ => Iff.rfl
  omega
/-- the parts of some players, as bits -/
theorem kg_mask (h7 : ∀ i, S i → g i < 7) (inj : ∀ i j, S i → S j → g i = g j → i = j) : ∃ w, w < 128 ∧ zpc w = mcn S ∧ ∀ p, w.testBit p = true ↔ ∃ i, i < 5 ∧ S i ∧ g i = p := by
  have key : ∀ n, n ≤ 5 → ∃ w, w < 128 ∧ zpc w = mcn (fun i => S i ∧ i < n) ∧ ∀ p, w.testBit p = true ↔ ∃ i, i < n ∧ S i ∧ g i = p := by
    intro n
    induction n with
    | zero => exact fun _ => ⟨0, by decide, (mcn_0 fun i z => absurd z.2 (Nat.not_lt_zero i)).symm, fun p => by
        rw [Nat.zero_testBit]
        exact ⟨fun z => (by cases z), fun ⟨i, hi, _⟩ => absurd hi (Nat.not_lt_zero i)⟩⟩
    | succ n ih =>
      intro hn
      obtain ⟨w, w1, w2, w3⟩ := ih (by omega)
      rcases Classical.em (S n) with sn | sn
      · have hb : w.testBit (g n) = false := by
          cases e : w.testBit (g n) with
          | false => rfl
          | true =>
            obtain ⟨i, i1, i2, i3⟩ := (w3 (g n)).mp e
            have := inj i n i2 sn i3
            omega
        refine ⟨w ||| 2 ^ g n, Nat.or_lt_two_pow (n := 7) w1 (Nat.pow_lt_pow_right (by decide : 1 < 2) (h7 n sn) : 2 ^ g n < 2 ^ 7), ?_, fun p => ?_⟩
        · rw [zpc_or7 w w1 _ (h7 n sn) hb, w2]
          refine (mcn_one (j := n) (by omega) (fun z => absurd z.2 (Nat.lt_irrefl n)) fun i _ => ⟨fun ⟨a, b⟩ => ?_, fun z => z.elim (fun ⟨a, b⟩ => ⟨a, by omega⟩) (fun e => by rw [e]; exact ⟨sn, Nat.lt_succ_self n⟩)⟩).symm
          by_cases e : i = n
          · exact Or.inr e
          · exact Or.inl ⟨a, by omega⟩
        · rw [tb_or2, w3]
          constructor
          · rintro (⟨i, a, b⟩ | e)
            · exact ⟨i, by omega, b⟩
            · exact ⟨n, Nat.lt_succ_self n, sn, e.symm⟩
          · rintro ⟨i, a, b, c⟩
            by_cases e : i = n
            · exact Or.inr (e ▸ c).symm
            · exact Or.inl ⟨i, by omega, b, c⟩
      · refine ⟨w, w1, w2.trans (mcn_cg fun i _ => ⟨fun ⟨a, b⟩ => ⟨a, by omega⟩, fun ⟨a, b⟩ => ⟨a, ?_⟩⟩), fun p => (w3 p).trans ⟨fun ⟨i, a, b⟩ => ⟨i, by omega, b⟩, fun ⟨i, a, b⟩ => ⟨i, ?_, b⟩⟩⟩
        · by_cases e : i = n
          · exact absurd (e ▸ a) sn
          · omega
        · by_cases e : i = n
          · exact absurd (e ▸ b.1) sn
          · omega
  obtain ⟨w, a, b, c⟩ := key 5 (Nat.le_refl 5)
  exact ⟨w, a, b.trans (mcn_cg fun i hi => ⟨And.left, fun z => ⟨z, hi⟩⟩), c⟩
/-- some players as bits -/
theorem kg_bits (E : Nat → Prop) : ∃ w, w < 32 ∧ zpc w = mcn E ∧ ∀ i, i < 5 → (w.testBit i = true ↔ E i) := by
  obtain ⟨w, a, b, c⟩ := kg_mask (S := fun i => E i ∧ i < 5) (g := fun i => i) (fun i z => by have := z.2; show i < 7; omega) (fun i j _ _ e => e)
  refine ⟨w, Nat.lt_pow_two_of_testBit (n := 5) w fun i hi => ?_, b.trans (mcn_cg fun i hi => ⟨And.left, fun z => ⟨z, hi⟩⟩), fun i hi => (c i).trans ⟨fun ⟨j, _, z, e⟩ => e ▸ z.1, fun z => ⟨i, hi, ⟨z, hi⟩, rfl⟩⟩⟩
  cases e : w.testBit i with
  | false => rfl
  | true =>
    obtain ⟨j, _, z, e⟩ := (c i).mp e
    have e : j = i := e
    have := z.2
    omega
theorem MxK_ex (pm : Nat → Nat → Prop) (A : Nat → Prop) : ∃ k, MxK pm A k := by
  have key : ∀ n, (∃ k, n ≤ k ∧ ∃ U, Mt pm A U ∧ mcn U = k) ∨ ∀ U, Mt pm A U → mcn U < n := fun n => by
    rcases Classical.em (∃ k, n ≤ k ∧ ∃ U, Mt pm A U ∧ mcn U = k) with h | h
    · exact Or.inl h
    · exact Or.inr fun U hU => Nat.lt_of_not_le fun q => h ⟨_, q, U, hU, rfl⟩
  have go : ∀ n, n ≤ 6 → (∃ k, MxK pm A k) ∨ ∀ U, Mt pm A U → 6 - n ≤ mcn U → False := by
    intro n
    induction n with
    | zero => exact fun _ => Or.inr fun U _ h => by have := mcn_top U; omega
    | succ n ih =>
      intro hn
      rcases ih (by omega) with h | h
      · exact Or.inl h
      · rcases Classical.em (∃ U, Mt pm A U ∧ mcn U = 6 - (n + 1)) with ⟨U, a, b⟩ | q
        · exact Or.inl ⟨_, ⟨U, a, b⟩, fun V hV => Nat.le_of_not_lt fun z => h V hV (by omega)⟩
        · refine Or.inr fun U hU hc => ?_
          by_cases e : mcn U = 6 - (n + 1)
          · exact q ⟨U, hU, e⟩
          · exact h U hU (by omega)
  rcases go 6 (Nat.le_refl 6) with h | h
  · exact h
  · exact absurd (Nat.zero_le _) (fun q => h (fun _ => False) (Mt_0 fun _ => id) (by omega))
/-- for each set of parts there is an excess -/
theorem zEk_ex (pm : Nat → Nat → Prop) (h5 : ∀ i p, pm i p → i < 5) (nP u : Nat) : ∃ w x, w < 32 ∧ zpc w = mcn (fun i => ∃ p, p < nP ∧ u.testBit p = true ∧ pm i p) ∧ x = zbc (nI u) - nI (zpc w) ∧ zEk pm nP u x := by
  obtain ⟨w, a, b, c⟩ := kg_bits (fun i => ∃ p, p < nP ∧ u.testBit p = true ∧ pm i p)
  refine ⟨w, _, a, b, rfl, nI w, ⟨w, by omega, rfl, fun i => ?_⟩, by rw [zbc_zpc w (by omega)]⟩
  by_cases hi : i < 5
  · exact c i hi
  · constructor
    · intro z
      rw [Nat.testBit_lt_two_pow (Nat.lt_of_lt_of_le a (Nat.pow_le_pow_right (n := 2) (i := 5) (by decide) (by omega)))] at z
      cases z
    · rintro ⟨p, _, _, z⟩
      exact absurd (h5 i p z) hi
theorem zLk_ex (pm : Nat → Nat → Prop) (h5 : ∀ i p, pm i p → i < 5) (nP m : Nat) : ∃ c e, zLk (zEk pm nP) m (m + 1) c e := by
  have key : ∀ i, 1 ≤ i → ∃ c e, zLk (zEk pm nP) m i c e := by
    intro i
    induction i with
    | zero => exact fun h => absurd h (by decide)
    | succ i ih =>
      intro _
      by_cases e0 : i = 0
      · subst e0
        exact ⟨0, nI 0, zLk_0 zEk_0⟩
      · obtain ⟨c, e, h⟩ := ih (by omega)
        rcases Classical.em (zSb i m) with hs | hs
        · obtain ⟨w, x, -, -, -, hx⟩ := zEk_ex pm h5 nP i
          rcases Classical.em (e < x) with q | q
          · exact ⟨i, x, zLk_yes h hx hs q⟩
          · exact ⟨c, e, zLk_no h hx q⟩
        · exact ⟨c, e, zLk_skip h hs⟩
  exact key (m + 1) (by omega)
/-- no set of parts is more than its players by more than is left without a player -/
theorem koe_le (hm : m < 128) (hg : ∀ i, U i → (i < 5 ∧ (g i < nP ∧ m.testBit (g i) = true) ∧ pm i (g i)) ∧ ∀ j, U j → g j = g i → j = i) (hu : u < 128) (hs : u &&& m = u) : zpc u + mcn U ≤ zpc m + mcn (fun i => ∃ p, p < nP ∧ u.testBit p = true ∧ pm i p) := by
  have g7 : ∀ i, U i → g i < 7 := fun i hi => tb7lt hm (hg i hi).1.2.1.2
  obtain ⟨w, w1, w2, w3⟩ := kg_mask (S := U) (g := g) g7 (fun i j a b e => (hg j b).2 i a e)
  obtain ⟨v, v1, v2, v3⟩ := kg_mask (S := fun i => U i ∧ u.testBit (g i) = true) (g := g) (fun i z => g7 i z.1) (fun i j a b e => (hg j b.1).2 i a.1 e)
  have ev : u &&& w = v := Nat.eq_of_testBit_eq fun p => by
    rw [Bool.eq_iff_iff, Nat.testBit_and, Bool.and_eq_true, w3, v3]
    constructor
    · rintro ⟨a, i, b, c, d⟩
      exact ⟨i, b, ⟨c, d ▸ a⟩, d⟩
    · rintro ⟨i, b, ⟨c, e⟩, d⟩
      exact ⟨d ▸ e, i, b, c, d⟩
  have hle : zpc (u &&& (127 ^^^ w)) ≤ zpc (m &&& (127 ^^^ w)) := by
    refine zpc_sub _ (Nat.lt_of_le_of_lt Nat.and_le_left hu) _ (Nat.lt_of_le_of_lt Nat.and_le_left hm) ?_
    conv => rhs; rw [← hs]
    refine Nat.eq_of_testBit_eq fun p => ?_
    simp only [Nat.testBit_and]
    cases u.testBit p <;> cases m.testBit p <;> cases (127 ^^^ w).testBit p <;> rfl
  have hmw : m &&& w = w := Nat.eq_of_testBit_eq fun p => by
    rw [Bool.eq_iff_iff, Nat.testBit_and, Bool.and_eq_true]
    constructor
    · exact And.right
    · intro z
      obtain ⟨i, _, b, rfl⟩ := (w3 p).mp z
      exact ⟨(hg i b).1.2.1.2, z⟩
  have s1 := zpc_split u hu w w1
  have s2 := zpc_split m hm w w1
  rw [ev] at s1
  rw [hmw] at s2
  have s3 : mcn (fun i => U i ∧ u.testBit (g i) = true) ≤ mcn (fun i => ∃ p, p < nP ∧ u.testBit p = true ∧ pm i p) := mcn_le fun i _ z => ⟨g i, (hg i z.1).1.2.1.1, z.2, (hg i z.1).1.2.2⟩
  omega
theorem koe_k (hm : m < 128) (hg : ∀ i, U i → (i < 5 ∧ (g i < nP ∧ m.testBit (g i) = true) ∧ pm i (g i)) ∧ ∀ j, U j → g j = g i → j = i) : mcn U ≤ zpc m := by
  have g7 : ∀ i, U i → g i < 7 := fun i hi => tb7lt hm (hg i hi).1.2.1.2
  obtain ⟨w, w1, w2, w3⟩ := kg_mask (S := U) (g := g) g7 (fun i j a b e => (hg j b).2 i a e)
  rw [← w2]
  refine zpc_sub w w1 m hm (Nat.eq_of_testBit_eq fun p => ?_)
  rw [Bool.eq_iff_iff, Nat.testBit_and, Bool.and_eq_true]
  refine ⟨And.left, fun z => ⟨z, ?_⟩⟩
  obtain ⟨i, _, b, rfl⟩ := (w3 p).mp z
  exact (hg i b).1.2.1.2
/-- and some set is -/
theorem koe_ge (hm : m < 128) (hM : MxK pm (fun q => q < nP ∧ m.testBit q = true) k) (hg : ∀ i, U i → (i < 5 ∧ (g i < nP ∧ m.testBit (g i) = true) ∧ pm i (g i)) ∧ ∀ j, U j → g j = g i → j = i) (hk : mcn U = k) : ∃ u, u < 128 ∧ u &&& m = u ∧ zpc m + mcn (fun i => ∃ p, p < nP ∧ u.testBit p = true ∧ pm i p) ≤ zpc u + k ∨ ∃ p, m.testBit p = true ∧ ¬ p < nP := by
  rcases Classical.em (∃ p, m.testBit p = true ∧ ¬ p < nP) with bad | ok
  · exact ⟨0, Or.inr bad⟩
  have ok : ∀ p, m.testBit p = true → p < nP := fun p hp => Classical.byContradiction fun z => ok ⟨p, hp, z⟩
  have g7 : ∀ i, U i → g i < 7 := fun i hi => tb7lt hm (hg i hi).1.2.1.2
  obtain ⟨R, eR⟩ : ∃ R : Nat → Prop, ∀ i, R i ↔ ∃ d, kR pm (fun q => q < nP ∧ m.testBit q = true) U g d i := ⟨_, fun _ => Iff.rfl⟩
  have RU : ∀ i, R i → U i := fun i hi => by
    obtain ⟨d, hd⟩ := (eR i).mp hi
    exact kR_U hM hg hk hd
  obtain ⟨w, w1, w2, w3⟩ := kg_mask (S := U) (g := g) g7 (fun i j a b e => (hg j b).2 i a e)
  obtain ⟨v, v1, v2, v3⟩ := kg_mask (S := R) (g := g) (fun i z => g7 i (RU i z)) (fun i j a b e => (hg j (RU j b)).2 i (RU i a) e)
  have hmw : m &&& w = w := Nat.eq_of_testBit_eq fun p => by
    rw [Bool.eq_iff_iff, Nat.testBit_and, Bool.and_eq_true]
    constructor
    · exact And.right
    · intro z
      obtain ⟨i, _, b, rfl⟩ := (w3 p).mp z
      exact ⟨(hg i b).1.2.1.2, z⟩
  have hvw : ∀ p, v.testBit p = true → w.testBit p = true := fun p z => by
    obtain ⟨i, a, b, c⟩ := (v3 p).mp z
    exact (w3 p).mpr ⟨i, a, RU i b, c⟩
  have f1 : (m &&& (127 ^^^ w)) < 128 := Nat.lt_of_le_of_lt Nat.and_le_left hm
  have dis : (m &&& (127 ^^^ w)) &&& v = 0 := Nat.eq_of_testBit_eq fun p => by
    rw [Nat.zero_testBit]
    simp only [Nat.testBit_and]
    cases e : v.testBit p with
    | false => rw [Bool.and_false]
    | true => rw [tb_127 w w1 p (tb7lt v1 e), hvw p e]; simp
  have bits : ∀ p, ((m &&& (127 ^^^ w)) ||| v).testBit p = true ↔ (m.testBit p = true ∧ w.testBit p = false) ∨ v.testBit p = true := fun p => by
    rw [Nat.testBit_or, Bool.or_eq_true, Nat.testBit_and, Bool.and_eq_true]
    refine or_congr_left (and_congr_right fun z => ?_)
    rw [tb_127 w w1 p (tb7lt hm z)]
    cases w.testBit p <;> decide
  refine ⟨(m &&& (127 ^^^ w)) ||| v, Or.inl ⟨Nat.or_lt_two_pow (n := 7) f1 v1, Nat.eq_of_testBit_eq fun p => ?_, ?_⟩⟩
  · rw [Bool.eq_iff_iff, Nat.testBit_and, Bool.and_eq_true]
    refine ⟨And.left, fun z => ⟨z, ?_⟩⟩
    rcases (bits p).mp z with a | a
    · exact a.1
    · have := hvw p a
      rw [← hmw, Nat.testBit_and, Bool.and_eq_true] at this
      exact this.1
  · have s2 := zpc_split m hm w w1
    rw [hmw] at s2
    rw [zpc_disj _ f1 v v1 dis, v2]
    have nb : mcn (fun i => ∃ p, p < nP ∧ ((m &&& (127 ^^^ w)) ||| v).testBit p = true ∧ pm i p) ≤ mcn R := mcn_le fun i h5 z => by
      obtain ⟨p, p1, p2, p3⟩ := z
      rcases (bits p).mp p2 with ⟨a, b⟩ | a
      · refine (eR i).mpr ⟨0, h5, p, ⟨p1, a⟩, fun j uj e => ?_, p3⟩
        have := (w3 p).mpr ⟨j, (hg j uj).1.1, uj, e⟩
        rw [b] at this
        cases this
      · obtain ⟨j, j1, j2, j3⟩ := (v3 p).mp a
        obtain ⟨d, hd⟩ := (eR j).mp j2
        exact (eR i).mpr ⟨d + 1, Or.inr ⟨h5, j, hd, RU j j2, j3 ▸ p3⟩⟩
    omega
end KOE
/-- filled and excess make up the parts -/
theorem koe {pm : Nat → Nat → Prop} {nP m : Nat} (h5 : ∀ i p, pm i p → i < 5) (h7 : nP ≤ 7) (hm : m < 2 ^ nP) {sp : Int32} (es : sp = nI m) : mOk pm nP sp := by
  have h128 : m < 128 := Nat.lt_of_lt_of_le hm (zp2 (n := 7) h7)
  obtain ⟨k, hM⟩ := MxK_ex pm (fun q => q < nP ∧ m.testBit q = true)
  obtain ⟨⟨U, ⟨g, hg⟩, hk⟩, -⟩ := id hM
  obtain ⟨c, e, hl⟩ := zLk_ex pm h5 nP m
  refine ⟨m, k, c, e, hm, es, hM, hl, ?_⟩
  have cm : c < 128 ∧ c &&& m = c := by
    have h1 : c < m + 1 := hl.2.1.elim (fun z => by omega) id
    exact ⟨by omega, (zSb_and c (by omega) m h128).mp hl.2.2.1⟩
  -- what c is
  obtain ⟨w, x, w1, w2, ex, hx⟩ := zEk_ex pm h5 nP c
  have exe : e = x := zEk_un hl.1 hx
  have up := koe_le h128 hg cm.1 cm.2
  rw [hk, ← w2] at up
  -- what is reached
  obtain ⟨u, hu⟩ := koe_ge h128 hM hg hk
  rcases hu with ⟨u1, u2, u3⟩ | ⟨p, p1, p2⟩
  · obtain ⟨w', x', w1', w2', ex', hx'⟩ := zEk_ex pm h5 nP u
    rw [← w2'] at u3
    have um : u < m + 1 := by
      have : u ≤ m := by
        rw [← u2]
        exact Nat.and_le_right
      omega
    have lo := (hl.2.2.2 u um ((zSb_and u u1 m h128).mpr u2) x' hx').1
    have z1 := zpc_7 c cm.1
    have z2 := zpc_7 u u1
    have z3 := zpc_7 m h128
    have z4 := zpc_7 w (by omega)
    have z5 := zpc_7 w' (by omega)
    have k5 : k ≤ 5 := by rw [← hk]; exact mcn_top U
    rw [exe, ex, ex', zbc_zpc c cm.1, zbc_zpc u u1, Int32.lt_iff_toInt_lt, tS_int (by omega) (by omega), tS_int (by omega) (by omega)] at lo
    have km : k ≤ zpc m := by rw [← hk]; exact koe_k h128 hg
    have ee : e = nI (zpc m - k) := by
      rw [exe, ex, zbc_zpc c cm.1]
      apply Int32.toInt_inj.mp
      rw [tS_int (by omega) (by omega), nI_toInt (by omega)]
      omega
    rw [ee, nI_add, zbc_zpc m h128, show k + (zpc m - k) = zpc m by omega]
  · exact absurd (tk_n hm p1) p2
