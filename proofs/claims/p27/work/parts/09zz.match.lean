/-! ===== filling: how many of a set's parts find a player of their own ===== -/
/-- how many of the first seven bits are set -/
def zpc (m : Nat) : Nat := m % 2 + m / 2 % 2 + m / 4 % 2 + m / 8 % 2 + m / 16 % 2 + m / 32 % 2 + m / 64 % 2
theorem zbc_zpc : ∀ m, m < 128 → zbc (nI m) = nI (zpc m) := by decide +kernel
theorem zpc_7 : ∀ m, m < 128 → zpc m ≤ 7 := by decide +kernel
theorem zpc_all : ∀ n, n < 7 → zpc (2 ^ n - 1) = n ∧ ∀ u, u < 64 → u < 2 ^ n → n ≤ zpc u → u = 2 ^ n - 1 := by decide +kernel
theorem tb_or2 {u i j : Nat} : (u ||| 2 ^ i).testBit j = true ↔ u.testBit j = true ∨ j = i := by
  rw [Nat.testBit_or, Bool.or_eq_true, Nat.testBit_two_pow]
  exact or_congr Iff.rfl ⟨fun h => (of_decide_eq_true h).symm, fun h => decide_eq_true h.symm⟩
/-- the players of U can be at work, each in a part of his own out of A -/
def Mt (pm : Nat → Nat → Prop) (A U : Nat → Prop) : Prop := ∃ g : Nat → Nat, ∀ i, U i → (i < 5 ∧ A (g i) ∧ pm i (g i)) ∧ ∀ j, U j → g j = g i → j = i
section MT
variable {pm pm' : Nat → Nat → Prop} {A B U V : Nat → Prop} {p k k' : Nat}
theorem Mt_0 (h : ∀ i, ¬ U i) : Mt pm A U := ⟨fun _ => 0, fun i hi => absurd hi (h i)⟩
theorem Mt_sub (s : ∀ i, V i → U i) (h : Mt pm A U) : Mt pm A V := by
  obtain ⟨g, hg⟩ := h
  exact ⟨g, fun i hi => ⟨(hg i (s i hi)).1, fun j hj e => (hg i (s i hi)).2 j (s j hj) e⟩⟩
theorem Mt_A (s : ∀ q, A q → B q) (h : Mt pm A U) : Mt pm B U := by
  obtain ⟨g, hg⟩ := h
  exact ⟨g, fun i hi => ⟨⟨(hg i hi).1.1, s _ (hg i hi).1.2.1, (hg i hi).1.2.2⟩, (hg i hi).2⟩⟩
theorem Mt_pm (s : ∀ i q, A q → pm i q → pm' i q) (h : Mt pm A U) : Mt pm' A U := by
  obtain ⟨g, hg⟩ := h
  exact ⟨g, fun i hi => ⟨⟨(hg i hi).1.1, (hg i hi).1.2.1, s i _ (hg i hi).1.2.1 (hg i hi).1.2.2⟩, (hg i hi).2⟩⟩
theorem Mt_put {i : Nat} (hp : ¬ A p) (hi : i < 5) (hm : pm i p) (h : Mt pm A V) (hV : ¬ V i) : Mt pm (fun q => A q ∨ q = p) (fun j => V j ∨ j = i) := by
  obtain ⟨g, hg⟩ := h
  obtain ⟨g', eg⟩ : ∃ g' : Nat → Nat, g' = fun j => if j = i then p else g j := ⟨_, rfl⟩
  have ei : g' i = p := by rw [eg]; exact if_pos rfl
  have ej : ∀ j, V j → g' j = g j := fun j hj => by rw [eg]; exact if_neg (fun (e : j = i) => hV (e ▸ hj))
  refine ⟨g', fun j hj => ?_⟩
  rcases hj with hj | rfl
  · rw [ej j hj]
    refine ⟨⟨(hg j hj).1.1, Or.inl (hg j hj).1.2.1, (hg j hj).1.2.2⟩, fun l hl e => ?_⟩
    rcases hl with hl | rfl
    · rw [ej l hl] at e
      exact (hg j hj).2 l hl e
    · rw [ei] at e
      exact absurd (e ▸ (hg j hj).1.2.1) hp
  · rw [ei]
    refine ⟨⟨hi, Or.inr rfl, hm⟩, fun l hl e => ?_⟩
    rcases hl with hl | rfl
    · rw [ej l hl] at e
      exact absurd (e ▸ (hg l hl).1.2.1) hp
    · rfl
theorem Mt_step (hp : ¬ A p) : Mt pm (fun q => A q ∨ q = p) U ↔ Mt pm A U ∨ ∃ i, U i ∧ i < 5 ∧ pm i p ∧ Mt pm A (fun j => U j ∧ j ≠ i) := by
  constructor
  · rintro ⟨g, hg⟩
    rcases Classical.em (∃ i, U i ∧ g i = p) with ⟨i, hi, e⟩ | no
    · refine Or.inr ⟨i, hi, (hg i hi).1.1, e ▸ (hg i hi).1.2.2, g, fun j hj => ?_⟩
      have a := hg j hj.1
      refine ⟨⟨a.1.1, a.1.2.1.resolve_right (fun z => hj.2 ((hg i hi).2 j hj.1 (z.trans e.symm))), a.1.2.2⟩, fun l hl z => a.2 l hl.1 z⟩
    · refine Or.inl ⟨g, fun j hj => ?_⟩
      have a := hg j hj
      exact ⟨⟨a.1.1, a.1.2.1.resolve_right (fun z => no ⟨j, hj, z⟩), a.1.2.2⟩, a.2⟩
  · rintro (h | ⟨i, hi, h5, hm, h⟩)
    · exact Mt_A (fun q => Or.inl) h
    · refine Mt_sub (fun j hj => ?_) (Mt_put (i := i) hp h5 hm h (fun z => z.2 rfl))
      by_cases e : j = i
      · exact Or.inr e
      · exact Or.inl ⟨hj, e⟩
/-- k is the most -/
def MxK (pm : Nat → Nat → Prop) (A : Nat → Prop) (k : Nat) : Prop := (∃ U, Mt pm A U ∧ mcn U = k) ∧ ∀ U, Mt pm A U → mcn U ≤ k
theorem MxK_uniq (h : MxK pm A k) (h' : MxK pm A k') : k = k' := by
  obtain ⟨⟨U, a, b⟩, c⟩ := h
  obtain ⟨⟨U', a', b'⟩, c'⟩ := h'
  have := c _ a'
  have := c' _ a
  omega
theorem MxK_cg (eA : ∀ q, A q ↔ B q) (e : ∀ i q, A q → (pm i q ↔ pm' i q)) (h : MxK pm A k) : MxK pm' B k := by
  obtain ⟨⟨U, a, b⟩, c⟩ := h
  refine ⟨⟨U, Mt_A (fun q => (eA q).mp) (Mt_pm (fun i q hq => (e i q hq).mp) a), b⟩, fun V hV => c V (Mt_pm (fun i q hq => (e i q hq).mpr) (Mt_A (fun q => (eA q).mpr) hV))⟩
theorem mcn_0 (h : ∀ i, ¬ U i) : mcn U = 0 := by
  unfold mcn
  rw [mb_0 (h 0), mb_0 (h 1), mb_0 (h 2), mb_0 (h 3), mb_0 (h 4)]
theorem MxK_0 (hA : ∀ q, ¬ A q) : MxK pm A 0 := ⟨⟨fun _ => False, Mt_0 fun _ => id, mcn_0 fun _ => id⟩, fun U ⟨g, hg⟩ => by
  rw [mcn_0 fun i hi => hA _ (hg i hi).1.2.1]
  exact Nat.le_refl _⟩
theorem mcn_del {i : Nat} (hi : i < 5) (hU : U i) : mcn U = mcn (fun j => U j ∧ j ≠ i) + 1 := mcn_one hi (fun z => z.2 rfl) fun j _ => by
  by_cases e : j = i
  · exact ⟨fun _ => Or.inr e, fun _ => e ▸ hU⟩
  · exact ⟨fun q => Or.inl ⟨q, e⟩, fun q => (q.resolve_right e).1⟩
theorem MxK_succ (hp : ¬ A p) (h : MxK pm A k) (hU : Mt pm (fun q => A q ∨ q = p) U) (hk : mcn U = k + 1) : MxK pm (fun q => A q ∨ q = p) (k + 1) := by
  refine ⟨⟨U, hU, hk⟩, fun V hV => ?_⟩
  rcases (Mt_step hp).mp hV with a | ⟨i, hi, h5, -, a⟩
  · exact Nat.le_succ_of_le (h.2 V a)
  · rw [mcn_del h5 hi]
    exact Nat.succ_le_succ (h.2 _ a)
/-- nobody gives way: so no set of players is greater -/
theorem MxK_fail {T : Nat → Prop} {f : Nat → Nat} (h : MxK pm A k) (hT : ∀ j, T j → (j < 5 ∧ A (f j) ∧ pm j (f j)) ∧ (∀ i, pm i (f j) → T i) ∧ ∀ i, T i → f i = f j → i = j) (hp : ∀ i, pm i p → T i) : MxK pm (fun q => A q ∨ q = p) k := by
  obtain ⟨⟨U, a, b⟩, c⟩ := h
  refine ⟨⟨U, Mt_A (fun q => Or.inl) a, b⟩, fun V ⟨g, hg⟩ => ?_⟩
  obtain ⟨g', eg⟩ : ∃ g' : Nat → Nat, ∀ i, (T i → g' i = f i) ∧ (¬ T i → g' i = g i) := ⟨fun i => @ite Nat (T i) (Classical.propDecidable _) (f i) (g i), fun i => ⟨fun z => if_pos z, fun z => if_neg z⟩⟩
  have key : Mt pm A (fun i => T i ∨ V i) := by
    refine ⟨g', fun i hi => ?_⟩
    rcases Classical.em (T i) with ti | ti
    · rw [(eg i).1 ti]
      refine ⟨(hT i ti).1, fun j hj e => ?_⟩
      rcases Classical.em (T j) with tj | tj
      · rw [(eg j).1 tj] at e
        exact (hT i ti).2.2 j tj e
      · have vj := hj.resolve_left tj
        rw [(eg j).2 tj] at e
        exact absurd ((hT i ti).2.1 j (e ▸ (hg j vj).1.2.2)) tj
    · have vi := hi.resolve_left ti
      have m := (hg i vi).1
      rw [(eg i).2 ti]
      refine ⟨⟨m.1, m.2.1.resolve_right (fun z => ti (hp i (z ▸ m.2.2))), m.2.2⟩, fun j hj e => ?_⟩
      rcases Classical.em (T j) with tj | tj
      · rw [(eg j).1 tj] at e
        exact absurd ((hT j tj).2.1 i (e ▸ m.2.2)) ti
      · rw [(eg j).2 tj] at e
        exact (hg i vi).2 j (hj.resolve_left tj) e
  exact Nat.le_trans (mcn_le fun i _ hi => Or.inr hi) (c _ key)
end MT
/-! ===== sets of sets, as the bits of a number ===== -/
theorem zIn_or {x y a : Int32} : zIn (x ||| y) a ↔ zIn x a ∨ zIn y a := by
  unfold zIn
  have e : (x ||| y) >>> (a &&& 31) = (x >>> (a &&& 31)) ||| (y >>> (a &&& 31)) := by
    apply Int32.toBitVec_inj.mp
    rw [Int32.toBitVec_or, Int32.toBitVec_shiftRight, Int32.toBitVec_shiftRight, Int32.toBitVec_shiftRight, Int32.toBitVec_or]
    exact BitVec.sshiftRight_or_distrib _ _ _
  have d : ∀ u v : Int32, (u ||| v) &&& nI 1 = (u &&& nI 1) ||| (v &&& nI 1) := fun u v => by
    apply Int32.toBitVec_inj.mp
    simp only [Int32.toBitVec_and, Int32.toBitVec_or]
    apply BitVec.eq_of_getLsbD_eq
    intro i hi
    simp only [BitVec.getLsbD_and, BitVec.getLsbD_or, Bool.and_or_distrib_right]
  rw [e, d]
  rcases zand1 (x >>> (a &&& 31)) with h1 | h1 <;> rcases zand1 (y >>> (a &&& 31)) with h2 | h2 <;> rw [h1, h2] <;> decide
theorem zIn_shl : ∀ k, k < 32 → ∀ j, j < 32 → (zIn (nI 1 <<< (nI k &&& 31)) (nI j) ↔ j = k) := by
  have key : ∀ k, k < 32 → ∀ j, j < 32 → decide (((nI 1 <<< (nI k &&& 31)) >>> (nI j &&& 31)) &&& nI 1 = nI 1) = decide (j = k) := by decide +kernel
  intro k hk j hj
  have := key k hk j hj
  unfold zIn
  exact decide_eq_decide.mp this
theorem zIn_1 : ∀ j, j < 32 → (zIn (nI 1) (nI j) ↔ j = 0) := by
  have key : ∀ j, j < 32 → decide ((nI 1 >>> (nI j &&& 31)) &&& nI 1 = nI 1) = decide (j = 0) := by decide +kernel
  intro j hj
  have := key j hj
  unfold zIn
  exact decide_eq_decide.mp this
theorem zab_less : ∀ m, m < 32 → ∀ s, s < 32 → nI m &&& (nI s ^^^ (-1)) = nI (m &&& (31 ^^^ s)) ∧ ∀ j, j < 5 → (m &&& (31 ^^^ s)).testBit j = (m.testBit j && !s.testBit j) := by decide +kernel
theorem zk_del : ∀ k, k < 32 → ∀ i, i < 5 → k.testBit i = true → (k &&& (31 ^^^ 2 ^ i)) < 32 ∧ (k &&& (31 ^^^ 2 ^ i)) ||| 2 ^ i = k ∧ ∀ j, j < 5 → (k &&& (31 ^^^ 2 ^ i)).testBit j = (k.testBit j && j != i) := by decide +kernel
/-- the sets of players that can be at work in some of the parts A -/
def zRc (x : Int32) (pm : Nat → Nat → Prop) (A : Nat → Prop) : Prop := ∀ k, k < 32 → (zIn x (nI k) ↔ Mt pm A (fun i => k.testBit i = true))
/-- one more part, behind so many sets, and so many players of the next -/
def zWm (x able y : Int32) (i j : Nat) : Prop := ∀ k, k < 32 → (zIn y (nI k) ↔ zIn x (nI k) ∨ ∃ s a : Nat, s < 32 ∧ a < 5 ∧ (s < i ∨ (s = i ∧ a < j)) ∧ zIn x (nI s) ∧ zIn able (nI a) ∧ s.testBit a = false ∧ k = s ||| 2 ^ a)
section WM
variable {x able y w : Int32} {i j : Nat} {pm : Nat → Nat → Prop} {A : Nat → Prop} {p : Nat}
theorem zWm_0 : zWm x able x 0 0 := fun k _ => ⟨Or.inl, fun h => h.elim id (fun ⟨s, a, _, _, h, _⟩ => by omega)⟩
theorem zWm_no (h : zWm x able y i j) (hn : ¬ (zIn x (nI i) ∧ zIn able (nI j) ∧ i.testBit j = false)) : zWm x able y i (j + 1) := fun k hk => (h k hk).trans (or_congr_right ⟨fun ⟨s, a, h1, h2, h3, h4, h5, h6, h7⟩ => ⟨s, a, h1, h2, by omega, h4, h5, h6, h7⟩, fun ⟨s, a, h1, h2, h3, h4, h5, h6, h7⟩ => ⟨s, a, h1, h2, by
  rcases h3 with h3 | ⟨rfl, h3⟩
  · exact Or.inl h3
  · by_cases e : a = j
    · subst e
      exact absurd ⟨h4, h5, h6⟩ hn
    · exact Or.inr ⟨rfl, by omega⟩, h4, h5, h6, h7⟩⟩)
theorem zWm_yes (h : zWm x able y i j) (hi : i < 32) (hj : j < 5) (h1 : zIn x (nI i)) (h2 : zIn able (nI j)) (h3 : i.testBit j = false) (e : w = y ||| (nI 1 <<< (nI (i ||| 2 ^ j) &&& 31))) : zWm x able w i (j + 1) := fun k hk => by
  have hlt : i ||| 2 ^ j < 32 := Nat.or_lt_two_pow (n := 5) hi (Nat.pow_lt_pow_right (by decide : 1 < 2) hj : 2 ^ j < 2 ^ 5)
  rw [e, zIn_or, h k hk, zIn_shl _ hlt k hk]
  constructor
  · rintro ((q | ⟨s, a, q1, q2, q3, q4⟩) | q)
    · exact Or.inl q
    · exact Or.inr ⟨s, a, q1, q2, by omega, q4⟩
    · exact Or.inr ⟨i, j, hi, hj, by omega, h1, h2, h3, q⟩
  · rintro (q | ⟨s, a, q1, q2, q3, q4, q5, q6, q7⟩)
    · exact Or.inl (Or.inl q)
    · rcases q3 with q3 | ⟨rfl, q3⟩
      · exact Or.inl (Or.inr ⟨s, a, q1, q2, Or.inl q3, q4, q5, q6, q7⟩)
      · by_cases ea : a = j
        · subst ea
          exact Or.inr q7
        · exact Or.inl (Or.inr ⟨s, a, q1, q2, Or.inr ⟨rfl, by omega⟩, q4, q5, q6, q7⟩)
theorem zWm_next (h : zWm x able y i 5) : zWm x able y (i + 1) 0 := fun k hk => (h k hk).trans (or_congr_right ⟨fun ⟨s, a, h1, h2, h3, h4⟩ => ⟨s, a, h1, h2, by omega, h4⟩, fun ⟨s, a, h1, h2, h3, h4⟩ => ⟨s, a, h1, h2, by omega, h4⟩⟩)
theorem zWm_skip (h : zWm x able y i 0) (hn : ¬ zIn x (nI i)) : zWm x able y (i + 1) 0 := fun k hk => (h k hk).trans (or_congr_right ⟨fun ⟨s, a, h1, h2, h3, h4⟩ => ⟨s, a, h1, h2, by omega, h4⟩, fun ⟨s, a, h1, h2, h3, h4, h5⟩ => ⟨s, a, h1, h2, by
  rcases h3 with h3 | ⟨rfl, h3⟩
  · by_cases e : s = i
    · subst e
      exact absurd h4 hn
    · exact Or.inl (by omega)
  · omega, h4, h5⟩⟩)
theorem zWm_end (h : zWm x able y 32 0) (hx : zRc x pm A) (ha : ∀ a, a < 5 → (zIn able (nI a) ↔ pm a p)) (hp : ¬ A p) : zRc y pm (fun q => A q ∨ q = p) := fun k hk => by
  rw [h k hk, hx k hk, Mt_step hp]
  refine or_congr_right ⟨?_, ?_⟩
  · rintro ⟨s, a, h1, h2, -, h4, h5, h6, rfl⟩
    refine ⟨a, tb_or2.mpr (Or.inr rfl), h2, (ha a h2).mp h5, Mt_sub (fun i hi => ?_) ((hx s h1).mp h4)⟩
    exact (tb_or2.mp hi.1).resolve_right hi.2
  · rintro ⟨a, h1, h2, h3, h4⟩
    obtain ⟨d1, d2, d3⟩ := zk_del k hk a h2 h1
    refine ⟨k &&& (31 ^^^ 2 ^ a), a, d1, h2, Or.inl d1, (hx _ d1).mpr (Mt_sub (fun i hi => ?_) h4), (ha a h2).mpr h3, by rw [d3 a h2]; simp, d2.symm⟩
    have h5 : i < 5 := Classical.byContradiction fun z => by
      rw [Nat.testBit_lt_two_pow (Nat.lt_of_lt_of_le d1 (Nat.pow_le_pow_right (n := 2) (i := 5) (by decide) (by omega)))] at hi
      cases hi
    rw [d3 i h5] at hi
    simp at hi
    exact hi
/-- how many bits, and how many players -/
theorem zpc_mcn : ∀ k, k < 32 → zpc k = mcn (fun i => k.testBit i = true) := fun k hk => by
  have e : ∀ b : Bool, mb (b = true) = (if b then 1 else 0) := fun b => by cases b <;> first | exact mb_1 rfl | exact mb_0 (by decide)
  have key : ∀ k, k < 32 → zpc k = (if k.testBit 0 then 1 else 0) + (if k.testBit 1 then 1 else 0) + (if k.testBit 2 then 1 else 0) + (if k.testBit 3 then 1 else 0) + (if k.testBit 4 then 1 else 0) := by decide +kernel
  unfold mcn
  rw [e, e, e, e, e]
  exact key k hk
/-- the most of the first k sets -/
def zMx (x : Int32) (i m : Nat) : Prop := (m = 0 ∨ ∃ k, k < i ∧ k < 32 ∧ zIn x (nI k) ∧ zpc k = m) ∧ ∀ k, k < i → k < 32 → zIn x (nI k) → zpc k ≤ m
theorem zMx_0 : zMx x 0 0 := ⟨Or.inl rfl, fun k hk => absurd hk (Nat.not_lt_zero k)⟩
theorem zMx_no {m : Nat} (h : zMx x i m) (hn : ¬ zIn x (nI i)) : zMx x (i + 1) m := ⟨h.1.imp id (fun ⟨k, a, b⟩ => ⟨k, by omega, b⟩), fun k hk h32 hz => (Nat.lt_succ_iff_lt_or_eq.mp hk).elim (fun q => h.2 k q h32 hz) (fun e => absurd (e ▸ hz) hn)⟩
theorem zMx_yes {m m' : Nat} (h : zMx x i m) (hi : i < 32) (hz : zIn x (nI i)) (e : m' = max m (zpc i)) : zMx x (i + 1) m' := by
  refine ⟨?_, fun k hk h32 hz' => ?_⟩
  · rcases Nat.le_total m (zpc i) with q | q
    · exact Or.inr ⟨i, Nat.lt_succ_self i, hi, hz, by rw [e, Nat.max_eq_right q]⟩
    · rw [e, Nat.max_eq_left q]
      exact h.1.imp id (fun ⟨k, a, b⟩ => ⟨k, by omega, b⟩)
  · rcases Nat.lt_succ_iff_lt_or_eq.mp hk with q | q
    · have := h.2 k q h32 hz'
      omega
    · subst q
      omega
theorem zMx_end {m : Nat} (h : zMx x 32 m) (hx : zRc x pm A) : MxK pm A m := by
  have U32 : ∀ U : Nat → Prop, Mt pm A U → ∃ k, k < 32 ∧ (∀ i, i < 5 → (k.testBit i = true ↔ U i)) := fun U _ => by
    have b : ∀ P : Prop, ∃ c : Bool, c = true ↔ P := fun P => (Classical.em P).elim (fun z => ⟨true, iff_of_true rfl z⟩) (fun z => ⟨false, iff_of_false (by decide) z⟩)
    obtain ⟨c0, h0⟩ := b (U 0)
    obtain ⟨c1, h1⟩ := b (U 1)
    obtain ⟨c2, h2⟩ := b (U 2)
    obtain ⟨c3, h3⟩ := b (U 3)
    obtain ⟨c4, h4⟩ := b (U 4)
    have ex : ∀ c0 c1 c2 c3 c4 : Bool, ∃ k, k < 32 ∧ k.testBit 0 = c0 ∧ k.testBit 1 = c1 ∧ k.testBit 2 = c2 ∧ k.testBit 3 = c3 ∧ k.testBit 4 = c4 := by decide +kernel
    obtain ⟨k, hk, e0, e1, e2, e3, e4⟩ := ex c0 c1 c2 c3 c4
    refine ⟨k, hk, fun i hi => ?_⟩
    rcases (show i = 0 ∨ i = 1 ∨ i = 2 ∨ i = 3 ∨ i = 4 by omega) with rfl | rfl | rfl | rfl | rfl
    · rw [e0]; exact h0
    · rw [e1]; exact h1
    · rw [e2]; exact h2
    · rw [e3]; exact h3
    · rw [e4]; exact h4
  have up : ∀ U, Mt pm A U → mcn U ≤ m := fun U hU => by
    obtain ⟨k, hk, e⟩ := U32 U hU
    rw [← mcn_cg e, ← zpc_mcn k hk]
    refine h.2 k hk hk ((hx k hk).mpr (Mt_sub (fun i hi => (e i ?_).mp hi) hU))
    exact Classical.byContradiction fun z => by
      rw [Nat.testBit_lt_two_pow (Nat.lt_of_lt_of_le hk (Nat.pow_le_pow_right (n := 2) (i := 5) (by decide) (by omega)))] at hi
      cases hi
  refine ⟨?_, up⟩
  rcases h.1 with rfl | ⟨k, -, hk, hz, e⟩
  · exact ⟨fun _ => False, Mt_0 fun _ => id, mcn_0 fun _ => id⟩
  · exact ⟨_, (hx k hk).mp hz, by rw [← zpc_mcn k hk]; exact e⟩
end WM
theorem zless_iff {m s a : Nat} {w x : Int32} (hm : m < 32) (hs : s < 32) (ha : a < 5) (e : nI m &&& w = x) (ew : w = nI s ^^^ (-1)) : zIn x (nI a) ↔ zIn (nI m) (nI a) ∧ s.testBit a = false := by
  obtain ⟨k1, k2⟩ := zab_less m hm s hs
  have h32 : m &&& (31 ^^^ s) < 32 := Nat.lt_of_le_of_lt Nat.and_le_left hm
  rw [← e, ew, k1, zIn_nat (by omega) (by omega), zIn_nat (by omega) (by omega), k2 a ha]
  cases m.testBit a <;> cases s.testBit a <;> simp
theorem zMk_32 {x : Int32} {E : Nat → Prop} (h : zMk x E) (h5 : ∀ q, E q → q < 5) : ∃ m, m < 32 ∧ x = nI m ∧ ∀ a, a < 5 → (zIn (nI m) (nI a) ↔ E a) := by
  obtain ⟨m, h1, h2, h3⟩ := h
  refine ⟨m, ?_, h2, fun a ha => (zIn_nat (by omega) (by omega)).trans (h3 a)⟩
  refine Nat.lt_pow_two_of_testBit (n := 5) m fun i hi => ?_
  cases e : m.testBit i with
  | false => rfl
  | true => exact absurd (h5 i ((h3 i).mp e)) (by omega)
section ZFI
variable {x y : Int32} {pm : Nat → Nat → Prop} {A B : Nat → Prop} {m i : Nat}
theorem zRc_cg (e : ∀ q, A q ↔ B q) (h : zRc x pm A) : zRc x pm B := fun k hk => (h k hk).trans ⟨Mt_A fun q => (e q).mp, Mt_A fun q => (e q).mpr⟩
theorem zRc_1 (hA : ∀ q, ¬ A q) : zRc (nI 1) pm A := fun k hk => by
  rw [zIn_1 k hk]
  constructor
  · rintro rfl
    exact Mt_0 fun i => by rw [Nat.zero_testBit]; decide
  · rintro ⟨g, hg⟩
    have key : ∀ k, k < 32 → (∀ i, i < 5 → k.testBit i = false) → k = 0 := by decide +kernel
    refine key k hk fun i _ => ?_
    cases e : k.testBit i with
    | false => rfl
    | true => exact absurd (hg i e).1.2.1 (hA _)
theorem zfi_yes (h : zRc y pm (fun q => (q < i ∧ m.testBit q = true) ∨ q = i)) (hz : zIn (nI m) (nI i)) (hm : m < 128) (hi : i < 31) : zRc y pm (fun q => q < i + 1 ∧ m.testBit q = true) := by
  have hb := (zIn_nat (by omega) hi).mp hz
  refine zRc_cg (fun q => ⟨?_, fun ⟨a, b⟩ => ?_⟩) h
  · rintro (⟨a, b⟩ | rfl)
    · exact ⟨by omega, b⟩
    · exact ⟨by omega, hb⟩
  · by_cases e : q = i
    · exact Or.inr e
    · exact Or.inl ⟨by omega, b⟩
theorem zfi_no (h : zRc x pm (fun q => q < i ∧ m.testBit q = true)) (hz : ¬ zIn (nI m) (nI i)) (hm : m < 128) (hi : i < 31) : zRc x pm (fun q => q < i + 1 ∧ m.testBit q = true) := by
  refine zRc_cg (fun q => ⟨fun ⟨a, b⟩ => ⟨by omega, b⟩, fun ⟨a, b⟩ => ⟨?_, b⟩⟩) h
  by_cases e : q = i
  · subst e
    exact absurd ((zIn_nat (by omega) hi).mpr b) hz
  · omega
end ZFI
theorem zMx_le {x : Int32} {i m : Nat} (h : zMx x i m) : m ≤ 7 := by
  rcases h.1 with rfl | ⟨k, -, hk, -, e⟩
  · exact Nat.zero_le _
  · rw [← e]
    exact zpc_7 k (by omega)
theorem zmx_n {y i : Nat} (hy : y ≤ 7) (hi : i < 32) : (if nI y < zbc (nI i) then zbc (nI i) else nI y) = nI (max y (zpc i)) := by
  rw [zbc_zpc i (by omega)]
  have h7 := zpc_7 i (by omega)
  have key : ∀ a, a < 8 → ∀ b, b < 8 → (if nI a < nI b then nI b else nI a) = nI (max a b) := by decide +kernel
  exact key y (by omega) (zpc i) (by omega)
/-! ===== the lack: the set of parts that is more than its players by most ===== -/
/-- by how many a set of parts is more than the players that could play any of these -/
def zEk (pm : Nat → Nat → Prop) (nP m : Nat) (x : Int32) : Prop := ∃ y, zMk y (fun i => ∃ p, p < nP ∧ m.testBit p = true ∧ pm i p) ∧ x = zbc (nI m) - zbc y
theorem zMk_un {x y : Int32} {E : Nat → Prop} (h1 : zMk x E) (h2 : zMk y E) : x = y := by
  obtain ⟨m, a, rfl, c⟩ := h1
  obtain ⟨n, a', rfl, c'⟩ := h2
  have : m = n := Nat.eq_of_testBit_eq fun q => by
    cases e : m.testBit q with
    | true => exact ((c' q).mpr ((c q).mp e)).symm
    | false =>
      cases e' : n.testBit q with
      | true => rw [(c q).mpr ((c' q).mp e')] at e; cases e
      | false => rfl
  rw [this]
def zSb (u m : Nat) : Prop := nI u &&& (nI m ^^^ (-1)) = 0
theorem zSb_iff {u m j : Nat} {w : Int32} (e : nI u &&& w = nI j) (ew : w = nI m ^^^ (-1)) (hj : j < 2 ^ 31) : zSb u m ↔ j = 0 := by
  unfold zSb
  rw [← ew, e, ← nI_0]
  exact nI_eq hj (by decide)
theorem zSb_w {u m : Nat} {w x : Int32} (e : x = nI u &&& w) (ew : w = nI m ^^^ (-1)) : zSb u m ↔ x = 0 := by
  unfold zSb
  rw [e, ew]
theorem zSb_0 {m : Nat} : zSb 0 m := by
  unfold zSb
  rw [nI_0, Int32.zero_and]
def zLk (E : Nat → Int32 → Prop) (m i c : Nat) (e : Int32) : Prop := E c e ∧ (c = 0 ∨ c < i) ∧ zSb c m ∧ ∀ u, u < i → zSb u m → ∀ x, E u x → ¬ e < x ∧ (u < c → x < e)
section ZLK
variable {pm pm' : Nat → Nat → Prop} {nP m i c c' u : Nat} {e e' x y : Int32}
theorem zEk_un (h1 : zEk pm nP u x) (h2 : zEk pm nP u y) : x = y := by
  obtain ⟨a, b, rfl⟩ := h1
  obtain ⟨a', b', rfl⟩ := h2
  rw [zMk_un b b']
theorem zEk_cg (h : ∀ i p, p < nP → m.testBit p = true → (pm i p ↔ pm' i p)) (hx : zEk pm nP m x) : zEk pm' nP m x := by
  obtain ⟨a, b, e⟩ := hx
  exact ⟨a, b.cg fun i => exists_congr fun p => and_congr_right fun h1 => and_congr_right fun h2 => h i p h1 h2, e⟩
theorem zEk_0 : zEk pm nP 0 (nI 0) := ⟨nI 0, zMk_0.cg fun i => ⟨False.elim, fun ⟨p, _, h, _⟩ => by rw [Nat.zero_testBit] at h; cases h⟩, by decide⟩
theorem zLk_0 (h0 : zEk pm nP 0 (nI 0)) : zLk (zEk pm nP) m 1 0 (nI 0) := ⟨h0, Or.inl rfl, zSb_0, fun u hu _ x hx => by
  obtain rfl : u = 0 := by omega
  rw [zEk_un hx h0]
  exact ⟨Int32.lt_irrefl, fun q => absurd q (Nat.lt_irrefl 0)⟩⟩
theorem zLk_skip (h : zLk (zEk pm nP) m i c e) (hn : ¬ zSb i m) : zLk (zEk pm nP) m (i + 1) c e := ⟨h.1, h.2.1.imp id (fun z => by omega), h.2.2.1, fun u hu hs x hx => (Nat.lt_succ_iff_lt_or_eq.mp hu).elim (fun k => h.2.2.2 u k hs x hx) (fun k => absurd (k ▸ hs) hn)⟩
theorem zLk_no (h : zLk (zEk pm nP) m i c e) (f : zEk pm nP i x) (hn : ¬ e < x) : zLk (zEk pm nP) m (i + 1) c e := ⟨h.1, h.2.1.imp id (fun z => by omega), h.2.2.1, fun u hu hs y hy => (Nat.lt_succ_iff_lt_or_eq.mp hu).elim (fun k => h.2.2.2 u k hs y hy) (fun k => by
  subst k
  rw [zEk_un hy f]
  exact ⟨hn, fun q => by have := h.2.1; omega⟩)⟩
theorem zLk_yes (h : zLk (zEk pm nP) m i c e) (f : zEk pm nP i x) (hs : zSb i m) (hl : e < x) : zLk (zEk pm nP) m (i + 1) i x := ⟨f, Or.inr (Nat.lt_succ_self i), hs, fun u hu hs' y hy => (Nat.lt_succ_iff_lt_or_eq.mp hu).elim (fun k => by
  have a := (h.2.2.2 u k hs' y hy).1
  have b : y < x := Int32.lt_of_le_of_lt (Int32.not_lt.mp a) hl
  exact ⟨fun q => absurd (Int32.lt_trans q b) Int32.lt_irrefl, fun _ => b⟩) (fun k => by
  subst k
  rw [zEk_un hy f]
  exact ⟨Int32.lt_irrefl, fun q => absurd q (Nat.lt_irrefl _)⟩)⟩
theorem zLk_un (h : zLk (zEk pm nP) m i c e) (h' : zLk (zEk pm nP) m i c' e') : c = c' ∧ e = e' := by
  have lt : ∀ {c c' : Nat} {e e' : Int32}, zLk (zEk pm nP) m i c e → zLk (zEk pm nP) m i c' e' → ¬ c < c' := fun h h' q => by
    have hc : _ < i := h'.2.1.elim (fun z => by omega) id
    exact (h.2.2.2 _ hc h'.2.2.1 _ h'.1).1 ((h'.2.2.2 _ (Nat.lt_trans q hc) h.2.2.1 _ h.1).2 q)
  have : c = c' := by
    have a := lt h h'
    have b := lt h' h
    omega
  subst this
  exact ⟨rfl, zEk_un h.1 h'.1⟩
end ZLK
theorem zLk_cgE {E E' : Nat → Int32 → Prop} {m i c : Nat} {e : Int32} (he : ∀ u x, E u x ↔ E' u x) (k : zLk E m i c e) : zLk E' m i c e := ⟨(he c e).mp k.1, k.2.1, k.2.2.1, fun u hu hs x hx => k.2.2.2 u hu hs x ((he u x).mpr hx)⟩
