/-! ===== tours: out to some towns, one after the other, and home ===== -/
/-- how far two towns are -/
def tD (X Y : Nat → Nat) (a b : Nat) : Nat := ((X a - X b) + (X b - X a)) + ((Y a - Y b) + (Y b - Y a))
def tH (X Y : Nat → Nat) (a : Nat) : Nat := X a + Y a
/-- out to the n + 1 towns of s, l the last of them: v miles -/
def tO (X Y : Nat → Nat) : Nat → Nat → Nat → Nat → Prop
  | 0, s, l, v => l < 5 ∧ s = 2 ^ l ∧ v = tH X Y l
  | n + 1, s, l, v => ∃ s' t v', tO X Y n s' t v' ∧ l < 5 ∧ s'.testBit l = false ∧ s = s' ||| 2 ^ l ∧ v = v' + tD X Y t l
def tL (X Y : Nat → Nat) (s l v : Nat) : Prop := ∃ n, tO X Y n s l v
/-- out and home -/
def tT (X Y : Nat → Nat) (s v : Nat) : Prop := (s = 0 ∧ v = 0) ∨ ∃ l u, tL X Y s l u ∧ v = u + tH X Y l
/-- x is the least of P -/
def tM (x : Int32) (P : Nat → Prop) : Prop := ∃ v, x = nI v ∧ P v ∧ ∀ u, P u → v ≤ u
theorem tk_one : ∀ l, l < 5 → 2 ^ l < 32 ∧ (2 ^ l).testBit l = true ∧ zpc (2 ^ l) = 1 ∧ (2 ^ l) &&& (31 ^^^ 2 ^ l) = 0 := by decide +kernel
theorem tk_add : ∀ s, s < 32 → ∀ l, l < 5 → s.testBit l = false → (s ||| 2 ^ l) < 32 ∧ (s ||| 2 ^ l).testBit l = true ∧ zpc (s ||| 2 ^ l) = zpc s + 1 ∧ (s ||| 2 ^ l) &&& (31 ^^^ 2 ^ l) = s := by decide +kernel
theorem tk_del : ∀ s, s < 32 → ∀ l, l < 5 → s.testBit l = true → (s &&& (31 ^^^ 2 ^ l)) < s ∧ (s &&& (31 ^^^ 2 ^ l)).testBit l = false ∧ (s &&& (31 ^^^ 2 ^ l)) ||| 2 ^ l = s := by decide +kernel
theorem tk_some : ∀ s, s < 32 → s ≠ 0 → ∃ t, t < 5 ∧ s.testBit t = true := by decide +kernel
theorem tk_full : ∀ n, n < 6 → ∀ s, s < 32 → s < 2 ^ n → n ≤ zpc s → ∀ t, t < n → s.testBit t = true := by decide +kernel
theorem tk_le5 : ∀ s, s < 32 → zpc s ≤ 5 := by decide +kernel
theorem tk_5 {s l : Nat} (hs : s < 32) (h : s.testBit l = true) : l < 5 := Classical.byContradiction fun z => by
  rw [Nat.testBit_lt_two_pow (Nat.lt_of_lt_of_le hs (Nat.pow_le_pow_right (n := 2) (i := 5) (by decide) (by omega)))] at h
  cases h
theorem tk_n {s l n : Nat} (hs : s < 2 ^ n) (h : s.testBit l = true) : l < n := Classical.byContradiction fun z => by
  rw [Nat.testBit_lt_two_pow (Nat.lt_of_lt_of_le hs (Nat.pow_le_pow_right (n := 2) (by decide) (by omega)))] at h
  cases h
section TOUR
variable {X Y X' Y' : Nat → Nat} {n s l v u t k : Nat} {x x' : Int32} {P Q : Nat → Prop}
theorem tO_b : ∀ {n s l v : Nat}, tO X Y n s l v → s < 32 ∧ l < 5 ∧ s.testBit l = true ∧ zpc s = n + 1 := by
  intro n
  induction n with
  | zero =>
    intro s l v h
    obtain ⟨h1, rfl, -⟩ := h
    obtain ⟨a, b, c, -⟩ := tk_one l h1
    exact ⟨a, h1, b, c⟩
  | succ n ih =>
    intro s l v h
    obtain ⟨s', t, v', h1, h2, h3, rfl, -⟩ := h
    obtain ⟨a, -, -, b⟩ := ih h1
    obtain ⟨c, d, e, -⟩ := tk_add s' a l h2 h3
    exact ⟨c, h2, d, by rw [e, b]⟩
theorem tD_le (hX : ∀ i, X i ≤ 99) (hY : ∀ i, Y i ≤ 99) : tD X Y t l ≤ 198 := by
  unfold tD
  have := hX t
  have := hX l
  have := hY t
  have := hY l
  omega
theorem tO_le (hX : ∀ i, X i ≤ 99) (hY : ∀ i, Y i ≤ 99) : ∀ {n s l v : Nat}, tO X Y n s l v → v ≤ 198 * (n + 1) := by
  intro n
  induction n with
  | zero =>
    intro s l v h
    obtain ⟨-, -, rfl⟩ := h
    unfold tH
    have := hX l
    have := hY l
    omega
  | succ n ih =>
    intro s l v h
    obtain ⟨s', t, v', h1, -, -, -, rfl⟩ := h
    have a := ih h1
    have b := tD_le (t := t) (l := l) hX hY
    omega
theorem tL_le (hX : ∀ i, X i ≤ 99) (hY : ∀ i, Y i ≤ 99) (h : tL X Y s l v) : v ≤ 990 := by
  obtain ⟨n, h⟩ := h
  have a := tO_le hX hY h
  obtain ⟨b, -, -, c⟩ := tO_b h
  have := tk_le5 s b
  omega
theorem tT_le (hX : ∀ i, X i ≤ 99) (hY : ∀ i, Y i ≤ 99) (h : tT X Y s v) : v ≤ 1188 := by
  rcases h with ⟨-, rfl⟩ | ⟨l, u, h, rfl⟩
  · exact Nat.zero_le _
  · have a := tL_le hX hY h
    unfold tH
    have := hX l
    have := hY l
    omega
theorem tO_cg : ∀ {n s l v : Nat}, (∀ q, s.testBit q = true → X q = X' q ∧ Y q = Y' q) → tO X Y n s l v → tO X' Y' n s l v := by
  intro n
  induction n with
  | zero =>
    intro s l v e h
    obtain ⟨h1, rfl, rfl⟩ := h
    obtain ⟨a, b⟩ := e l (tk_one l h1).2.1
    exact ⟨h1, rfl, by unfold tH; rw [a, b]⟩
  | succ n ih =>
    intro s l v e h
    obtain ⟨s', t, v', h1, h2, h3, rfl, rfl⟩ := h
    have e' : ∀ q, s'.testBit q = true → X q = X' q ∧ Y q = Y' q := fun q hq => e q (tb_or2.mpr (Or.inl hq))
    obtain ⟨a, b⟩ := e l (tb_or2.mpr (Or.inr rfl))
    obtain ⟨c, d⟩ := e' t (tO_b h1).2.2.1
    exact ⟨s', t, v', ih e' h1, h2, h3, rfl, by unfold tD; rw [a, b, c, d]⟩
theorem tL_cg (e : ∀ q, s.testBit q = true → X q = X' q ∧ Y q = Y' q) : tL X Y s l v ↔ tL X' Y' s l v := ⟨fun ⟨n, h⟩ => ⟨n, tO_cg e h⟩, fun ⟨n, h⟩ => ⟨n, tO_cg (fun q hq => ⟨(e q hq).1.symm, (e q hq).2.symm⟩) h⟩⟩
theorem tT_cg (e : ∀ q, s.testBit q = true → X q = X' q ∧ Y q = Y' q) : tT X Y s v ↔ tT X' Y' s v := by
  refine or_congr_right (exists_congr fun l => exists_congr fun u => ?_)
  constructor
  · rintro ⟨h, rfl⟩
    obtain ⟨n, h9⟩ := id h
    obtain ⟨a, b⟩ := e l (tO_b h9).2.2.1
    exact ⟨(tL_cg e).mp h, by unfold tH; rw [a, b]⟩
  · rintro ⟨h, rfl⟩
    obtain ⟨n, h9⟩ := id h
    obtain ⟨a, b⟩ := e l (tO_b h9).2.2.1
    exact ⟨(tL_cg e).mpr h, by unfold tH; rw [a, b]⟩
/-- each set has a way out -/
theorem tL_ex : ∀ (k : Nat) {s l : Nat}, s ≤ k → s < 32 → s.testBit l = true → ∃ v, tL X Y s l v := by
  intro k
  induction k with
  | zero =>
    intro s l h0 _ h
    obtain rfl : s = 0 := by omega
    rw [Nat.zero_testBit] at h
    cases h
  | succ k ih =>
    intro s l h0 h32 h
    have hl := tk_5 h32 h
    obtain ⟨a, b, c⟩ := tk_del s h32 l hl h
    by_cases e : s &&& (31 ^^^ 2 ^ l) = 0
    · rw [e, Nat.zero_or] at c
      exact ⟨_, 0, hl, c.symm, rfl⟩
    · obtain ⟨t, -, ht⟩ := tk_some _ (by omega) e
      obtain ⟨v, n, hv⟩ := ih (s := s &&& (31 ^^^ 2 ^ l)) (by omega) (by omega) ht
      exact ⟨_, n + 1, _, t, v, hv, hl, b, c.symm, rfl⟩
/-- what is last, and what was before -/
theorem tL_step (hs : s < 32) (hl : l < 5) (h : s.testBit l = false) : tL X Y (s ||| 2 ^ l) l v ↔ (s = 0 ∧ v = tH X Y l) ∨ ∃ t v', tL X Y s t v' ∧ v = v' + tD X Y t l := by
  obtain ⟨-, -, e1, e2⟩ := tk_add s hs l hl h
  constructor
  · rintro ⟨n, hn⟩
    cases n with
    | zero =>
      obtain ⟨-, q, rfl⟩ := hn
      have z := (tk_one l hl).2.2.2
      rw [q] at e2
      exact Or.inl ⟨e2.symm.trans z, rfl⟩
    | succ n =>
      obtain ⟨s', t, v', h1, -, h3, q, rfl⟩ := hn
      have z := (tk_add s' (tO_b h1).1 l hl h3).2.2.2
      rw [← q, e2] at z
      subst z
      exact Or.inr ⟨t, v', ⟨n, h1⟩, rfl⟩
  · rintro (⟨rfl, rfl⟩ | ⟨t, v', ⟨n, h1⟩, rfl⟩)
    · exact ⟨0, hl, by rw [Nat.zero_or], rfl⟩
    · exact ⟨n + 1, s, t, v', h1, hl, h, rfl, rfl⟩
theorem tM_cg (e : ∀ u, P u ↔ Q u) (h : tM x P) : tM x Q := by
  obtain ⟨v, a, b, c⟩ := h
  exact ⟨v, a, (e v).mp b, fun u hu => c u ((e u).mpr hu)⟩
theorem tM_of (h : lvX x P) (hx : ∃ v, P v) : tM x P := by
  rcases h with ⟨-, a⟩ | h
  · obtain ⟨v, hv⟩ := hx
    exact absurd hv (a v)
  · exact h
theorem tM_un (h : tM x P) (h' : tM x' P) : x = x' := by
  obtain ⟨v, rfl, b, c⟩ := h
  obtain ⟨v', rfl, b', c'⟩ := h'
  rw [Nat.le_antisymm (c v' b') (c' v b)]
end TOUR
/-! ===== the class's tables ===== -/
/-- the rows below n are right -/
def tB (X Y : Nat → Nat) (F : Nat → Nat → Int32) (n : Nat) : Prop := ∀ s, s < n → tM (F 27 s) (tT X Y s) ∧ ∀ l, s.testBit l = true → tM (F (29 + s) l) (tL X Y s l)
def tC (X Y : Nat → Nat) (F : Nat → Nat → Int32) (nT : Nat) : Prop := (∀ i, X i ≤ 99) ∧ (∀ i, Y i ≤ 99) ∧ ∀ q, q < nT → F 24 q = nI (X q) ∧ F 25 q = nI (Y q)
/-- all rows are right -/
def cTt (nT : Nat) (F : Nat → Nat → Int32) : Prop := ∃ X Y, tC X Y F nT ∧ tB X Y F (2 ^ nT)
section TABLE
variable {X Y : Nat → Nat} {F F' G : Nat → Nat → Int32} {n nT s l i b v u : Nat} {x y z : Int32}
theorem tab99 : ∀ a, a < 100 → ∀ b, b < 100 → (if 0 ≤ nI a - nI b then nI a - nI b else 0 - (nI a - nI b)) = nI ((a - b) + (b - a)) := by decide +kernel
theorem tT_0 : tT X Y 0 v ↔ v = 0 := by
  constructor
  · rintro (⟨-, h⟩ | ⟨l, u, ⟨n, h⟩, -⟩)
    · exact h
    · have := (tO_b h).2.2.1
      rw [Nat.zero_testBit] at this
      cases this
  · exact fun h => Or.inl ⟨rfl, h⟩
theorem tT_p (h : s ≠ 0) : tT X Y s v ↔ ∃ l u, tL X Y s l u ∧ v = u + tH X Y l := ⟨fun q => q.resolve_left (fun z => h z.1), Or.inr⟩
theorem tC.mv (h : tC X Y F nT) (e : ∀ k j, k = 24 ∨ k = 25 → F' k j = F k j) : tC X Y F' nT := ⟨h.1, h.2.1, fun q hq => by rw [e 24 q (Or.inl rfl), e 25 q (Or.inr rfl)]; exact h.2.2 q hq⟩
theorem tB.mv (h : tB X Y F n) (e : ∀ k j, k = 27 ∨ 29 ≤ k → F' k j = F k j) : tB X Y F' n := fun s hs => by
  refine ⟨by rw [e 27 s (Or.inl rfl)]; exact (h s hs).1, fun l hl => ?_⟩
  rw [e (29 + s) l (Or.inr (by omega))]
  exact (h s hs).2 l hl
theorem cTt.mv (h : cTt nT F) (e : ∀ k j, (k = 24 ∨ k = 25 ∨ k = 27 ∨ 29 ≤ k) → F' k j = F k j) : cTt nT F' := by
  obtain ⟨X, Y, a, b⟩ := h
  exact ⟨X, Y, a.mv (fun k j q => e k j (by omega)), b.mv (fun k j q => e k j (by omega))⟩
theorem cTt_0 (h : F 27 0 = nI 0) : cTt 0 F := ⟨fun _ => 0, fun _ => 0, ⟨fun _ => Nat.zero_le _, fun _ => Nat.zero_le _, fun q hq => absurd hq (Nat.not_lt_zero q)⟩, fun s hs => by
  obtain rfl : s = 0 := by
    have : 2 ^ 0 = 1 := rfl
    omega
  exact ⟨⟨0, h, tT_0.mpr rfl, fun u _ => Nat.zero_le u⟩, fun l hl => by rw [Nat.zero_testBit] at hl; cases hl⟩⟩
/-- one more town: the rows of the others stay -/
theorem tC.more (h : tC X Y F n) {a c : Nat} (ha : a ≤ 99) (hc : c ≤ 99) (e1 : F' 24 n = nI a) (e2 : F' 25 n = nI c) (e : ∀ k q, k = 24 ∨ k = 25 → q < n → F' k q = F k q) : tC (fun i => if i = n then a else X i) (fun i => if i = n then c else Y i) F' (n + 1) := by
  refine ⟨fun i => ?_, fun i => ?_, fun q hq => ?_⟩
  · by_cases z : i = n
    · simp only [z, if_pos]; exact ha
    · simp only [z, if_false]; exact h.1 i
  · by_cases z : i = n
    · simp only [z, if_pos]; exact hc
    · simp only [z, if_false]; exact h.2.1 i
  · by_cases z : q = n
    · simp only [z, if_pos]; exact ⟨e1, e2⟩
    · simp only [z, if_false]
      rw [e 24 q (Or.inl rfl) (by omega), e 25 q (Or.inr rfl) (by omega)]
      exact h.2.2 q (by omega)
theorem tB.more (h : tB X Y F (2 ^ n)) {a c : Nat} : tB (fun i => if i = n then a else X i) (fun i => if i = n then c else Y i) F (2 ^ n) := fun s hs => by
  have e : ∀ q, s.testBit q = true → X q = (fun i => if i = n then a else X i) q ∧ Y q = (fun i => if i = n then c else Y i) q := fun q hq => by
    have z : q ≠ n := Nat.ne_of_lt (tk_n hs hq)
    simp only [z, if_false]
    exact ⟨trivial, trivial⟩
  exact ⟨tM_cg (fun u => tT_cg e) (h s hs).1, fun l hl => tM_cg (fun u => tL_cg e) ((h s hs).2 l hl)⟩
/-- milesOut: the least of so many towns before -/
def tF (X Y : Nat → Nat) (b l i : Nat) (v : Nat) : Prop := ∃ t v', t < i ∧ tL X Y b t v' ∧ v = v' + tD X Y t l
theorem tF_0 : ¬ tF X Y b l 0 v := fun ⟨t, _, h, _⟩ => absurd h (Nat.not_lt_zero t)
theorem tF_no (hn : ¬ b.testBit i = true) : tF X Y b l i v ↔ tF X Y b l (i + 1) v := exists_congr fun t => exists_congr fun v' => ⟨fun ⟨a, k⟩ => ⟨by omega, k⟩, fun ⟨a, ⟨n, k⟩, k'⟩ => ⟨by
  by_cases e : t = i
  · subst e
    exact absurd (tO_b k).2.2.1 hn
  · omega, ⟨n, k⟩, k'⟩⟩
theorem tF_b (hX : ∀ i, X i ≤ 99) (hY : ∀ i, Y i ≤ 99) (h : tF X Y b l i v) : v < 2 ^ 31 := by
  obtain ⟨t, v', -, h, rfl⟩ := h
  have := tL_le hX hY h
  have := tD_le (t := t) (l := l) hX hY
  omega
theorem tF_yes (hX : ∀ i, X i ≤ 99) (hY : ∀ i, Y i ≤ 99) (h : lvX x (tF X Y b l i)) {k : Nat} (hk : tL X Y b i k) (hm : ∀ u, tL X Y b i u → k ≤ u) {v : Nat} (ev : v = k + tD X Y i l) (hx : (y = nI v ∧ (x = -1 ∨ nI v < x)) ∨ (y = x ∧ ¬ x = -1 ∧ ¬ nI v < x)) : lvX y (tF X Y b l (i + 1)) := by
  subst ev
  refine lvX_cg (fun u => ?_) (lvX_add (Q := fun u => ∃ v', tL X Y b i v' ∧ u = v' + tD X Y i l) h ⟨k, hk, rfl⟩ (fun u ⟨v', a, b⟩ => by have := hm v' a; omega) (tF_b hX hY (i := i + 1) ⟨i, k, Nat.lt_succ_self i, hk, rfl⟩) (fun u hu => tF_b hX hY hu) hx)
  constructor
  · rintro (⟨t, v', a, q⟩ | ⟨v', a, rfl⟩)
    · exact ⟨t, v', by omega, q⟩
    · exact ⟨i, v', Nat.lt_succ_self i, a, rfl⟩
  · rintro ⟨t, v', a, q, q'⟩
    by_cases e : t = i
    · subst e
      exact Or.inr ⟨v', q, q'⟩
    · exact Or.inl ⟨t, v', by omega, q, q'⟩
theorem tF_end (hb : b < 32) (hn : b < 2 ^ n) (h0 : b ≠ 0) (hl : l < 5) (hbl : b.testBit l = false) (h : lvX x (tF X Y b l n)) : tM x (tL X Y (b ||| 2 ^ l) l) := by
  refine tM_cg (fun u => ?_) (tM_of h ?_)
  · rw [tL_step hb hl hbl]
    constructor
    · rintro ⟨t, v', -, q⟩
      exact Or.inr ⟨t, v', q⟩
    · rintro (⟨e, -⟩ | ⟨t, v', ⟨m, q⟩, q'⟩)
      · exact absurd e h0
      · exact ⟨t, v', tk_n hn (tO_b q).2.2.1, ⟨m, q⟩, q'⟩
  · obtain ⟨t, -, ht⟩ := tk_some b hb h0
    obtain ⟨v, hv⟩ := tL_ex (X := X) (Y := Y) b (Nat.le_refl _) hb ht
    exact ⟨_, t, v, tk_n hn ht, hv, rfl⟩
theorem tF_home (hl : l < 5) : tM (nI (tH X Y l)) (tL X Y (2 ^ l) l) := by
  refine ⟨_, rfl, ⟨0, hl, rfl, rfl⟩, fun u hu => ?_⟩
  have := (tL_step (X := X) (Y := Y) (s := 0) (l := l) (v := u) (by decide) hl (Nat.zero_testBit l)).mp (by rw [Nat.zero_or]; exact hu)
  rcases this with ⟨-, rfl⟩ | ⟨t, v', ⟨n, h⟩, -⟩
  · exact Nat.le_refl _
  · have := (tO_b h).2.2.1
    rw [Nat.zero_testBit] at this
    cases this
/-- measure: one row while it is made -/
def tG (X Y : Nat → Nat) (s i : Nat) (v : Nat) : Prop := ∃ l u, l < i ∧ tL X Y s l u ∧ v = u + tH X Y l
def tR (X Y : Nat → Nat) (F0 F : Nat → Nat → Int32) (s i : Nat) : Prop := (∀ k j, ¬ (k = 27 ∧ j = s) → k ≠ 29 + s → F k j = F0 k j) ∧ (∀ l, l < i → s.testBit l = true → tM (F (29 + s) l) (tL X Y s l)) ∧ lvX (F 27 s) (tG X Y s i)
theorem tR_0 (h : F' = fset F 27 s (-1)) : tR X Y F F' s 0 := ⟨fun k j h1 _ => by rw [h, fset_ne (by omega)], fun l hl => absurd hl (Nat.not_lt_zero l), by
  rw [h, fset_eq]
  exact lvX_0 fun v ⟨l, _, hl, _⟩ => absurd hl (Nat.not_lt_zero l)⟩
theorem tR_no (h : tR X Y F G s i) (hn : ¬ s.testBit i = true) : tR X Y F G s (i + 1) := ⟨h.1, fun l hl hb => by
  by_cases e : l = i
  · subst e
    exact absurd hb hn
  · exact h.2.1 l (by omega) hb, lvX_cg (fun u => exists_congr fun l => exists_congr fun w => ⟨fun ⟨a, k⟩ => ⟨by omega, k⟩, fun ⟨a, ⟨m, k⟩, k'⟩ => ⟨by
  by_cases e : l = i
  · subst e
    exact absurd (tO_b k).2.2.1 hn
  · omega, ⟨m, k⟩, k'⟩⟩) h.2.2⟩
theorem tG_b (hX : ∀ i, X i ≤ 99) (hY : ∀ i, Y i ≤ 99) (h : tG X Y s i v) : v < 2 ^ 31 := by
  obtain ⟨l, u, -, h, rfl⟩ := h
  have := tL_le hX hY h
  unfold tH
  have := hX l
  have := hY l
  omega
/-- the row's next town: what is out, and whether the round is less -/
theorem tR_yes (hX : ∀ i, X i ≤ 99) (hY : ∀ i, Y i ≤ 99) (h : tR X Y F G s i) {k v : Nat} (hk : tL X Y s i k) (hm : ∀ u, tL X Y s i u → k ≤ u) (ev : v = k + tH X Y i) {G' G2 : Nat → Nat → Int32} (h1 : G' = fset G (29 + s) i (nI k)) (h2 : (G2 = fset G' 27 s (nI v) ∧ (G 27 s = -1 ∨ nI v < G 27 s)) ∨ (G2 = G' ∧ ¬ G 27 s = -1 ∧ ¬ nI v < G 27 s)) : tR X Y F G2 s (i + 1) := by
  have o : ∀ q j, ¬ (q = 27 ∧ j = s) → G2 q j = G' q j := fun q j z => by
    rcases h2 with ⟨rfl, -⟩ | ⟨rfl, -⟩
    · rw [fset_ne (by omega)]
    · rfl
  have g27 : G' 27 s = G 27 s := by rw [h1, fset_ne (by omega)]
  refine ⟨fun q j z1 z2 => by rw [o q j z1, h1, fset_ne (Or.inl z2)]; exact h.1 q j z1 z2, fun l hl hb => ?_, ?_⟩
  · rw [o (29 + s) l (by omega), h1]
    by_cases e : l = i
    · subst e
      rw [fset_eq]
      exact ⟨k, rfl, hk, hm⟩
    · rw [fset_ne (Or.inr e)]
      exact h.2.1 l (by omega) hb
  · subst ev
    have hx : (G2 27 s = nI (k + tH X Y i) ∧ (G 27 s = -1 ∨ nI (k + tH X Y i) < G 27 s)) ∨ (G2 27 s = G 27 s ∧ ¬ G 27 s = -1 ∧ ¬ nI (k + tH X Y i) < G 27 s) := by
      rcases h2 with ⟨rfl, z⟩ | ⟨rfl, z⟩
      · exact Or.inl ⟨fset_eq, z⟩
      · exact Or.inr ⟨g27, z⟩
    refine lvX_cg (fun u => ?_) (lvX_add (Q := fun u => ∃ v', tL X Y s i v' ∧ u = v' + tH X Y i) h.2.2 ⟨k, hk, rfl⟩ (fun u ⟨v', a, b⟩ => by have := hm v' a; omega) (tG_b hX hY (i := i + 1) ⟨i, k, Nat.lt_succ_self i, hk, rfl⟩) (fun u hu => tG_b hX hY hu) hx)
    constructor
    · rintro (⟨t, v', a, q⟩ | ⟨v', a, rfl⟩)
      · exact ⟨t, v', by omega, q⟩
      · exact ⟨i, v', Nat.lt_succ_self i, a, rfl⟩
    · rintro ⟨t, v', a, q, q'⟩
      by_cases e : t = i
      · subst e
        exact Or.inr ⟨v', q, q'⟩
      · exact Or.inl ⟨t, v', by omega, q, q'⟩
theorem tR_end (hs : s < 32) (hn : s < 2 ^ n) (h0 : s ≠ 0) (h : tR X Y F G s n) (hb : tB X Y F s) : tB X Y G (s + 1) := fun q hq => by
  by_cases e : q = s
  · subst e
    refine ⟨tM_cg (fun u => ?_) (tM_of h.2.2 ?_), fun l hl => h.2.1 l (tk_n hn hl) hl⟩
    · rw [tT_p h0]
      exact exists_congr fun l => exists_congr fun w => ⟨And.right, fun ⟨⟨m, k⟩, k'⟩ => ⟨tk_n hn (tO_b k).2.2.1, ⟨m, k⟩, k'⟩⟩
    · obtain ⟨t, -, ht⟩ := tk_some q hs h0
      obtain ⟨v, hv⟩ := tL_ex (X := X) (Y := Y) q (Nat.le_refl _) hs ht
      exact ⟨_, t, v, tk_n hn ht, hv, rfl⟩
  · refine ⟨by rw [h.1 27 q (by omega) (by omega)]; exact (hb q (by omega)).1, fun l hl => ?_⟩
    rw [h.1 (29 + q) l (by omega) (by omega)]
    exact (hb q (by omega)).2 l hl
end TABLE
