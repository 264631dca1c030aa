/-! ===== which parts clash ===== -/
def mTog (nP : Nat) (x : Int32) (p q : Nat) : Prop := p < nP ∧ q < nP ∧ q ≠ p ∧ zIn x (nI p) ∧ zIn x (nI q)
def mTrn (sp ch pa : Nat → Int32) (nP b : Nat) (l : Int32) (p q : Nat) : Prop := p < nP ∧ q < nP ∧ p ≠ q ∧ zIn (sp b) (nI p) ∧ zIn l (nI q) ∧ ¬ ch p + ch q ≤ pa b
def mBf (a : Int32) (n b : Nat) : Prop := b < n ∧ zIn a (nI b) ∧ ∀ s, b < s → s < n → ¬ zIn a (nI s)
def mBn (a : Int32) (n : Nat) : Prop := ∀ s, s < n → ¬ zIn a (nI s)
def mCl (sp ch pa : Nat → Int32) (nP : Nat) (a : Int32) (n p q : Nat) : Prop := (∃ s, s < n ∧ zIn a (nI s) ∧ mTog nP (sp s) p q) ∨ ∃ s b, s < n ∧ zIn a (nI s) ∧ mBf a s b ∧ (mTrn sp ch pa nP b (sp s) p q ∨ mTrn sp ch pa nP b (sp s) q p)
section MCL
variable {sp ch pa : Nat → Int32} {nP b i j m n p q : Nat} {a l x y w : Int32} {E T : Nat → Nat → Prop} {c c' c2 : Nat → Int32}
theorem mTog.symm (h : mTog nP x p q) : mTog nP x q p := ⟨h.2.1, h.1, fun e => h.2.2.1 e.symm, h.2.2.2.2, h.2.2.2.1⟩
theorem mCl.symm (h : mCl sp ch pa nP a n p q) : mCl sp ch pa nP a n q p := by
  rcases h with ⟨s, h1, h2, h3⟩ | ⟨s, b, h1, h2, h3, h4⟩
  · exact Or.inl ⟨s, h1, h2, h3.symm⟩
  · exact Or.inr ⟨s, b, h1, h2, h3, h4.symm⟩
theorem mCl.lt (h : mCl sp ch pa nP a n p q) : p < nP ∧ q < nP := by
  rcases h with ⟨s, h1, h2, h3⟩ | ⟨s, b, h1, h2, h3, h4 | h4⟩
  · exact ⟨h3.1, h3.2.1⟩
  · exact ⟨h4.1, h4.2.1⟩
  · exact ⟨h4.2.1, h4.1⟩
theorem mCl_cg {sp' ch' pa' : Nat → Int32} (e1 : ∀ s, s < n → sp s = sp' s) (e2 : ∀ p, p < nP → ch p = ch' p) (e3 : ∀ s, s < n → pa s = pa' s) : mCl sp ch pa nP a n p q → mCl sp' ch' pa' nP a n p q := by
  rintro (⟨s, h1, h2, h3⟩ | ⟨s, b, h1, h2, h3, h4⟩)
  · exact Or.inl ⟨s, h1, h2, by rw [← e1 s h1]; exact h3⟩
  · have hb : b < n := Nat.lt_trans h3.1 h1
    refine Or.inr ⟨s, b, h1, h2, h3, ?_⟩
    have key : ∀ p q, mTrn sp ch pa nP b (sp s) p q → mTrn sp' ch' pa' nP b (sp' s) p q := fun p q ⟨k1, k2, k3, k4, k5, k6⟩ => ⟨k1, k2, k3, by rw [← e1 b hb]; exact k4, by rw [← e1 s h1]; exact k5, by rw [← e2 p k1, ← e2 q k2, ← e3 b hb]; exact k6⟩
    exact h4.imp (key p q) (key q p)
theorem zMk_selfP (hP : nP ≤ 7) (hm : m < 2 ^ nP) : zMk (nI m) (fun q => q < nP ∧ zIn (nI m) (nI q)) := by
  have h128 : m < 128 := Nat.lt_of_lt_of_le hm (zp2 (n := 7) hP)
  refine (zMk_self h128).cg fun q => ⟨fun h => ⟨?_, h.2⟩, fun h => ⟨by omega, h.2⟩⟩
  have hb := (zIn_nat (by omega) (by omega)).mp h.2
  by_cases hq : q < nP
  · exact hq
  · rw [Nat.testBit_lt_two_pow (Nat.lt_of_lt_of_le hm (Nat.pow_le_pow_right (by decide) (Nat.not_lt.mp hq)))] at hb
    cases hb
/-- together: the rows of the first parts are done -/
def mJ (c : Nat → Int32) (E T : Nat → Nat → Prop) (i : Nat) : Prop := ∀ p, p < 7 → zMk (c p) (fun q => E p q ∨ (p < i ∧ T p q))
theorem mJ_0 (h : ∀ p, p < 7 → zMk (c p) (E p)) : mJ c E T 0 := fun p hp => (h p hp).cg fun q => ⟨Or.inl, fun z => z.elim id fun y => absurd y.1 (Nat.not_lt_zero p)⟩
theorem mJ_no (h : mJ c E T i) (hn : ∀ q, ¬ T i q) : mJ c E T (i + 1) := fun p hp => (h p hp).cg fun q => by
  by_cases e : p = i
  · subst e
    exact ⟨fun z => z.imp id fun y => ⟨by omega, y.2⟩, fun z => z.imp id fun y => absurd y.2 (hn q)⟩
  · exact ⟨fun z => z.imp id fun y => ⟨by omega, y.2⟩, fun z => z.imp id fun y => ⟨by omega, y.2⟩⟩
theorem mJ_yes (h : mJ c E T i) (hi : i < 7) (hy : zMk y (T i)) (e1 : c' i = c i ||| y) (e2 : ∀ p, p ≠ i → c' p = c p) : mJ c' E T (i + 1) := fun p hp => by
  by_cases e : p = i
  · subst e
    rw [e1]
    refine ((h p hp).or hy).cg fun q => ⟨fun z => ?_, fun z => ?_⟩
    · rcases z with (z | z) | z
      · exact Or.inl z
      · exact absurd z.1 (Nat.lt_irrefl _)
      · exact Or.inr ⟨Nat.lt_succ_self _, z⟩
    · rcases z with z | z
      · exact Or.inl (Or.inl z)
      · exact Or.inr z.2
  · rw [e2 p e]
    exact (h p hp).cg fun q => ⟨fun z => z.imp id fun y => ⟨by omega, y.2⟩, fun z => z.imp id fun y => ⟨by omega, y.2⟩⟩
theorem mJ_end (h : mJ c E T i) (e : i = nP) (hT : ∀ p q, T p q → p < nP) : ∀ p, p < 7 → zMk (c p) (fun q => E p q ∨ T p q) := fun p hp => by
  subst e
  exact (h p hp).cg fun q => ⟨fun z => z.imp id And.right, fun z => z.imp id fun y => ⟨hT p q y, y⟩⟩
/-- in turn: the pairs that come first are done -/
def mPr (T : Nat → Nat → Prop) (i j p q : Nat) : Prop := T p q ∧ (p < i ∨ (p = i ∧ q < j))
def mI (c : Nat → Int32) (E T : Nat → Nat → Prop) (i j : Nat) : Prop := ∀ p, p < 7 → zMk (c p) (fun q => E p q ∨ mPr T i j p q ∨ mPr T i j q p)
theorem mI_cg {i' j' : Nat} (h : mI c E T i j) (e : ∀ p q, mPr T i j p q ↔ mPr T i' j' p q) : mI c E T i' j' := fun p hp => (h p hp).cg fun q => or_congr Iff.rfl (or_congr (e p q) (e q p))
theorem mI_0 (h : ∀ p, p < 7 → zMk (c p) (E p)) : mI c E T 0 0 := fun p hp => (h p hp).cg fun q => ⟨Or.inl, fun z => by
  rcases z with z | z | z
  · exact z
  · rcases z.2 with y | y <;> omega
  · rcases z.2 with y | y <;> omega⟩
theorem mI_row (h : mI c E T i 0) (hn : ∀ q, ¬ T i q) : mI c E T (i + 1) 0 := mI_cg h fun p q => ⟨fun z => ⟨z.1, by have := z.2; omega⟩, fun z => ⟨z.1, by
  have := z.2
  by_cases e : p = i
  · subst e; exact absurd z.1 (hn q)
  · omega⟩⟩
theorem mI_next (h : mI c E T i j) (e : j = nP) (hT : ∀ p q, T p q → q < nP) : mI c E T (i + 1) 0 := mI_cg h fun p q => ⟨fun z => ⟨z.1, by have := z.2; omega⟩, fun z => ⟨z.1, by have := z.2; have := hT p q z.1; omega⟩⟩
theorem mI_no (h : mI c E T i j) (hn : ¬ T i j) : mI c E T i (j + 1) := mI_cg h fun p q => ⟨fun z => ⟨z.1, by have := z.2; omega⟩, fun z => ⟨z.1, by
  have := z.2
  by_cases e : p = i ∧ q = j
  · obtain ⟨rfl, rfl⟩ := e; exact absurd z.1 hn
  · omega⟩⟩
theorem mI_yes (h : mI c E T i j) (hi : i < 7) (hj : j < 7) (hij : i ≠ j) (hy : T i j) (e1 : c' i = c i ||| nI (2 ^ j)) (e2 : ∀ p, p ≠ i → c' p = c p) (e3 : c2 j = c' j ||| nI (2 ^ i)) (e4 : ∀ p, p ≠ j → c2 p = c' p) : mI c2 E T i (j + 1) := fun p hp => by
  have key : ∀ p q, mPr T i (j + 1) p q ↔ (mPr T i j p q ∨ (p = i ∧ q = j)) := fun p q => by
    constructor
    · intro z
      by_cases e : p = i ∧ q = j
      · exact Or.inr e
      · exact Or.inl ⟨z.1, by have := z.2; omega⟩
    · rintro (z | ⟨rfl, rfl⟩)
      · exact ⟨z.1, by have := z.2; omega⟩
      · exact ⟨hy, by omega⟩
  by_cases ei : p = i
  · subst ei
    rw [e4 p hij, e1]
    refine ((h p hp).or (zMk_bit hj)).cg fun q => ?_
    rw [key p q, key q p]
    constructor
    · rintro ((z | z | z) | z)
      · exact Or.inl z
      · exact Or.inr (Or.inl (Or.inl z))
      · exact Or.inr (Or.inr (Or.inl z))
      · exact Or.inr (Or.inl (Or.inr ⟨rfl, z⟩))
    · rintro (z | (z | z) | (z | z))
      · exact Or.inl (Or.inl z)
      · exact Or.inl (Or.inr (Or.inl z))
      · exact Or.inr z.2
      · exact Or.inl (Or.inr (Or.inr z))
      · exact absurd z.2 hij
  · by_cases ej : p = j
    · subst ej
      rw [e3, e2 p ei]
      refine ((h p hp).or (zMk_bit hi)).cg fun q => ?_
      rw [key p q, key q p]
      constructor
      · rintro ((z | z | z) | z)
        · exact Or.inl z
        · exact Or.inr (Or.inl (Or.inl z))
        · exact Or.inr (Or.inr (Or.inl z))
        · exact Or.inr (Or.inr (Or.inr ⟨z, rfl⟩))
      · rintro (z | (z | z) | (z | z))
        · exact Or.inl (Or.inl z)
        · exact Or.inl (Or.inr (Or.inl z))
        · exact absurd z.1 ei
        · exact Or.inl (Or.inr (Or.inr z))
        · exact Or.inr z.1
    · rw [e4 p ej, e2 p ei]
      refine (h p hp).cg fun q => ?_
      rw [key p q, key q p]
      exact or_congr Iff.rfl (or_congr ⟨Or.inl, fun z => z.resolve_right fun y => ei y.1⟩ ⟨Or.inl, fun z => z.resolve_right fun y => ej y.2⟩)
theorem mI_end (h : mI c E T i 0) (e : i = nP) (hT : ∀ p q, T p q → p < nP) : ∀ p, p < 7 → zMk (c p) (fun q => E p q ∨ T p q ∨ T q p) := fun p hp => by
  subst e
  exact (h p hp).cg fun q => or_congr Iff.rfl (or_congr ⟨And.left, fun z => ⟨z, Or.inl (hT p q z)⟩⟩ ⟨And.left, fun z => ⟨z, Or.inl (hT q p z)⟩⟩)
/-- scene by scene -/
theorem mCl_0 (h : ∀ p, p < 7 → c p = nI 0) : ∀ p, p < 7 → zMk (c p) (mCl sp ch pa nP a 0 p) := fun p hp => by
  rw [h p hp]
  refine zMk_0.cg fun q => ⟨False.elim, ?_⟩
  rintro (⟨s, hs, -⟩ | ⟨s, b, hs, -⟩) <;> exact absurd hs (Nat.not_lt_zero s)
theorem mCl_no (h : ∀ p, p < 7 → zMk (c p) (mCl sp ch pa nP a n p)) (hn : ¬ zIn a (nI n)) : ∀ p, p < 7 → zMk (c p) (mCl sp ch pa nP a (n + 1) p) := fun p hp => (h p hp).cg fun q => by
  have key : ∀ s, s < n + 1 → zIn a (nI s) → s < n := fun s h1 h2 => by
    rcases Nat.lt_succ_iff_lt_or_eq.mp h1 with e | e
    · exact e
    · subst e; exact absurd h2 hn
  constructor
  · rintro (⟨s, h1, h2⟩ | ⟨s, b, h1, h2⟩)
    · exact Or.inl ⟨s, by omega, h2⟩
    · exact Or.inr ⟨s, b, by omega, h2⟩
  · rintro (⟨s, h1, h2, h3⟩ | ⟨s, b, h1, h2, h3⟩)
    · exact Or.inl ⟨s, key s h1 h2, h2, h3⟩
    · exact Or.inr ⟨s, b, key s h1 h2, h2, h3⟩
theorem mCl_first (hy : zIn a (nI n)) (hb : mBn a n) (h : ∀ p, p < 7 → zMk (c p) (fun q => mCl sp ch pa nP a n p q ∨ mTog nP (sp n) p q)) : ∀ p, p < 7 → zMk (c p) (mCl sp ch pa nP a (n + 1) p) := fun p hp => (h p hp).cg fun q => by
  constructor
  · rintro ((⟨s, h1, h2⟩ | ⟨s, b, h1, h2⟩) | z)
    · exact Or.inl ⟨s, by omega, h2⟩
    · exact Or.inr ⟨s, b, by omega, h2⟩
    · exact Or.inl ⟨n, Nat.lt_succ_self n, hy, z⟩
  · rintro (⟨s, h1, h2, h3⟩ | ⟨s, b, h1, h2, h3, h4⟩)
    · rcases Nat.lt_succ_iff_lt_or_eq.mp h1 with e | e
      · exact absurd h2 (hb s e)
      · subst e; exact Or.inr h3
    · exact absurd h3.2.1 (hb b (by have := h3.1; omega))
theorem mBf_uniq {b' : Nat} (h1 : mBf a n b) (h2 : mBf a n b') : b = b' := by
  rcases Nat.lt_trichotomy b b' with e | e | e
  · exact absurd h2.2.1 (h1.2.2 b' e h2.1)
  · exact e
  · exact absurd h1.2.1 (h2.2.2 b e h1.1)
theorem mCl_more (hy : zIn a (nI n)) (hb : mBf a n b) (h : ∀ p, p < 7 → zMk (c p) (fun q => (mCl sp ch pa nP a n p q ∨ mTog nP (sp n) p q) ∨ mTrn sp ch pa nP b (sp n) p q ∨ mTrn sp ch pa nP b (sp n) q p)) : ∀ p, p < 7 → zMk (c p) (mCl sp ch pa nP a (n + 1) p) := fun p hp => (h p hp).cg fun q => by
  constructor
  · rintro (((⟨s, h1, h2⟩ | ⟨s, b, h1, h2⟩) | z) | z)
    · exact Or.inl ⟨s, by omega, h2⟩
    · exact Or.inr ⟨s, b, by omega, h2⟩
    · exact Or.inl ⟨n, Nat.lt_succ_self n, hy, z⟩
    · exact Or.inr ⟨n, b, Nat.lt_succ_self n, hy, hb, z⟩
  · rintro (⟨s, h1, h2, h3⟩ | ⟨s, b', h1, h2, h3, h4⟩)
    · rcases Nat.lt_succ_iff_lt_or_eq.mp h1 with e | e
      · exact Or.inl (Or.inl (Or.inl ⟨s, e, h2, h3⟩))
      · subst e; exact Or.inl (Or.inr h3)
    · rcases Nat.lt_succ_iff_lt_or_eq.mp h1 with e | e
      · exact Or.inl (Or.inl (Or.inr ⟨s, b', e, h2, h3, h4⟩))
      · subst e
        have := mBf_uniq h3 hb
        subst this
        exact Or.inr h4
theorem mBn_0 : mBn a 0 := fun s hs => absurd hs (Nat.not_lt_zero s)
theorem mBn_s (h : mBn a n) (hn : ¬ zIn a (nI n)) : mBn a (n + 1) := fun s hs => by
  rcases Nat.lt_succ_iff_lt_or_eq.mp hs with e | e
  · exact h s e
  · subst e; exact hn
theorem mBf_s (h : mBf a n b) (hn : ¬ zIn a (nI n)) : mBf a (n + 1) b := ⟨by have := h.1; omega, h.2.1, fun s h1 h2 => by
  rcases Nat.lt_succ_iff_lt_or_eq.mp h2 with e | e
  · exact h.2.2 s h1 e
  · subst e; exact hn⟩
theorem mBf_n (hy : zIn a (nI n)) : mBf a (n + 1) n := ⟨Nat.lt_succ_self n, hy, fun s h1 h2 => by omega⟩
end MCL
/-! ===== the order of a search ===== -/
def mOl (F : Nat → Nat → Int32) (P : Nat → Prop) : Prop := ∃ L : List Nat, L.Nodup ∧ (∀ p, p ∈ L ↔ P p) ∧ L.length ≤ 7 ∧ F 12 8 = nI L.length ∧ ∀ d (h : d < L.length), F 16 d = nI L[d]
section MOL
variable {F F' F2 F3 G : Nat → Nat → Int32} {P Q D : Nat → Prop} {c i m p : Nat}
theorem mOl.zero (h : F' = fset F 12 8 (nI 0)) (hP : ∀ p, ¬ P p) : mOl F' P := ⟨[], List.nodup_nil, fun p => ⟨fun h => absurd h List.not_mem_nil, fun h => absurd h (hP p)⟩, by decide, by rw [h, fset_eq]; rfl, fun d hd => absurd hd (Nat.not_lt_zero d)⟩
theorem mOl.cg (h : mOl F P) (e : ∀ p, P p ↔ Q p) : mOl F Q := by
  obtain ⟨L, h1, h2, h3⟩ := h
  exact ⟨L, h1, fun p => (h2 p).trans (e p), h3⟩
theorem mOl.step (h : mOl F P) (em : F 12 8 = nI m) (hm : m < 7) (e2 : F2 = fset F 16 m (nI p)) (e3 : F3 = fset F2 12 8 (nI (m + 1))) (hn : ¬ P p) (hQ : ∀ q, Q q ↔ P q ∨ q = p) : mOl F3 Q := by
  obtain ⟨L, h1, h2, h3, h4, h5⟩ := h
  have : m = L.length := (nI_eq (by omega) (by omega)).mp (em.symm.trans h4)
  subst this
  refine ⟨L ++ [p], ?_, fun q => ?_, ?_, ?_, fun d hd => ?_⟩
  · rw [List.nodup_append]
    refine ⟨h1, by simp, fun a ha b hb e => ?_⟩
    have : b = p := by simpa using hb
    subst this
    subst e
    exact hn ((h2 a).mp ha)
  · rw [List.mem_append, h2 q, hQ q]
    simp
  · rw [List.length_append]
    show L.length + 1 ≤ 7
    omega
  · rw [e3, fset_eq, List.length_append]
    rfl
  · rw [e3, fset_ne (Or.inl (by decide)), e2]
    rw [List.length_append] at hd
    by_cases e : d = L.length
    · subst e
      rw [fset_eq, List.getElem_append_right (Nat.le_refl _)]
      simp
    · have hd' : d < L.length := by
        have : d < L.length + 1 := hd
        omega
      rw [fset_ne (Or.inr e), List.getElem_append_left hd']
      exact h5 d hd'
theorem zkf_to {f : Nat → Int32} (hc : c < 6) (h : zkf f p = c) : zbc (f p) = nI c := by
  unfold zkf at h
  by_cases h0 : zbc (f p) = nI 0
  · rw [if_pos h0] at h; rw [← h]; exact h0
  rw [if_neg h0] at h
  by_cases h1 : zbc (f p) = nI 1
  · rw [if_pos h1] at h; rw [← h]; exact h1
  rw [if_neg h1] at h
  by_cases h2 : zbc (f p) = nI 2
  · rw [if_pos h2] at h; rw [← h]; exact h2
  rw [if_neg h2] at h
  by_cases h3 : zbc (f p) = nI 3
  · rw [if_pos h3] at h; rw [← h]; exact h3
  rw [if_neg h3] at h
  by_cases h4 : zbc (f p) = nI 4
  · rw [if_pos h4] at h; rw [← h]; exact h4
  rw [if_neg h4] at h
  by_cases h5 : zbc (f p) = nI 5
  · rw [if_pos h5] at h; rw [← h]; exact h5
  rw [if_neg h5] at h
  omega
/-- those that are due, by choices, so far -/
def mCh (k : Nat → Nat) (D : Nat → Prop) (c i p : Nat) : Prop := D p ∧ (k p < c ∨ (k p = c ∧ p < i))
variable {k : Nat → Nat}
theorem mCh_0 : ∀ p, ¬ mCh k D 0 0 p := fun p h => by have := h.2; omega
theorem mCh_skip (hn : ¬ (D i ∧ k i = c)) : ∀ p, mCh k D c i p ↔ mCh k D c (i + 1) p := fun p => ⟨fun h => ⟨h.1, by have := h.2; omega⟩, fun h => ⟨h.1, by
  have := h.2
  by_cases e : p = i
  · subst e
    by_cases e2 : k p = c
    · exact absurd ⟨h.1, e2⟩ hn
    · omega
  · omega⟩⟩
theorem mCh_add (hd : D i) (hk : k i = c) : ∀ p, mCh k D c (i + 1) p ↔ mCh k D c i p ∨ p = i := fun p => ⟨fun h => by
  by_cases e : p = i
  · exact Or.inr e
  · exact Or.inl ⟨h.1, by have := h.2; omega⟩, fun h => by
  rcases h with h | h
  · exact ⟨h.1, by have := h.2; omega⟩
  · subst h; exact ⟨hd, by omega⟩⟩
theorem mCh_new (hk : k i = c) : ¬ mCh k D c i i := fun h => by have := h.2; omega
theorem mCh_next (e : i = 7) (hD : ∀ p, D p → p < 7) : ∀ p, mCh k D c i p ↔ mCh k D (c + 1) 0 p := fun p => ⟨fun h => ⟨h.1, by have := h.2; omega⟩, fun h => ⟨h.1, by have := h.2; have := hD p h.1; omega⟩⟩
theorem mCh_end (e : c = 6) (hk : ∀ p, D p → k p < 6) : ∀ p, mCh k D c 0 p ↔ D p := fun p => ⟨And.left, fun h => ⟨h, Or.inl (by have := hk p h; omega)⟩⟩
end MOL
theorem zm32 : ∀ m, m < 128 → m.testBit 5 = false → m.testBit 6 = false → m < 32 := by decide +kernel
theorem zbc_le5 : ∀ m, m < 32 → zbc (nI m) = nI 0 ∨ zbc (nI m) = nI 1 ∨ zbc (nI m) = nI 2 ∨ zbc (nI m) = nI 3 ∨ zbc (nI m) = nI 4 ∨ zbc (nI m) = nI 5 := by decide +kernel
theorem zkf_lt {f : Nat → Int32} {p : Nat} {E : Nat → Prop} (h : zMk (f p) E) (h5 : ∀ q, E q → q < 5) : zkf f p < 6 := by
  obtain ⟨m, h1, h2, h3⟩ := h
  have b : ∀ q, 5 ≤ q → m.testBit q = false := fun q hq => by
    cases e : m.testBit q with
    | false => rfl
    | true => have := h5 q ((h3 q).mp e); omega
  have hm := zm32 m h1 (b 5 (by decide)) (b 6 (by decide))
  have key : ∀ c, c < 6 → zbc (nI m) = nI c → zkf f p < 6 := fun c hc e => by rw [zkf_of hc (by rw [h2]; exact e)]; exact hc
  rcases zbc_le5 m hm with e | e | e | e | e | e
  · exact key 0 (by decide) e
  · exact key 1 (by decide) e
  · exact key 2 (by decide) e
  · exact key 3 (by decide) e
  · exact key 4 (by decide) e
  · exact key 5 (by decide) e
/-- what is told keeps its bounds -/
def cBd (nP nS nA : Nat) (F : Nat → Nat → Int32) : Prop := (∀ p, p < nP → ∃ v, v < 4 ∧ F 2 p = nI v) ∧ (∀ i, i < nA → ∃ w, w < 16 ∧ F 8 i = nI w) ∧ ∀ s, s < nS → ∃ m, m < 2 ^ nP ∧ F 5 s = nI m
theorem cBd.mv {nP nS nA : Nat} {F F' : Nat → Nat → Int32} (h : cBd nP nS nA F) (hJ : cJ F F') : cBd nP nS nA F' := ⟨fun p hp => by rw [hJ 2 p (by simp [scr])]; exact h.1 p hp, fun i hi => by rw [hJ 8 i (by simp [scr])]; exact h.2.1 i hi, fun s hs => by rw [hJ 5 s (by simp [scr])]; exact h.2.2 s hs⟩
/-- who can play what -/
def mPm (F : Nat → Nat → Int32) (nA i p : Nat) : Prop := i < nA ∧ ¬ zIn (F 7 5) (nI i) ∧ zIn (F 8 i) (F 2 p)
theorem zvo : ∀ w, w < 16 → ∀ v, v < 4 → ((¬ nI w &&& nI (2 ^ v) = 0) ↔ (nI w >>> (nI v &&& 31)) &&& nI 1 = nI 1) := by decide +kernel
theorem mPm_of {nP nS nA p v : Nat} {F : Nat → Nat → Int32} {x : Int32} (hB : cBd nP nS nA F) (hv : v < 4) (e : F 2 p = nI v) (h : zMk x (fun q => q < nA ∧ mAb F (nI (2 ^ v)) q)) : zMk x (fun q => mPm F nA q p) := h.cg fun q => by
  constructor
  · rintro ⟨h1, h2, h3⟩
    obtain ⟨w, hw, ew⟩ := hB.2.1 q h1
    refine ⟨h1, h2, ?_⟩
    rw [ew] at h3 ⊢
    rw [e]
    exact (zvo w hw v hv).mp h3
  · rintro ⟨h1, h2, h3⟩
    obtain ⟨w, hw, ew⟩ := hB.2.1 q h1
    refine ⟨h1, h2, ?_⟩
    rw [ew, e] at h3
    rw [ew]
    exact (zvo w hw v hv).mpr h3
theorem mPm_mv {nA q p : Nat} {F G : Nat → Nat → Int32} (hJ : cJ F G) : mPm G nA q p ↔ mPm F nA q p := by
  unfold mPm
  rw [hJ 7 5 rfl, hJ 8 q (by simp [scr]), hJ 2 p (by simp [scr])]
theorem ab_st {i : Nat} {G G' : Nat → Nat → Int32} {r : Int32} {P : Nat → Nat → Prop} (h : ∀ p, p < i → zMk (G 14 p) (P p)) (hF : G' = fset G 14 i r) (hr : zMk r (P i)) : ∀ p, p < i + 1 → zMk (G' 14 p) (P p) := fun p hp => by
  by_cases e : p = i
  · subst e
    rw [hF, fset_eq]
    exact hr
  · rw [hF, fset_ne (Or.inr e)]
    exact h p (by omega)
theorem du_lt {nP nS nA p : Nat} {F : Nat → Nat → Int32} {a : Int32} (hP : nP ≤ 7) (hB : cBd nP nS nA F) (h : mDu (F 5) a nS p) : p < nP := by
  obtain ⟨h7, s, hs, -, hz⟩ := h
  obtain ⟨m, hm, em⟩ := hB.2.2 s hs
  have h128 : m < 128 := Nat.lt_of_lt_of_le hm (zp2 (n := 7) hP)
  rw [em] at hz
  have hb := (zIn_nat (by omega) (by omega)).mp hz
  by_cases hq : p < nP
  · exact hq
  · rw [Nat.testBit_lt_two_pow (Nat.lt_of_lt_of_le hm (Nat.pow_le_pow_right (by decide) (Nat.not_lt.mp hq)))] at hb
    cases hb
/-- a search is prepared -/
def cPr (F : Nat → Nat → Int32) (pm cl : Nat → Nat → Prop) (L : List Nat) : Prop := L.Nodup ∧ L.length ≤ 7 ∧ F 12 8 = nI L.length ∧ (∀ d (h : d < L.length), F 16 d = nI L[d]) ∧ ∀ p, p ∈ L → p < 7 ∧ zMk (F 15 p) (cl p) ∧ zMk (F 14 p) (fun i => pm i p)
theorem cPr.mv {F F' : Nat → Nat → Int32} {pm cl : Nat → Nat → Prop} {L : List Nat} (h : cPr F pm cl L) (hJ : cRw s17 F F') : cPr F' pm cl L := ⟨h.1, h.2.1, (hJ 12 8 rfl).trans h.2.2.1, fun d hd => (hJ 16 d rfl).trans (h.2.2.2.1 d hd), fun p hp => by
  rw [hJ 15 p rfl, hJ 14 p rfl]
  exact h.2.2.2.2 p hp⟩
/-- with so many players a set of scenes can be cast: as the class tells it -/
def zFC (nP nS nA : Nat) (F : Nat → Nat → Int32) (a : Int32) (k : Nat) : Prop := mFit (mPm F nA) (mCl (F 5) (F 4) (F 6) nP a nS) (mDu (F 5) a nS) k
theorem cBd.mvM {nP nS nA : Nat} {F F' : Nat → Nat → Int32} (h : cBd nP nS nA F) (hJ : ∀ k j, (k = 2 ∨ k = 8 ∨ k = 5) → F' k j = F k j) : cBd nP nS nA F' := ⟨fun p hp => by rw [hJ 2 p (by omega)]; exact h.1 p hp, fun i hi => by rw [hJ 8 i (by omega)]; exact h.2.1 i hi, fun s hs => by rw [hJ 5 s (by omega)]; exact h.2.2 s hs⟩
