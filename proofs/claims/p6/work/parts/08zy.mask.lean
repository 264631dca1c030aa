/-! ===== sets as bits ===== -/
theorem zand1 (x : Int32) : x &&& nI 1 = nI 0 ∨ x &&& nI 1 = nI 1 := by
  have h := nI_andX (a := 1) (by decide) x
  obtain ⟨j, hj, e⟩ := h
  rw [Int32.and_comm, e]
  have : j = 0 ∨ j = 1 := by omega
  rcases this with rfl | rfl
  · exact Or.inl rfl
  · exact Or.inr rfl
def zIn (x k : Int32) : Prop := (x >>> (k &&& 31)) &&& nI 1 = nI 1
theorem zIn_nat {m k : Nat} (hm : m < 2 ^ 31) (hk : k < 31) : zIn (nI m) (nI k) ↔ m.testBit k = true := by
  unfold zIn
  have e1 : nI m >>> (nI k &&& 31) = nI (m / 2 ^ k) := by
    have h31 : (nI k &&& 31) = nI k := by
      have : ∀ k, k < 31 → (nI k &&& 31) = nI k := by decide +kernel
      exact this k hk
    rw [h31]
    have hs : ∀ k, k < 31 → ((nI k).toBitVec.smod 32).toNat = k := by decide +kernel
    exact pk_shrN hm (nI k) k (hs k hk)
  have h1 : (m >>> k &&& 1) ≤ 1 := Nat.and_le_right
  rw [e1, nI_andN, nI_eq (by rw [← Nat.shiftRight_eq_div_pow]; omega) (by decide), Nat.testBit, ← Nat.shiftRight_eq_div_pow, Nat.and_comm 1]
  constructor
  · intro h
    rw [h]
    rfl
  · intro h
    have : m >>> k &&& 1 ≠ 0 := by simpa using h
    omega
def pZ (G : Prop) (v : Option Value) : Prop := (v = some (.int (nI 1)) ∧ G) ∨ (v = some (.int (nI 0)) ∧ ¬ G)
theorem pZ.imp {G H : Prop} {v : Option Value} (h : pZ G v) (i : G ↔ H) : pZ H v := by
  rcases h with ⟨e, h⟩ | ⟨e, h⟩
  · exact Or.inl ⟨e, i.mp h⟩
  · exact Or.inr ⟨e, fun q => h (i.mpr q)⟩
theorem zIn_ne {x k : Int32} (h : ¬ (x >>> (k &&& 31)) &&& nI 1 = 0) : zIn x k := (zand1 _).resolve_left (fun e => h (e.trans nI_0))
theorem zIn_z {x k : Int32} (h : (x >>> (k &&& 31)) &&& nI 1 = 0) : ¬ zIn x k := fun e => absurd ((h.symm.trans e).trans rfl) (by decide)
/-- x is the set of those below 7 that E tells -/
def zMk (x : Int32) (E : Nat → Prop) : Prop := ∃ m, m < 128 ∧ x = nI m ∧ ∀ q, m.testBit q = true ↔ E q
section ZMK
variable {x y : Int32} {E E' : Nat → Prop} {m p q j : Nat}
theorem tB7 {m q : Nat} (hm : m < 128) (h : m.testBit q = true) : q < 7 := by
  by_cases hp : q < 7
  · exact hp
  · rw [Nat.testBit_lt_two_pow (Nat.lt_of_lt_of_le hm (Nat.pow_le_pow_right (n := 2) (i := 7) (by decide) (Nat.not_lt.mp hp)))] at h
    cases h
theorem zMk.cg (h : zMk x E) (e : ∀ q, E q ↔ E' q) : zMk x E' := by
  obtain ⟨m, h1, h2, h3⟩ := h
  exact ⟨m, h1, h2, fun q => (h3 q).trans (e q)⟩
theorem zMk.lt (h : zMk x E) (hq : E q) : q < 7 := by
  obtain ⟨m, h1, h2, h3⟩ := h
  exact tB7 h1 ((h3 q).mpr hq)
theorem zMk_0 : zMk (nI 0) (fun _ => False) := ⟨0, by decide, rfl, fun q => by rw [Nat.zero_testBit]; exact ⟨fun h => (by cases h), False.elim⟩⟩
theorem zMk.or (h : zMk x E) (h' : zMk y E') : zMk (x ||| y) (fun q => E q ∨ E' q) := by
  obtain ⟨m, h1, rfl, h3⟩ := h
  obtain ⟨n, k1, rfl, k3⟩ := h'
  refine ⟨m ||| n, Nat.or_lt_two_pow (n := 7) h1 k1, nI_orN m n, fun q => ?_⟩
  rw [Nat.testBit_or, Bool.or_eq_true]
  exact or_congr (h3 q) (k3 q)
theorem zMk_bit (hj : j < 7) : zMk (nI (2 ^ j)) (fun q => q = j) := ⟨2 ^ j, (Nat.pow_lt_pow_right (by decide : 1 < 2) hj : 2 ^ j < 2 ^ 7), rfl, fun q => by
  rw [Nat.testBit_two_pow]
  exact ⟨fun h => (of_decide_eq_true h).symm, fun h => decide_eq_true h.symm⟩⟩
theorem zMk_self (hm : m < 128) : zMk (nI m) (fun q => q < 7 ∧ zIn (nI m) (nI q)) := ⟨m, hm, rfl, fun q => by
  constructor
  · intro h
    have h7 := tB7 hm h
    exact ⟨h7, (zIn_nat (by omega) (by omega)).mpr h⟩
  · rintro ⟨h7, h⟩
    exact (zIn_nat (by omega) (by omega)).mp h⟩
theorem zMk.In (h : zMk x E) (hq : q < 7) : zIn x (nI q) ↔ E q := by
  obtain ⟨m, h1, rfl, h3⟩ := h
  exact (zIn_nat (by omega) (by omega)).trans (h3 q)
theorem zMk_and (h : zMk x E) (h' : zMk y E') : x &&& y = 0 ↔ ∀ q, ¬ (E q ∧ E' q) := by
  obtain ⟨m, h1, rfl, h3⟩ := h
  obtain ⟨n, k1, rfl, k3⟩ := h'
  have hlt : m &&& n < 128 := Nat.lt_of_le_of_lt Nat.and_le_left h1
  rw [nI_andN, show (0 : Int32) = nI 0 from nI_0.symm, nI_eq (by omega) (by decide)]
  constructor
  · intro h q hq
    have : (m &&& n).testBit q = true := by rw [Nat.testBit_and, (h3 q).mpr hq.1, (k3 q).mpr hq.2]; rfl
    rw [h, Nat.zero_testBit] at this
    cases this
  · intro h
    refine Nat.eq_of_testBit_eq fun q => ?_
    rw [Nat.testBit_and, Nat.zero_testBit]
    cases e1 : m.testBit q with
    | false => rfl
    | true =>
      cases e2 : n.testBit q with
      | false => rfl
      | true => exact absurd ⟨(h3 q).mp e1, (k3 q).mp e2⟩ (h q)
theorem zMk_z (h : zMk x E) : x = 0 ↔ ∀ q, ¬ E q := by
  obtain ⟨m, h1, rfl, h3⟩ := h
  rw [show (0 : Int32) = nI 0 from nI_0.symm, nI_eq (by omega) (by decide)]
  constructor
  · intro h q hq
    have := (h3 q).mpr hq
    rw [h, Nat.zero_testBit] at this
    cases this
  · intro h
    refine Nat.eq_of_testBit_eq fun q => ?_
    rw [Nat.zero_testBit]
    cases e1 : m.testBit q with
    | false => rfl
    | true => exact absurd ((h3 q).mp e1) (h q)
theorem zAn_v : ∀ m, m < 128 → ∀ p, p < 7 → nI m &&& (nI (2 ^ p) ^^^ (-1)) = nI (m &&& (127 ^^^ 2 ^ p)) := by decide +kernel
theorem zAn_b : ∀ p, p < 7 → ∀ q, q < 7 → (127 ^^^ 2 ^ p).testBit q = (q != p) := by decide +kernel
theorem zMk.rm (h : zMk x E) (hp : p < 7) : zMk (x &&& (nI (2 ^ p) ^^^ (-1))) (fun q => E q ∧ q ≠ p) := by
  obtain ⟨m, h1, rfl, h3⟩ := h
  refine ⟨m &&& (127 ^^^ 2 ^ p), Nat.lt_of_le_of_lt Nat.and_le_left h1, zAn_v m h1 p hp, fun q => ?_⟩
  rw [Nat.testBit_and]
  constructor
  · intro h
    have h' := (Bool.and_eq_true _ _).mp h
    have h7 := tB7 h1 h'.1
    rw [zAn_b p hp q h7] at h'
    exact ⟨(h3 q).mp h'.1, by simpa using h'.2⟩
  · rintro ⟨a, b⟩
    have ha := (h3 q).mpr a
    rw [ha, zAn_b p hp q (tB7 h1 ha)]
    simpa using b
/-- one more of a set that is gone through -/
theorem abl_0 {P : Nat → Prop} : zMk (nI 0) (fun q => q < 0 ∧ P q) := zMk_0.cg fun q => ⟨False.elim, fun z => absurd z.1 (Nat.not_lt_zero q)⟩
theorem abl_no {P : Nat → Prop} {i : Nat} (h : zMk x (fun q => q < i ∧ P q)) (hn : ¬ P i) : zMk x (fun q => q < i + 1 ∧ P q) := h.cg fun q => ⟨fun z => ⟨by omega, z.2⟩, fun z => ⟨by
  rcases Nat.lt_succ_iff_lt_or_eq.mp z.1 with a | a
  · exact a
  · subst a; exact absurd z.2 hn, z.2⟩⟩
theorem abl_yes {P : Nat → Prop} {i : Nat} (h : zMk x (fun q => q < i ∧ P q)) (hy : P i) (hi : i < 7) : zMk (x ||| nI (2 ^ i)) (fun q => q < i + 1 ∧ P q) := (h.or (zMk_bit hi)).cg fun q => ⟨fun z => by
  rcases z with z | z
  · exact ⟨by omega, z.2⟩
  · subst z; exact ⟨Nat.lt_succ_self _, hy⟩, fun z => by
  rcases Nat.lt_succ_iff_lt_or_eq.mp z.1 with a | a
  · exact Or.inl ⟨a, z.2⟩
  · exact Or.inr a⟩
/-- the parts of the first scenes of a set -/
def mDu (f : Nat → Int32) (a : Int32) (n q : Nat) : Prop := q < 7 ∧ ∃ s, s < n ∧ zIn a (nI s) ∧ zIn (f s) (nI q)
theorem mDu_0 {f : Nat → Int32} {a : Int32} : zMk (nI 0) (mDu f a 0) := zMk_0.cg fun q => ⟨False.elim, fun ⟨_, s, hs, _⟩ => absurd hs (Nat.not_lt_zero s)⟩
theorem mDu_no {f : Nat → Int32} {a : Int32} {i : Nat} (h : zMk x (mDu f a i)) (hn : ¬ zIn a (nI i)) : zMk x (mDu f a (i + 1)) := h.cg fun q => ⟨fun ⟨h7, s, hs, z⟩ => ⟨h7, s, by omega, z⟩, fun ⟨h7, s, hs, z1, z2⟩ => ⟨h7, s, by
  rcases Nat.lt_succ_iff_lt_or_eq.mp hs with e | e
  · exact e
  · subst e; exact absurd z1 hn, z1, z2⟩⟩
theorem mDu_yes {f : Nat → Int32} {a : Int32} {i : Nat} (h : zMk x (mDu f a i)) (hy : zIn a (nI i)) (hm : m < 128) (e : f i = nI m) : zMk (x ||| nI m) (mDu f a (i + 1)) := (h.or (zMk_self hm)).cg fun q => ⟨fun z => by
  rcases z with ⟨h7, s, hs, z⟩ | ⟨h7, z⟩
  · exact ⟨h7, s, by omega, z⟩
  · exact ⟨h7, i, Nat.lt_succ_self _, hy, by rw [e]; exact z⟩, fun ⟨h7, s, hs, z1, z2⟩ => by
  rcases Nat.lt_succ_iff_lt_or_eq.mp hs with k | k
  · exact Or.inl ⟨h7, s, k, z1, z2⟩
  · subst k; rw [e] at z2; exact Or.inr ⟨h7, z2⟩⟩
end ZMK
theorem zbc5 : ∀ m, m < 32 → zbc (nI m) = nI ((if m.testBit 0 = true then 1 else 0) + (if m.testBit 1 = true then 1 else 0) + (if m.testBit 2 = true then 1 else 0) + (if m.testBit 3 = true then 1 else 0) + (if m.testBit 4 = true then 1 else 0)) := by decide +kernel
