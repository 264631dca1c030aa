/-! ===== what holds of the class's world between calls; scratch ===== -/
def scr (k j : Nat) : Bool := decide ((14 ≤ k ∧ k ≤ 17) ∨ k = 22 ∨ (k = 18 ∧ j = 6) ∨ (k = 12 ∧ j = 8))
theorem zscr {k j : Nat} (h : (14 ≤ k ∧ k ≤ 17) ∨ k = 22 ∨ (k = 18 ∧ j = 6) ∨ (k = 12 ∧ j = 8)) : scr k j = true := decide_eq_true h
/-- F is F0 but for scratch -/
def cJ (F0 F : Nat → Nat → Int32) : Prop := ∀ k j : Nat, scr k j = false → F k j = F0 k j
theorem cJ.rfl' {F : Nat → Nat → Int32} : cJ F F := fun _ _ _ => rfl
theorem cJ.trans {F G H : Nat → Nat → Int32} (h1 : cJ F G) (h2 : cJ G H) : cJ F H := fun k j h => (h2 k j h).trans (h1 k j h)
theorem cJ.set {F0 F F' : Nat → Nat → Int32} {k j : Nat} {x : Int32} (h : cJ F0 F) (hF : F' = fset F k j x) (hs : scr k j = true) : cJ F0 F' := fun a b hab => by
  rw [hF, fset_ne ?_, h a b hab]
  by_cases h1 : a = k
  · by_cases h2 : b = j
    · subst h1; subst h2; rw [hs] at hab; cases hab
    · exact Or.inr h2
  · exact Or.inl h1
def cI (nP nS nA nC nT : Nat) (F : Nat → Nat → Int32) : Prop := nP ≤ 7 ∧ nS ≤ 6 ∧ nA ≤ 5 ∧ nC ≤ 6 ∧ nT ≤ 5 ∧ F 1 5 = nI nP ∧ F 1 6 = nI nS ∧ F 7 4 = nI nA ∧ F 18 3 = nI nC ∧ F 23 4 = nI nT ∧ ∀ s, s < nS → ∃ m, m < 128 ∧ F 5 s = nI m
section CI
variable {nP nS nA nC nT : Nat} {F0 F : Nat → Nat → Int32}
theorem cI.mv (h : cI nP nS nA nC nT F0) (hJ : cJ F0 F) : cI nP nS nA nC nT F := by
  obtain ⟨a, b, c, d, e, f1, f2, f3, f4, f5, f6⟩ := h
  refine ⟨a, b, c, d, e, (hJ 1 5 rfl).trans f1, (hJ 1 6 rfl).trans f2, (hJ 7 4 rfl).trans f3, (hJ 18 3 rfl).trans f4, (hJ 23 4 rfl).trans f5, fun s hs => ?_⟩
  obtain ⟨m, h1, h2⟩ := f6 s hs
  exact ⟨m, h1, (hJ 5 s (by simp [scr])).trans h2⟩
theorem cI.bnd (h : cI nP nS nA nC nT F) : nP ≤ 7 ∧ nS ≤ 6 ∧ nA ≤ 5 ∧ nC ≤ 6 ∧ nT ≤ 5 := ⟨h.1, h.2.1, h.2.2.1, h.2.2.2.1, h.2.2.2.2.1⟩
theorem cI.f1_5 (h : cI nP nS nA nC nT F) : F 1 5 = nI nP := h.2.2.2.2.2.1
theorem cI.f1_6 (h : cI nP nS nA nC nT F) : F 1 6 = nI nS := h.2.2.2.2.2.2.1
theorem cI.f7_4 (h : cI nP nS nA nC nT F) : F 7 4 = nI nA := h.2.2.2.2.2.2.2.1
theorem cI.f18_3 (h : cI nP nS nA nC nT F) : F 18 3 = nI nC := h.2.2.2.2.2.2.2.2.1
theorem cI.f23_4 (h : cI nP nS nA nC nT F) : F 23 4 = nI nT := h.2.2.2.2.2.2.2.2.2.1
theorem cI.sp (h : cI nP nS nA nC nT F) : ∀ s, s < nS → ∃ m, m < 128 ∧ F 5 s = nI m := h.2.2.2.2.2.2.2.2.2.2
def crit (k j : Nat) : Bool := decide (k = 5 ∨ (k = 1 ∧ (j = 5 ∨ j = 6)) ∨ (k = 7 ∧ j = 4) ∨ (k = 18 ∧ j = 3) ∨ (k = 23 ∧ j = 4))
theorem cI.st {F' : Nat → Nat → Int32} {k j : Nat} {x : Int32} (h : cI nP nS nA nC nT F) (hF : F' = fset F k j x) (hc : crit k j = false) : cI nP nS nA nC nT F' := by
  obtain ⟨a, b, c, d, e, f1, f2, f3, f4, f5, f6⟩ := h
  have hk := of_decide_eq_false hc
  have o : ∀ k' j' : Nat, (k' ≠ k ∨ j' ≠ j) → F' k' j' = F k' j' := fun k' j' h => by rw [hF, fset_ne h]
  refine ⟨a, b, c, d, e, (o 1 5 (by omega)).trans f1, (o 1 6 (by omega)).trans f2, (o 7 4 (by omega)).trans f3, (o 18 3 (by omega)).trans f4, (o 23 4 (by omega)).trans f5, fun s hs => ?_⟩
  obtain ⟨m, h1, h2⟩ := f6 s hs
  exact ⟨m, h1, (o 5 s (by omega)).trans h2⟩
theorem cI.st5 {F' : Nat → Nat → Int32} {x : Int32} (h : cI nP nS nA nC nT F) (hF : F' = fset F 5 nS x) : cI nP nS nA nC nT F' := by
  obtain ⟨a, b, c, d, e, f1, f2, f3, f4, f5, f6⟩ := h
  have o : ∀ k' j' : Nat, (k' ≠ 5 ∨ j' ≠ nS) → F' k' j' = F k' j' := fun k' j' h => by rw [hF, fset_ne h]
  refine ⟨a, b, c, d, e, (o 1 5 (by omega)).trans f1, (o 1 6 (by omega)).trans f2, (o 7 4 (by omega)).trans f3, (o 18 3 (by omega)).trans f4, (o 23 4 (by omega)).trans f5, fun s hs => ?_⟩
  obtain ⟨m, h1, h2⟩ := f6 s hs
  exact ⟨m, h1, (o 5 s (by omega)).trans h2⟩
theorem cI.incP {F' : Nat → Nat → Int32} (h : cI nP nS nA nC nT F) (hF : F' = fset F 1 5 (nI (nP + 1))) (hp : nP + 1 ≤ 7) : cI (nP + 1) nS nA nC nT F' := by
  obtain ⟨a, b, c, d, e, f1, f2, f3, f4, f5, f6⟩ := h
  have o : ∀ k' j' : Nat, (k' ≠ 1 ∨ j' ≠ 5) → F' k' j' = F k' j' := fun k' j' h => by rw [hF, fset_ne h]
  refine ⟨hp, b, c, d, e, by rw [hF, fset_eq], (o 1 6 (by omega)).trans f2, (o 7 4 (by omega)).trans f3, (o 18 3 (by omega)).trans f4, (o 23 4 (by omega)).trans f5, fun s hs => ?_⟩
  obtain ⟨m, h1, h2⟩ := f6 s hs
  exact ⟨m, h1, (o 5 s (by omega)).trans h2⟩
theorem cI.incS {F' : Nat → Nat → Int32} (h : cI nP nS nA nC nT F) (hF : F' = fset F 1 6 (nI (nS + 1))) (hp : nS + 1 ≤ 6) (h5 : ∃ m, m < 128 ∧ F 5 nS = nI m) : cI nP (nS + 1) nA nC nT F' := by
  obtain ⟨a, b, c, d, e, f1, f2, f3, f4, f5, f6⟩ := h
  have o : ∀ k' j' : Nat, (k' ≠ 1 ∨ j' ≠ 6) → F' k' j' = F k' j' := fun k' j' h => by rw [hF, fset_ne h]
  refine ⟨a, hp, c, d, e, (o 1 5 (by omega)).trans f1, by rw [hF, fset_eq], (o 7 4 (by omega)).trans f3, (o 18 3 (by omega)).trans f4, (o 23 4 (by omega)).trans f5, fun s hs => ?_⟩
  by_cases hs' : s = nS
  · subst hs'
    obtain ⟨m, h1, h2⟩ := h5
    exact ⟨m, h1, (o 5 s (by omega)).trans h2⟩
  · obtain ⟨m, h1, h2⟩ := f6 s (by omega)
    exact ⟨m, h1, (o 5 s (by omega)).trans h2⟩
theorem cI.incA {F' : Nat → Nat → Int32} (h : cI nP nS nA nC nT F) (hF : F' = fset F 7 4 (nI (nA + 1))) (hp : nA + 1 ≤ 5) : cI nP nS (nA + 1) nC nT F' := by
  obtain ⟨a, b, c, d, e, f1, f2, f3, f4, f5, f6⟩ := h
  have o : ∀ k' j' : Nat, (k' ≠ 7 ∨ j' ≠ 4) → F' k' j' = F k' j' := fun k' j' h => by rw [hF, fset_ne h]
  refine ⟨a, b, hp, d, e, (o 1 5 (by omega)).trans f1, (o 1 6 (by omega)).trans f2, by rw [hF, fset_eq], (o 18 3 (by omega)).trans f4, (o 23 4 (by omega)).trans f5, fun s hs => ?_⟩
  obtain ⟨m, h1, h2⟩ := f6 s hs
  exact ⟨m, h1, (o 5 s (by omega)).trans h2⟩
theorem cI.incC {F' : Nat → Nat → Int32} (h : cI nP nS nA nC nT F) (hF : F' = fset F 18 3 (nI (nC + 1))) (hp : nC + 1 ≤ 6) : cI nP nS nA (nC + 1) nT F' := by
  obtain ⟨a, b, c, d, e, f1, f2, f3, f4, f5, f6⟩ := h
  have o : ∀ k' j' : Nat, (k' ≠ 18 ∨ j' ≠ 3) → F' k' j' = F k' j' := fun k' j' h => by rw [hF, fset_ne h]
  refine ⟨a, b, c, hp, e, (o 1 5 (by omega)).trans f1, (o 1 6 (by omega)).trans f2, (o 7 4 (by omega)).trans f3, by rw [hF, fset_eq], (o 23 4 (by omega)).trans f5, fun s hs => ?_⟩
  obtain ⟨m, h1, h2⟩ := f6 s hs
  exact ⟨m, h1, (o 5 s (by omega)).trans h2⟩
theorem cI.incT {F' : Nat → Nat → Int32} (h : cI nP nS nA nC nT F) (hF : F' = fset F 23 4 (nI (nT + 1))) (hp : nT + 1 ≤ 5) : cI nP nS nA nC (nT + 1) F' := by
  obtain ⟨a, b, c, d, e, f1, f2, f3, f4, f5, f6⟩ := h
  have o : ∀ k' j' : Nat, (k' ≠ 23 ∨ j' ≠ 4) → F' k' j' = F k' j' := fun k' j' h => by rw [hF, fset_ne h]
  refine ⟨a, b, c, d, hp, (o 1 5 (by omega)).trans f1, (o 1 6 (by omega)).trans f2, (o 7 4 (by omega)).trans f3, (o 18 3 (by omega)).trans f4, by rw [hF, fset_eq], fun s hs => ?_⟩
  obtain ⟨m, h1, h2⟩ := f6 s hs
  exact ⟨m, h1, (o 5 s (by omega)).trans h2⟩
end CI
theorem zor {n a c : Nat} (ha : a < 2 ^ n) (hc : c < n) : a ||| 2 ^ c < 2 ^ n := Nat.or_lt_two_pow ha (Nat.pow_lt_pow_right (by decide) hc)
theorem zp2 {a n : Nat} (h : a ≤ n) : 2 ^ a ≤ 2 ^ n := Nat.pow_le_pow_right (by decide) h
/-! ends of methods -/
def zNo : String → zS → Prop := fun _ _ => False
def pI (v : Option Value) : Prop := ∃ x : Int32, v = some (.int x)
def pB (v : Option Value) : Prop := ∃ x : Int32, v = some (.int x) ∧ (x = 0 ∨ x = 1)
def pV (v : Option Value) : Prop := v = none
/-- a number below b -/
def pN (b : Nat) (v : Option Value) : Prop := ∃ x : Nat, x < b ∧ v = some (.int (nI x))
/-- none, or a number below b -/
def pO (b : Nat) (v : Option Value) : Prop := v = some (.int (-1)) ∨ ∃ x : Nat, x < b ∧ v = some (.int (nI x))
def qR (P : Option Value → Prop) (σ : zS) : Option Value → zS → Prop := fun v σ' => P v ∧ σ' = σ
def qS (P : Option Value → Prop) (g : zG) (t : Nat × Nat) (X0 : Nat) (F : Nat → Nat → Int32) (σ0 : Nat → Option va_E) : Option Value → zS → Prop := fun v σ' => P v ∧ ∃ F' : Nat → Nat → Int32, σ' = (t, cW g X0 F' σ0) ∧ cJ F F'
theorem zbool {x : Int32} (h : x = 0 ∨ x = 1) : narrow .boolean (.int x) = .int x := by
  rcases h with rfl | rfl <;> rfl
theorem z01_0 : nI 0 = 0 ∨ nI 0 = 1 := Or.inl (by decide)
theorem z01_1 : nI 1 = 0 ∨ nI 1 = 1 := Or.inr (by decide)
