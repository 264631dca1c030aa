/-! ===== what holds of the class's world between calls; scratch ===== -/
def scr (k j : Nat) : Bool := decide ((12 ≤ k ∧ k ≤ 17) ∨ k = 22 ∨ (k = 18 ∧ j = 6))
/-- F is F0 but for scratch -/
def cJ (F0 F : Nat → Nat → Int32) : Prop := ∀ k j : Nat, scr k j = false → F k j = F0 k j
theorem cJ.rfl' {F : Nat → Nat → Int32} : cJ F F := fun _ _ _ => rfl
theorem cJ.trans {F G H : Nat → Nat → Int32} (h1 : cJ F G) (h2 : cJ G H) : cJ F H := fun k j h => (h2 k j h).trans (h1 k j h)
theorem cJ.set {F0 F F' : Nat → Nat → Int32} {k j : Nat} {x : Int32} (h : cJ F0 F) (hF : F' = fset F k j x) (hs : scr k j = true) : cJ F0 F' := fun a b hab => by
  rw [hF, fset_ne ?_, h a b hab]
  by_cases h1 : a = k
  · by_cases h2 : b = j
    · subst h1; subst h2; rw [hs] at hab; cases hab
    · exact Or.inr h2
  · exact Or.inl h1
def cI (nP nS nA nC nT : Nat) (F : Nat → Nat → Int32) : Prop := nP ≤ 7 ∧ nS ≤ 6 ∧ nA ≤ 5 ∧ nC ≤ 6 ∧ nT ≤ 5 ∧ F 1 5 = nI nP ∧ F 1 6 = nI nS ∧ F 7 4 = nI nA ∧ F 18 3 = nI nC ∧ F 23 4 = nI nT ∧ ∀ s, s < nS → ∃ m, m < 128 ∧ F 5 s = nI m
section CI
variable {nP nS nA nC nT : Nat} {F0 F : Nat → Nat → Int32}
theorem cI.mv (h : cI nP nS nA nC nT F0) (hJ : cJ F0 F) : cI nP nS nA nC nT F := by
  obtain ⟨a, b, c, d, e, f1, f2, f3, f4, f5, f6⟩ := h
  refine ⟨a, b, c, d, e, (hJ 1 5 rfl).trans f1, (hJ 1 6 rfl).trans f2, (hJ 7 4 rfl).trans f3, (hJ 18 3 rfl).trans f4, (hJ 23 4 rfl).trans f5, fun s hs => ?_⟩
  obtain ⟨m, h1, h2⟩ := f6 s hs
  exact ⟨m, h1, (hJ 5 s (by simp [scr])).trans h2⟩
theorem cI.bnd (h : cI nP nS nA nC nT F) : nP ≤ 7 ∧ nS ≤ 6 ∧ nA ≤ 5 ∧ nC ≤ 6 ∧ nT ≤ 5 := ⟨h.1, h.2.1, h.2.2.1, h.2.2.2.1, h.2.2.2.2.1⟩
theorem cI.f1_5 (h : cI nP nS nA nC nT F) : F 1 5 = nI nP := h.2.2.2.2.2.1
theorem cI.f1_6 (h : cI nP nS nA nC nT F) : F 1 6 = nI nS := h.2.2.2.2.2.2.1
theorem cI.f7_4 (h : cI nP nS nA nC nT F) : F 7 4 = nI nA := h.2.2.2.2.2.2.2.1
theorem cI.f18_3 (h : cI nP nS nA nC nT F) : F 18 3 = nI nC := h.2.2.2.2.2.2.2.2.1
theorem cI.f23_4 (h : cI nP nS nA nC nT F) : F 23 4 = nI nT := h.2.2.2.2.2.2.2.2.2.1
theorem cI.sp (h : cI nP nS nA nC nT F) : ∀ s, s < nS → ∃ m, m < 128 ∧ F 5 s = nI m := h.2.2.2.2.2.2.2.2.2.2
end CI
/-! ends of methods -/
def zNo : String → zS → Prop := fun _ _ => False
def pI (v : Option Value) : Prop := ∃ x : Int32, v = some (.int x)
def pB (v : Option Value) : Prop := ∃ x : Int32, v = some (.int x) ∧ (x = 0 ∨ x = 1)
def pV (v : Option Value) : Prop := v = none
/-- a number below b -/
def pN (b : Nat) (v : Option Value) : Prop := ∃ x : Nat, x < b ∧ v = some (.int (nI x))
/-- none, or a number below b -/
def pO (b : Nat) (v : Option Value) : Prop := v = some (.int (-1)) ∨ ∃ x : Nat, x < b ∧ v = some (.int (nI x))
def qR (P : Option Value → Prop) (σ : zS) : Option Value → zS → Prop := fun v σ' => P v ∧ σ' = σ
def qS (P : Option Value → Prop) (g : zG) (t X0 : Nat) (F : Nat → Nat → Int32) (σ0 : Nat → Option va_E) : Option Value → zS → Prop := fun v σ' => P v ∧ ∃ F' : Nat → Nat → Int32, σ' = (t, cW g X0 F' σ0) ∧ cJ F F'
theorem zbool {x : Int32} (h : x = 0 ∨ x = 1) : narrow .boolean (.int x) = .int x := by
  rcases h with rfl | rfl <;> rfl
theorem z01_0 : nI 0 = 0 ∨ nI 0 = 1 := Or.inl (by decide)
theorem z01_1 : nI 1 = 0 ∨ nI 1 = 1 := Or.inr (by decide)
