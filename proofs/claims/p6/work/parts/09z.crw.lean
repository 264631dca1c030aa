/-! ===== what changes but a few places ===== -/
def cRw (S : Nat → Nat → Bool) (F0 F : Nat → Nat → Int32) : Prop := ∀ k j : Nat, S k j = false → F k j = F0 k j
section CRW
variable {S : Nat → Nat → Bool} {F0 F F' G H : Nat → Nat → Int32}
theorem cRw.rfl' : cRw S F F := fun _ _ _ => rfl
theorem cRw.trans (h1 : cRw S F G) (h2 : cRw S G H) : cRw S F H := fun k j h => (h2 k j h).trans (h1 k j h)
theorem cRw.set {k j : Nat} {x : Int32} (h : cRw S F0 F) (hF : F' = fset F k j x) (hs : S k j = true) : cRw S F0 F' := fun a b hab => by
  by_cases h1 : a = k ∧ b = j
  · obtain ⟨rfl, rfl⟩ := h1
    rw [hs] at hab
    cases hab
  · rw [hF, fset_ne (by omega)]
    exact h a b hab
theorem cRw.J (h : cRw S F G) (hS : ∀ k j, S k j = true → scr k j = true) : cJ F G := fun k j hk => h k j (by
  cases e : S k j with
  | false => rfl
  | true => rw [hS k j e] at hk; cases hk)
end CRW
def s14 (k _j : Nat) : Bool := k == 14
def s15 (k _j : Nat) : Bool := k == 15
def s17 (k _j : Nat) : Bool := k == 17
def sOr (k j : Nat) : Bool := k == 16 || (k == 12 && j == 8)
theorem s14J : ∀ k j, s14 k j = true → scr k j = true := fun k j h => by
  have : k = 14 := by simpa [s14] using h
  exact zscr (by omega)
theorem s15J : ∀ k j, s15 k j = true → scr k j = true := fun k j h => by
  have : k = 15 := by simpa [s15] using h
  exact zscr (by omega)
theorem s17J : ∀ k j, s17 k j = true → scr k j = true := fun k j h => by
  have : k = 17 := by simpa [s17] using h
  exact zscr (by omega)
theorem sOrJ : ∀ k j, sOr k j = true → scr k j = true := fun k j h => by
  have : k = 16 ∨ (k = 12 ∧ j = 8) := by simpa [sOr] using h
  exact zscr (by omega)
/-- the miles between the towns -/
def sRo (k _j : Nat) : Bool := decide (k = 27 ∨ 29 ≤ k)
theorem zsRo {k j : Nat} (h : k = 27 ∨ 29 ≤ k) : sRo k j = true := decide_eq_true h
theorem cI.mvR {nP nS nA nC nT : Nat} {F F' : Nat → Nat → Int32} (h : cI nP nS nA nC nT F) (hJ : cRw sRo F F') : cI nP nS nA nC nT F' := by
  obtain ⟨a, b, c, d, e, f1, f2, f3, f4, f5, f6⟩ := h
  have o : ∀ k j : Nat, k < 27 → F' k j = F k j := fun k j q => hJ k j (decide_eq_false (by omega))
  refine ⟨a, b, c, d, e, (o 1 5 (by decide)).trans f1, (o 1 6 (by decide)).trans f2, (o 7 4 (by decide)).trans f3, (o 18 3 (by decide)).trans f4, (o 23 4 (by decide)).trans f5, fun s hs => ?_⟩
  obtain ⟨m, h1, h2⟩ := f6 s hs
  exact ⟨m, h1, (o 5 s (by decide)).trans h2⟩
