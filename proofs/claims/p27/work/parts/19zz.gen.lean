/-! ===== general rows ===== -/
theorem zup_zup {f : Nat → Option va_E} {a : Nat} {e e' : va_E} : zup (zup f a e) a e' = zup f a e' := by
  funext b
  by_cases h : b = a
  · subst h; rw [zup_eq, zup_eq]
  · rw [zup_ne h, zup_ne h, zup_ne h]
theorem zup_comm {f : Nat → Option va_E} {a b : Nat} {e x : va_E} (h : a ≠ b) : zup (zup f b x) a e = zup (zup f a e) b x := by
  funext c
  by_cases h1 : c = a
  · subst h1; rw [zup_eq, zup_ne h, zup_eq]
  · by_cases h2 : c = b
    · subst h2; rw [zup_ne h1, zup_eq, zup_eq]
    · rw [zup_ne h1, zup_ne h2, zup_ne h2, zup_ne h1]
theorem zup_sub {f : Nat → Option va_E} {a : Nat} {e : va_E} (h : ∀ e', f a = some e' → False) : ∀ b x, f b = some x → zup f a e b = some x := fun b x hb => by
  by_cases e1 : b = a
  · subst e1; exact (h x hb).elim
  · rw [zup_ne e1]; exact hb
theorem V.weak {g : zG} {κ : zC} {nL k n : Nat} {t : Nat × Nat} {f f' : Nat → Option va_E} {pc : Nat} {lv : List (Nat × Value)} {st : List Value} (h : ∀ a e, f' a = some e → f a = some e) (kk : V g κ nL k n (t, f') pc lv st) : V g κ nL k n (t, f) pc lv st := fun H locs ls hR hL hl =>
  kk H locs ls ⟨hR.1, hR.2.1, hR.2.2.1, fun a e he => hR.2.2.2 a e (h a e he)⟩ hL hl
