/-! ===== the script read ===== -/
section LAWROWS
variable {g : zG} {κ : zC} {own : String} {cc : ByteArray} {nL k n : Nat} {σ : zS} {pc : Nat} {lv : List (Nat × Value)} {rest st : List Value}
theorem V_sld (X : zX g κ own cc nL) {b L : Nat} {xs : Nat → Int32} (hX : va_X b L xs (zs κ) g.2.1) (hb : b < g.2.1.size) {i : Int32} (hin : vp_in i L) (d : decode cc pc = .ok (.iaload, 1)) (kk : V g κ nL k n σ (pc + 1) lv (.int (xs i.toNatClampNeg) :: rest)) : V g κ nL k n σ pc lv (.int i :: .ref b :: rest) := by
  intro H locs ls hR hL hl
  obtain ⟨scr, h1, h2, h3, h4, h5⟩ := hX
  have hlt : i.toNatClampNeg < L := Nat.not_le.mp fun q => hin (Or.inr q)
  exact W.iald (v := .int (xs i.toNatClampNeg)) X.1 X.2.1 (by rw [hR.2.2.1 b hb]; exact h1) h2 h3 (by rw [h4]; exact hin) (h5 _ hlt) rfl rfl d (kk H locs ls hR hL hl)
theorem V_slen (X : zX g κ own cc nL) {b L : Nat} {xs : Nat → Int32} (hX : va_X b L xs (zs κ) g.2.1) (hb : b < g.2.1.size) (d : decode cc pc = .ok (.arraylength, 1)) (kk : V g κ nL k n σ (pc + 1) lv (.int (nI L) :: rest)) : V g κ nL k n σ pc lv (.ref b :: rest) := by
  intro H locs ls hR hL hl
  obtain ⟨scr, h1, h2, h3, h4, h5⟩ := hX
  exact W.alen (n := Int32.ofNat L) X.1 X.2.1 (by rw [hR.2.2.1 b hb]; exact h1) h2 (by rw [h4] <;> rfl) rfl rfl d (kk H locs ls hR hL hl)
end LAWROWS
