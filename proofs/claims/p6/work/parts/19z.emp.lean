/-! ===== the lists' empty array: an old cell, of which only class and length are known ===== -/
def zEmC (g : zG) : Prop := ∃ scr : Cell, g.2.1[zEm g]? = some scr ∧ scr.cls = g.2.2.2 3 ∧ (∀ k, scr.vm ≠ .statics k) ∧ scr.slots.size.toInt32 = nI 0
theorem zEmC.lt {g : zG} (h : zEmC g) : zEm g < g.2.1.size := by
  obtain ⟨scr, h1, -⟩ := h
  exact (Array.getElem?_eq_some_iff.mp h1).1
theorem V_alenE {g : zG} {κ : zC} {own : String} {cc : ByteArray} {nL k n : Nat} {σ : zS} {pc : Nat} {lv : List (Nat × Value)} {rest : List Value} (X : zX g κ own cc nL) (hE : zEmC g) (d : decode cc pc = .ok (.arraylength, 1)) (kk : V g κ nL k n σ (pc + 1) lv (.int (nI 0) :: rest)) : V g κ nL k n σ pc lv (.ref (zEm g) :: rest) := by
  intro H locs ls hR hL hl
  have hlt := hE.lt
  obtain ⟨scr, h1, h2, h3, h4⟩ := hE
  obtain ⟨-, kA, hkA, hc⟩ := (X.2.2.2.2.2.2.1.2 3 _ rfl).1 0 (fun _ => .null)
  exact W.alen (n := nI 0) (ty := .object "java/lang/Object") X.1 X.2.1 (by rw [hR.2.2.1 _ hlt]; exact h1) ⟨h3, kA, by rw [h2]; exact hkA, hc⟩ h4 rfl rfl d (kk H locs ls hR hL hl)
