/-! ===== bits of small sets; numberOfTrailingZeros ===== -/
def zctz (m : Nat) : Nat := if m % 2 = 1 then 0 else if m / 2 % 2 = 1 then 1 else if m / 4 % 2 = 1 then 2 else if m / 8 % 2 = 1 then 3 else if m / 16 % 2 = 1 then 4 else if m / 32 % 2 = 1 then 5 else 6
theorem zpc_low : ∀ m, m < 128 → m ≠ 0 → zpc (m &&& (m - 1)) + 1 = zpc m ∧ m &&& (m - 1) < 128 ∧ zctz m < 7 ∧ m.testBit (zctz m) = true := by decide +kernel
theorem zpc_or : ∀ m, m < 32 → ∀ t, t < 5 → m.testBit t = false → zpc (m ||| 2 ^ t) = zpc m + 1 := by decide +kernel
theorem zpc_5 : ∀ m, m < 32 → zpc m ≤ 5 := by decide +kernel
theorem zpc_0 : zpc 0 = 0 := rfl
theorem zsub {m p : Nat} (h : (m &&& (m - 1)).testBit p = true) : m.testBit p = true := by
  rw [Nat.testBit_and, Bool.and_eq_true] at h
  exact h.1
theorem zntz1 : ∀ m, m < 128 → m ≠ 0 → (((nI m) ^^^ (-1)) &&& (nI m - nI 1) ≤ 0 → ((nI m) ^^^ (-1)) &&& (nI m - nI 1) &&& nI 32 = nI (zctz m)) ∧ ¬ nI 256 < ((nI m) ^^^ (-1)) &&& (nI m - nI 1) ∧ ¬ (65536 : Int32) < ((nI m) ^^^ (-1)) &&& (nI m - nI 1) := by decide +kernel
def zu (x : Int32) (k : Nat) : Int32 := (x.toUInt32 >>> ((nI k).toUInt32 &&& Int32.toUInt32 31)).toInt32
def zi (m : Nat) : Int32 := ((nI m) ^^^ (-1)) &&& (nI m - nI 1)
theorem zntzA : ∀ m, m < 128 → m ≠ 0 → (nI 16 < zi m ∧ nI 4 < zu (zi m) 4) → nI 1 + nI 4 + nI 2 + zu (zu (zu (zi m) 4) 2) 1 = nI (zctz m) := by decide +kernel
theorem zntzB : ∀ m, m < 128 → m ≠ 0 → (nI 16 < zi m ∧ ¬ nI 4 < zu (zi m) 4) → nI 1 + nI 4 + zu (zu (zi m) 4) 1 = nI (zctz m) := by decide +kernel
theorem zntzC : ∀ m, m < 128 → m ≠ 0 → ((¬ zi m ≤ 0 ∧ ¬ nI 16 < zi m) ∧ nI 4 < zi m) → nI 1 + nI 2 + zu (zu (zi m) 2) 1 = nI (zctz m) := by decide +kernel
theorem zntzD : ∀ m, m < 128 → m ≠ 0 → ((¬ zi m ≤ 0 ∧ ¬ nI 16 < zi m) ∧ ¬ nI 4 < zi m) → nI 1 + zu (zi m) 1 = nI (zctz m) := by decide +kernel
theorem zntz2 (m : Nat) (hm : m < 128) (h0 : m ≠ 0) (h9 : ¬ zi m ≤ 0) : (nI 16 < zi m → (nI 4 < zu (zi m) 4 → nI 1 + nI 4 + nI 2 + zu (zu (zu (zi m) 4) 2) 1 = nI (zctz m)) ∧ (¬ nI 4 < zu (zi m) 4 → nI 1 + nI 4 + zu (zu (zi m) 4) 1 = nI (zctz m))) ∧ (¬ nI 16 < zi m → (nI 4 < zi m → nI 1 + nI 2 + zu (zu (zi m) 2) 1 = nI (zctz m)) ∧ (¬ nI 4 < zi m → nI 1 + zu (zi m) 1 = nI (zctz m))) :=
  ⟨fun a => ⟨fun b => zntzA m hm h0 ⟨a, b⟩, fun b => zntzB m hm h0 ⟨a, b⟩⟩, fun a => ⟨fun b => zntzC m hm h0 ⟨⟨h9, a⟩, b⟩, fun b => zntzD m hm h0 ⟨⟨h9, a⟩, b⟩⟩⟩
theorem V_iandN {g : zG} {κ : zC} {own : String} {cc : ByteArray} {nL k n : Nat} {σ : zS} {pc : Nat} {lv : List (Nat × Value)} {rest : List Value} (X : zX g κ own cc nL) {a b : Nat} (d : decode cc pc = .ok (.iand, 1)) (kk : V g κ nL k n σ (pc + 1) lv (.int (nI (a &&& b)) :: rest)) : V g κ nL k n σ pc lv (.int (nI b) :: .int (nI a) :: rest) := V_iand X d (by rw [nI_andN]; exact kk)
