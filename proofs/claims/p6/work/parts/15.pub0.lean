/-! ===== guards, throws, what a call of the face leaves ===== -/
def zin (lo hi : Nat) (a : Int32) : Prop := ∃ j, a = nI j ∧ lo ≤ j ∧ j ≤ hi
def zlt (n : Nat) (a : Int32) : Prop := ∃ j, a = nI j ∧ j < n
theorem zin_of {lo hi : Nat} {a : Int32} (h1 : ¬ a < nI lo) (h2 : a ≤ nI hi) (hl : lo < 2 ^ 31) (hh : hi < 2 ^ 31) : zin lo hi a := by
  have h0 : ¬ a < 0 := fun h => h1 (Int32.lt_of_lt_of_le h (nI_le (a := 0) (Nat.zero_le _) hl))
  obtain ⟨j, hj, rfl⟩ := nI_of h0
  exact ⟨j, rfl, Nat.not_lt.mp fun q => h1 ((nI_ltI hj hl).mpr q), (nI_leI hj hh).mp h2⟩
theorem zin_lo {lo hi : Nat} {a : Int32} (h : a < nI lo) (hl : lo < 2 ^ 31) (hh : hi < 2 ^ 31) : ¬ zin lo hi a := by
  rintro ⟨j, rfl, h1, h2⟩
  have := (nI_ltI (by omega) hl).mp h
  omega
theorem zin_hi {lo hi : Nat} {a : Int32} (h : ¬ a ≤ nI hi) (hh : hi < 2 ^ 31) : ¬ zin lo hi a := by
  rintro ⟨j, rfl, h1, h2⟩
  exact h ((nI_leI (by omega) hh).mpr h2)
theorem zin_nI {lo hi j : Nat} (h : zin lo hi (nI j)) (hj : j < 2 ^ 31) (hh : hi < 2 ^ 31) : lo ≤ j ∧ j ≤ hi := by
  obtain ⟨i, e, h1, h2⟩ := h
  have := (nI_eq hj (by omega)).mp e
  omega
theorem zlt_of {n : Nat} {a : Int32} (h1 : ¬ a < 0) (h2 : a < nI n) (hn : n < 2 ^ 31) : zlt n a := by
  obtain ⟨j, hj, rfl⟩ := nI_of h1
  exact ⟨j, rfl, (nI_ltI hj hn).mp h2⟩
theorem zlt_lo {n : Nat} {a : Int32} (h : a < 0) (hn : n < 2 ^ 31) : ¬ zlt n a := by
  rintro ⟨j, rfl, h1⟩
  exact nI_pos (by omega) h
theorem zlt_hi {n : Nat} {a : Int32} (h : ¬ a < nI n) (hn : n < 2 ^ 31) : ¬ zlt n a := by
  rintro ⟨j, rfl, h1⟩
  exact h ((nI_ltI (by omega) hn).mpr h1)
/-- the first guard that doesn't hold throws its own exception -/
def zThr : List (Prop × String) → String → Prop
  | [], _ => False
  | (G, c) :: r, E => (¬ G ∧ E = c) ∨ (G ∧ zThr r E)
def zX1 (G : Prop) (c : String) (σ : zS) : String → zS → Prop := fun E σ' => E = c ∧ ¬ G ∧ σ'.2 = σ.2
/-- a call with two guards: its code, what stands where it is refused, what stands where it is not -/
def zR2 (c : Int32) (G1 G2 P Q : Prop) : Prop := (c = nI 1 ∧ ¬ G1 ∧ P) ∨ (c = nI 2 ∧ G1 ∧ ¬ G2 ∧ P) ∨ (c = nI 0 ∧ G1 ∧ G2 ∧ Q)
theorem zR2.both {c d : Int32} {G1 G2 P Q H1 H2 P' Q' : Prop} (h : zR2 c G1 G2 P Q) (h' : zR2 d H1 H2 P' Q') (e1 : G1 ↔ H1) (e2 : G2 ↔ H2) : c = d ∧ ((c ≠ nI 0 ∧ P ∧ P') ∨ (c = nI 0 ∧ G1 ∧ G2 ∧ Q ∧ Q')) := by
  have n1 : (nI 1 : Int32) ≠ nI 0 := by decide
  have n2 : (nI 2 : Int32) ≠ nI 0 := by decide
  rcases h with ⟨rfl, a, p⟩ | ⟨rfl, a, b, p⟩ | ⟨rfl, a, b, q⟩ <;> rcases h' with ⟨rfl, a', p'⟩ | ⟨rfl, a', b', p'⟩ | ⟨rfl, a', b', q'⟩
  · exact ⟨rfl, Or.inl ⟨n1, p, p'⟩⟩
  · exact absurd (e1.mpr a') a
  · exact absurd (e1.mpr a') a
  · exact absurd (e1.mp a) a'
  · exact ⟨rfl, Or.inl ⟨n2, p, p'⟩⟩
  · exact absurd (e2.mpr b') b
  · exact absurd (e1.mp a) a'
  · exact absurd (e2.mp b) b'
  · exact ⟨rfl, Or.inr ⟨rfl, a, b, q, q'⟩⟩
def qM (P : Option Value → Prop) (g : zG) (t : Nat × Nat) (X0 : Nat) (F : Nat → Nat → Int32) (σ0 : Nat → Option va_E) : Option Value → zS → Prop := fun v σ' => P v ∧ ∃ F' : Nat → Nat → Int32, σ' = (t, cW g X0 F' σ0) ∧ cM F F'
def zXP (L : List (Prop × String)) (ex : String → Prop) (g : zG) (X0 : Nat) (F : Nat → Nat → Int32) (σ0 : Nat → Option va_E) : String → zS → Prop := fun E σ' => (zThr L E ∨ ex E) ∧ ∃ (t' : Nat × Nat) (F' : Nat → Nat → Int32), σ' = (t', cW g X0 F' σ0) ∧ cM F F'
def zF0 : String → Prop := fun _ => False
def pL (v : Option Value) : Prop := ∃ x : Int64, v = some (.long x)
theorem V_lookup {g : zG} {κ : zC} {own : String} {cc : ByteArray} {nL k n : Nat} {σ : zS} {pc : Nat} {lv : List (Nat × Value)} {rest : List Value} (X : zX g κ own cc nL) {dflt : Int} {ps : Array (Int × Int)} {len : Nat} {x : Int32} {off : Int} {tgt : Nat} (d : decode cc pc = .ok (.lookupswitch dflt ps, len)) (hp : (ps.toList.zip (ps.toList.drop 1)).all (fun (a, next) => a.1 < next.1) = true) (ho : Op.lookupswitch.offset ps.toList dflt x.toInt = off) (ht : (pc : Int) + off = (tgt : Int)) (kk : V g κ nL k n σ tgt lv rest) : V g κ nL k n σ pc lv (.int x :: rest) := fun H locs ls hR hL hl => lv_lookup X.1 X.2.1 d hp ho ht (kk H locs ls hR hL hl)
/-- who is sick, one told -/
def zsk (x : Int32) (p : Nat) (a : Int32) : Int32 := if a = 0 then x &&& (nI (2 ^ p) ^^^ (-1)) else x ||| nI (2 ^ p)
