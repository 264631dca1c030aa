/-! ===== what holds of the reference between calls ===== -/
theorem zand1 (x : Int32) : x &&& nI 1 = nI 0 ∨ x &&& nI 1 = nI 1 := by
  have h := nI_andX (a := 1) (by decide) x
  obtain ⟨j, hj, e⟩ := h
  rw [Int32.and_comm, e]
  have : j = 0 ∨ j = 1 := by omega
  rcases this with rfl | rfl
  · exact Or.inl rfl
  · exact Or.inr rfl
def zIn (x k : Int32) : Prop := (x >>> (k &&& 31)) &&& nI 1 = nI 1
theorem zIn_nat {m k : Nat} (hm : m < 2 ^ 31) (hk : k < 31) : zIn (nI m) (nI k) ↔ m.testBit k = true := by
  unfold zIn
  have e1 : nI m >>> (nI k &&& 31) = nI (m / 2 ^ k) := by
    have h31 : (nI k &&& 31) = nI k := by
      have : ∀ k, k < 31 → (nI k &&& 31) = nI k := by decide +kernel
      exact this k hk
    rw [h31]
    have hs : ∀ k, k < 31 → ((nI k).toBitVec.smod 32).toNat = k := by decide +kernel
    exact pk_shrN hm (nI k) k (hs k hk)
  have h1 : (m >>> k &&& 1) ≤ 1 := Nat.and_le_right
  rw [e1, nI_andN, nI_eq (by rw [← Nat.shiftRight_eq_div_pow]; omega) (by decide), Nat.testBit, ← Nat.shiftRight_eq_div_pow, Nat.and_comm 1]
  constructor
  · intro h
    rw [h]
    rfl
  · intro h
    have : m >>> k &&& 1 ≠ 0 := by simpa using h
    omega
def pZ (G : Prop) (v : Option Value) : Prop := (v = some (.int (nI 1)) ∧ G) ∨ (v = some (.int (nI 0)) ∧ ¬ G)
theorem pZ.imp {G H : Prop} {v : Option Value} (h : pZ G v) (i : G ↔ H) : pZ H v := by
  rcases h with ⟨e, h⟩ | ⟨e, h⟩
  · exact Or.inl ⟨e, i.mp h⟩
  · exact Or.inr ⟨e, fun q => h (i.mpr q)⟩
theorem zlt_iff {n : Nat} {a : Int32} (hn : n < 2 ^ 30) : (nI 0 ≤ a ∧ a ≤ nI n - nI 1) ↔ zlt n a := by
  constructor
  · rintro ⟨h1, h2⟩
    have h0 : ¬ a < 0 := fun h => by
      rw [Int32.lt_iff_toInt_lt] at h
      rw [Int32.le_iff_toInt_le] at h1
      have e : (nI 0).toInt = (0 : Int32).toInt := by decide
      omega
    obtain ⟨j, hj, rfl⟩ := nI_of h0
    refine ⟨j, rfl, ?_⟩
    rw [Int32.le_iff_toInt_le, pk_sub_toInt (by omega) (by decide), nI_toInt hj] at h2
    omega
  · rintro ⟨j, rfl, hj⟩
    refine ⟨nI_le (Nat.zero_le _) (by omega), ?_⟩
    rw [Int32.le_iff_toInt_le, pk_sub_toInt (by omega) (by decide), nI_toInt (by omega)]
    omega
/-- a player can play a part -/
def zPl (F : Nat → Nat → Int32) (i p : Nat) : Prop := F (21 + i) 3 = 0 ∧ zIn (F (21 + i) 0) (F (14 + p) 0)
def rCast (N : Nat → Nat) (F : Nat → Nat → Int32) : Prop := (∀ p, p < N 0 → F 11 p = -1 ∨ ∃ q, q < N 1 ∧ F 11 p = nI q) ∧ ∀ s, s < N 2 → ∀ m, m < 128 → F (26 + s) 0 = nI m → ∀ p, m.testBit p = true → ∃ q, q < N 1 ∧ F 11 p = nI q
def rI (N : Nat → Nat) (F : Nat → Nat → Int32) : Prop := (N 0 ≤ 7 ∧ N 1 ≤ 5 ∧ N 2 ≤ 6 ∧ N 3 ≤ 6 ∧ N 4 ≤ 5) ∧ (∀ s, s < N 2 → ∃ m, m < 2 ^ N 0 ∧ F (26 + s) 0 = nI m) ∧ (∀ i, i < N 1 → F (21 + i) 3 = 0 ∨ F (21 + i) 3 = 1) ∧ (F 0 11 ≠ 0 → F 0 12 ≠ -1 → rCast N F)
/-- scratch -/
def rsc (k j : Nat) : Bool := decide (k = 12 ∨ k = 13 ∨ (k = 0 ∧ (j = 0 ∨ (15 ≤ j ∧ j ≤ 18))))
def rJ (F0 F : Nat → Nat → Int32) : Prop := ∀ k j : Nat, rsc k j = false → F k j = F0 k j
/-- what the compared calls ask -/
def rcr (k j : Nat) : Prop := (14 ≤ k ∧ k < 21) ∨ (21 ≤ k ∧ k < 26 ∧ j < 4) ∨ (26 ≤ k ∧ k < 32) ∨ (32 ≤ k ∧ k < 38 ∧ j < 3) ∨ (38 ≤ k ∧ k < 43 ∧ j < 2) ∨ (k = 0 ∧ j = 9)
def rM (F0 F : Nat → Nat → Int32) : Prop := ∀ k j : Nat, rcr k j → F k j = F0 k j
theorem rsc_t {k j : Nat} (h : k = 12 ∨ k = 13 ∨ (k = 0 ∧ (j = 0 ∨ (15 ≤ j ∧ j ≤ 18)))) : rsc k j = true := decide_eq_true h
theorem rsc_f {k j : Nat} (h : ¬ (k = 12 ∨ k = 13 ∨ (k = 0 ∧ (j = 0 ∨ (15 ≤ j ∧ j ≤ 18))))) : rsc k j = false := decide_eq_false h
theorem rJ.rfl' {F : Nat → Nat → Int32} : rJ F F := fun _ _ _ => rfl
theorem rJ.trans {F G H : Nat → Nat → Int32} (h1 : rJ F G) (h2 : rJ G H) : rJ F H := fun k j h => (h2 k j h).trans (h1 k j h)
theorem rJ.set {F0 F F' : Nat → Nat → Int32} {k j : Nat} {x : Int32} (h : rJ F0 F) (hF : F' = fset F k j x) (hs : rsc k j = true) : rJ F0 F' := fun a b hab => by
  rw [hF, fset_ne ?_, h a b hab]
  by_cases h1 : a = k
  · by_cases h2 : b = j
    · subst h1; subst h2; rw [hs] at hab; cases hab
    · exact Or.inr h2
  · exact Or.inl h1
theorem rM.rfl' {F : Nat → Nat → Int32} : rM F F := fun _ _ _ => rfl
theorem rM.trans {F G H : Nat → Nat → Int32} (h1 : rM F G) (h2 : rM G H) : rM F H := fun k j h => (h2 k j h).trans (h1 k j h)
theorem rM.set {F0 F F' : Nat → Nat → Int32} {k j : Nat} {x : Int32} (h : rM F0 F) (hF : F' = fset F k j x) (hs : ¬ ((14 ≤ k ∧ k < 21) ∨ (21 ≤ k ∧ k < 26 ∧ j < 4) ∨ (26 ≤ k ∧ k < 32) ∨ (32 ≤ k ∧ k < 38 ∧ j < 3) ∨ (38 ≤ k ∧ k < 43 ∧ j < 2) ∨ (k = 0 ∧ j = 9))) : rM F0 F' := fun a b hab => by
  unfold rcr at hab
  rw [hF, fset_ne (by omega)]
  exact h a b hab
theorem rM.fs {F G : Nat → Nat → Int32} {k j : Nat} {x : Int32} (h : rM F G) : rM (fset F k j x) (fset G k j x) := fun a b hab => by
  by_cases h1 : a = k ∧ b = j
  · obtain ⟨rfl, rfl⟩ := h1
    rw [fset_eq, fset_eq]
  · rw [fset_ne (by omega), fset_ne (by omega)]
    exact h a b hab
theorem rM.undo {F F1 F2 F3 : Nat → Nat → Int32} {k j : Nat} {w x : Int32} (h1 : F1 = fset F k j w) (h2 : rM F1 F2) (h3 : F3 = fset F2 k j x) (hx : x = F k j) : rM F F3 := fun a b hab => by
  by_cases h : a = k ∧ b = j
  · obtain ⟨rfl, rfl⟩ := h
    rw [h3, fset_eq, hx]
  · rw [h3, fset_ne (by omega), h2 a b hab, h1, fset_ne (by omega)]
theorem rJ.m {F G : Nat → Nat → Int32} (h : rJ F G) : rM F G := fun k j hk => h k j (rsc_f (by unfold rcr at hk; omega))
section RI
variable {N : Nat → Nat} {F F' : Nat → Nat → Int32}
theorem rI.bnd (h : rI N F) : N 0 ≤ 7 ∧ N 1 ≤ 5 ∧ N 2 ≤ 6 ∧ N 3 ≤ 6 ∧ N 4 ≤ 5 := h.1
theorem rI.sp (h : rI N F) : ∀ s, s < N 2 → ∃ m, m < 2 ^ N 0 ∧ F (26 + s) 0 = nI m := h.2.1
theorem rI.sick (h : rI N F) : ∀ i, i < N 1 → F (21 + i) 3 = 0 ∨ F (21 + i) 3 = 1 := h.2.2.1
theorem rCast.mv (h : rCast N F) (e1 : ∀ p, F' 11 p = F 11 p) (e2 : ∀ s, s < N 2 → F' (26 + s) 0 = F (26 + s) 0) : rCast N F' :=
  ⟨fun p hp => by rw [e1]; exact h.1 p hp, fun s hs m hm hF p hp => by rw [e1]; exact h.2 s hs m hm (by rw [← e2 s hs]; exact hF) p hp⟩
theorem rI.gen (h : rI N F) (e2 : ∀ s, s < N 2 → F' (26 + s) 0 = F (26 + s) 0) (e3 : ∀ i, i < N 1 → F' (21 + i) 3 = 0 ∨ F' (21 + i) 3 = 1) (e4 : F' 0 11 ≠ 0 → F' 0 12 ≠ -1 → rCast N F') : rI N F' :=
  ⟨h.1, fun s hs => by rw [e2 s hs]; exact h.2.1 s hs, e3, e4⟩
theorem rI.mv (h : rI N F) (hJ : rJ F F') : rI N F' := by
  have e2 : ∀ s, s < N 2 → F' (26 + s) 0 = F (26 + s) 0 := fun s _ => hJ _ _ (rsc_f (by omega))
  exact h.gen e2 (fun i hi => by rw [hJ (21 + i) 3 (rsc_f (by omega))]; exact h.2.2.1 i hi) (fun q1 q2 => (h.2.2.2 (by rw [← hJ 0 11 rfl]; exact q1) (by rw [← hJ 0 12 rfl]; exact q2)).mv (fun p => hJ 11 p (rsc_f (by omega))) e2)
/-- a place that the invariant doesn't read -/
theorem rI.st {k j : Nat} {x : Int32} (h : rI N F) (hF : F' = fset F k j x) (hs : k ≠ 11 ∧ (k ≠ 0 ∨ (j ≠ 11 ∧ j ≠ 12)) ∧ (k < 26 ∨ 32 ≤ k ∨ j ≠ 0) ∧ (k < 21 ∨ 26 ≤ k ∨ j ≠ 3)) : rI N F' := by
  have o : ∀ k' j' : Nat, (k' ≠ k ∨ j' ≠ j) → F' k' j' = F k' j' := fun k' j' h => by rw [hF, fset_ne h]
  have b := h.1
  have e2 : ∀ s, s < N 2 → F' (26 + s) 0 = F (26 + s) 0 := fun s hs' => o _ _ (by omega)
  exact h.gen e2 (fun i hi => by rw [o (21 + i) 3 (by omega)]; exact h.2.2.1 i hi) (fun q1 q2 => (h.2.2.2 (by rw [← o 0 11 (by omega)]; exact q1) (by rw [← o 0 12 (by omega)]; exact q2)).mv (fun p => o 11 p (by omega)) e2)
theorem rI.unk {x : Int32} (h : rI N F) (hF : F' = fset F 0 11 x) (hx : x = 0) : rI N F' := by
  have o : ∀ k' j' : Nat, (k' ≠ 0 ∨ j' ≠ 11) → F' k' j' = F k' j' := fun k' j' h => by rw [hF, fset_ne h]
  exact h.gen (fun s _ => o _ _ (by omega)) (fun i hi => by rw [o (21 + i) 3 (by omega)]; exact h.2.2.1 i hi) (fun q1 _ => absurd (by rw [hF, fset_eq]; exact hx) q1)
theorem rI.sk {i : Nat} {x : Int32} (h : rI N F) (hF : F' = fset F (21 + i) 3 x) (hx : x = 0 ∨ x = 1) : rI N F' := by
  have o : ∀ k' j' : Nat, (k' ≠ 21 + i ∨ j' ≠ 3) → F' k' j' = F k' j' := fun k' j' h => by rw [hF, fset_ne h]
  have e2 : ∀ s, s < N 2 → F' (26 + s) 0 = F (26 + s) 0 := fun s hs' => o _ _ (by omega)
  refine h.gen e2 (fun j hj => ?_) (fun q1 q2 => (h.2.2.2 (by rw [← o 0 11 (by omega)]; exact q1) (by rw [← o 0 12 (by omega)]; exact q2)).mv (fun p => o 11 p (by omega)) e2)
  by_cases e : j = i
  · subst e; rw [hF, fset_eq]; exact hx
  · rw [o (21 + j) 3 (by omega)]; exact h.2.2.1 j hj
/-- while nothing is known -/
theorem rI.dk {k j : Nat} {x : Int32} (h : rI N F) (hF : F' = fset F k j x) (hk : F 0 11 = 0) (hs : k = 11 ∨ (k = 0 ∧ j = 12)) : rI N F' := by
  have o : ∀ k' j' : Nat, (k' ≠ k ∨ j' ≠ j) → F' k' j' = F k' j' := fun k' j' h => by rw [hF, fset_ne h]
  exact h.gen (fun s _ => o _ _ (by omega)) (fun i hi => by rw [o (21 + i) 3 (by omega)]; exact h.2.2.1 i hi) (fun q1 _ => absurd (by rw [o 0 11 (by omega)]; exact hk) q1)
theorem rI.known {x : Int32} (h : rI N F) (hF : F' = fset F 0 11 x) (hc : F 0 12 ≠ -1 → rCast N F) : rI N F' := by
  have o : ∀ k' j' : Nat, (k' ≠ 0 ∨ j' ≠ 11) → F' k' j' = F k' j' := fun k' j' h => by rw [hF, fset_ne h]
  have e2 : ∀ s, s < N 2 → F' (26 + s) 0 = F (26 + s) 0 := fun s hs' => o _ _ (by omega)
  exact h.gen e2 (fun i hi => by rw [o (21 + i) 3 (by omega)]; exact h.2.2.1 i hi) (fun _ q2 => (hc (by rw [← o 0 12 (by omega)]; exact q2)).mv (fun p => o 11 p (by omega)) e2)
end RI
section QR
variable (P : Option Value → Prop) (g : zG) (t : Nat × Nat) (ad N : Nat → Nat) (S : Int64) (F : Nat → Nat → Int32) (σ0 : Nat → Option va_E)
def qA : Option Value → zS → Prop := fun v σ' => P v ∧ ∃ t' : Nat × Nat, σ' = (t', rO g ad N S F σ0)
def qJ : Option Value → zS → Prop := fun v σ' => P v ∧ ∃ F' : Nat → Nat → Int32, σ' = (t, rO g ad N S F' σ0) ∧ rJ F F'
def qN : Option Value → zS → Prop := fun v σ' => P v ∧ ∃ (t' : Nat × Nat) (F' : Nat → Nat → Int32), σ' = (t', rO g ad N S F' σ0) ∧ rM F F' ∧ rI N F'
end QR
/-- a call of the reference: its value, what it leaves -/
def qEx (g : zG) (ad N : Nat → Nat) (S : Int64) (σ0 : Nat → Option va_E) (R : Int32 → (Nat → Nat → Int32) → Prop) : Option Value → zS → Prop := fun v σ' => ∃ x : Int32, v = some (.int x) ∧ ∃ (t' : Nat × Nat) (F' : Nat → Nat → Int32), σ' = (t', rO g ad N S F' σ0) ∧ rI N F' ∧ R x F'
/-- how many of the first players are well -/
def zwl (F : Nat → Nat → Int32) : Nat → Nat
  | 0 => 0
  | n + 1 => zwl F n + (if F (21 + n) 3 = 0 then 1 else 0)
theorem zwl_1 {F : Nat → Nat → Int32} {y i : Nat} (h : y = zwl F i) (e : F (21 + i) 3 = 0) : y + 1 = zwl F (i + 1) := by
  show _ = zwl F i + _
  rw [if_pos e, h]
theorem zwl_0 {F : Nat → Nat → Int32} {y i : Nat} (h : y = zwl F i) (e : ¬ F (21 + i) 3 = 0) : y + 0 = zwl F (i + 1) := by
  show _ = zwl F i + _
  rw [if_neg e, h]
theorem zin_ok {lo hi : Nat} {a : Int32} (h : nI lo ≤ a ∧ a ≤ nI hi) (hl : lo < 2 ^ 31) (hh : hi < 2 ^ 31) : zin lo hi a := zin_of (Int32.not_lt.mpr h.1) h.2 hl hh
theorem zin_no {lo hi : Nat} {a : Int32} (hl : lo < 2 ^ 31) (hh : hi < 2 ^ 31) (h : zin lo hi a) : nI lo ≤ a ∧ a ≤ nI hi := by
  obtain ⟨j, rfl, h1, h2⟩ := h
  exact ⟨nI_le h1 (by omega), nI_le h2 hh⟩
theorem V.weak {g : zG} {κ : zC} {nL k n : Nat} {t : Nat × Nat} {f f' : Nat → Option va_E} {pc : Nat} {lv : List (Nat × Value)} {st : List Value} (h : ∀ a e, f' a = some e → f a = some e) (kk : V g κ nL k n (t, f') pc lv st) : V g κ nL k n (t, f) pc lv st := fun H locs ls hR hL hl =>
  kk H locs ls ⟨hR.1, hR.2.1, hR.2.2.1, fun a e he => hR.2.2.2 a e (h a e he)⟩ hL hl
theorem zup_sub {f : Nat → Option va_E} {a : Nat} {e : va_E} (h : ∀ e', f a = some e' → False) : ∀ b x, f b = some x → zup f a e b = some x := fun b x hb => by
  by_cases e1 : b = a
  · subst e1; exact (h x hb).elim
  · rw [zup_ne e1]; exact hb
