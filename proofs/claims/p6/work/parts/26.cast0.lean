/-! ===== the cast that is kept ===== -/
theorem tb_lt {m n p : Nat} (hm : m < 2 ^ n) (h : m.testBit p = true) : p < n := by
  by_cases hp : p < n
  · exact hp
  · rw [Nat.testBit_lt_two_pow (Nat.lt_of_lt_of_le hm (Nat.pow_le_pow_right (by decide) (Nat.not_lt.mp hp)))] at h
    cases h
/-- the parts of so many scenes of a set are in y -/
def pOf (N : Nat → Nat) (F : Nat → Nat → Int32) (set : Int32) (i y : Nat) : Prop := y < 2 ^ N 0 ∧ ∀ s, s < i → zIn set (nI s) → ∀ ms, ms < 128 → F (26 + s) 0 = nI ms → ∀ p, ms.testBit p = true → y.testBit p = true
theorem pOf.zero {N : Nat → Nat} {F : Nat → Nat → Int32} {set : Int32} : pOf N F set 0 0 := ⟨Nat.two_pow_pos _, fun s hs => absurd hs (Nat.not_lt_zero s)⟩
theorem pOf.yes {N : Nat → Nat} {F : Nat → Nat → Int32} {set : Int32} {i y m : Nat} (h : pOf N F set i y) (hm : m < 2 ^ N 0) (hm2 : m < 128) (e : F (26 + i) 0 = nI m) : pOf N F set (i + 1) (y ||| m) := by
  refine ⟨Nat.or_lt_two_pow h.1 hm, fun s hs hz ms hms hF p hp => ?_⟩
  rw [Nat.testBit_or]
  by_cases h1 : s = i
  · subst h1
    have : ms = m := (nI_eq (by omega) (by omega)).mp (hF.symm.trans e)
    subst this
    rw [hp, Bool.or_true]
  · rw [h.2 s (by omega) hz ms hms hF p hp, Bool.true_or]
theorem pOf.no {N : Nat → Nat} {F : Nat → Nat → Int32} {set : Int32} {i y : Nat} (h : pOf N F set i y) (hz : ¬ zIn set (nI i)) : pOf N F set (i + 1) (y ||| 0) := by
  rw [Nat.or_zero]
  refine ⟨h.1, fun s hs hz' ms hms hF p hp => ?_⟩
  by_cases h1 : s = i
  · subst h1; exact absurd hz' hz
  · exact h.2 s (by omega) hz' ms hms hF p hp
theorem zRw.tr0 {part : Nat} {F G H : Nat → Nat → Int32} (h1 : zRw part F G) (h2 : zRw part G H) : zRw part F H := ⟨fun k hk => (h2.1 k hk).trans (h1.1 k hk), fun o ho => (h2.2 o ho).trans (h1.2 o ho)⟩
theorem fCan_0 {N : Nat → Nat} {F G : Nat → Nat → Int32} {due most used : Int32} {r : Nat} (h : zRw 0 F G) (c : fCan N F due most r 0 used (F 12)) : fCan N G due most r 0 used (G 12) := by
  unfold fCan at c ⊢
  rw [h.pl, h.1 13 (by decide)]
  exact zCan_row _ _ _ _ _ (fun o ho => absurd ho (Nat.not_lt_zero o)) c
/-- a row that serves a set of scenes -/
def zRow (N : Nat → Nat) (F : Nat → Nat → Int32) (set : Int32) : Prop := ∃ due : Int32, (∀ s, s < N 2 → zIn set (nI s) → ∀ ms, ms < 128 → F (26 + s) 0 = nI ms → ∀ p, ms.testBit p = true → zIn due (nI p)) ∧ ∀ p, p < N 0 → zOk N due F p
theorem zRow.of {N : Nat → Nat} {F H : Nat → Nat → Int32} {set : Int32} {m : Nat} (hN : N 0 ≤ 7) (hN2 : N 2 ≤ 6) (hp : pOf N F set (N 2) m) (hG : ∀ s, s < N 2 → H (26 + s) 0 = F (26 + s) 0) (hok : ∀ p, p < N 0 → zOk N (nI m) H p) : zRow N H set := by
  have hm : m < 128 := Nat.lt_of_lt_of_le hp.1 (zp2 (n := 7) hN)
  refine ⟨nI m, fun s hs hz ms hms hF p hb => ?_, hok⟩
  have h1 := hp.2 s hs hz ms hms (by rw [← hG s hs]; exact hF) p hb
  exact (zIn_nat (by omega) (by have := tb_lt (n := 7) hm h1; omega)).mpr h1
def qNeed (g : zG) (t : Nat × Nat) (ad N : Nat → Nat) (S : Int64) (σ0 : Nat → Option va_E) (F : Nat → Nat → Int32) (set : Int32) : Option Value → zS → Prop := fun v σ' => ∃ F' : Nat → Nat → Int32, σ' = (t, rO g ad N S F' σ0) ∧ rJ F F' ∧ (v = some (.int (-1)) ∨ ∃ k, k ≤ N 1 ∧ v = some (.int (nI k)) ∧ zRow N F' set)
theorem zall {n s : Nat} (hn : n ≤ 6) (hs : s < n) : zIn (nI (2 ^ n - 1)) (nI s) := by
  have h64 : 2 ^ n ≤ 64 := zp2 (n := 6) hn
  refine (zIn_nat (by omega) (by omega)).mpr ?_
  rw [Nat.testBit_two_pow_sub_one]
  exact decide_eq_true hs
/-- what stays when the cast is looked for -/
def rC (F F' : Nat → Nat → Int32) : Prop := ∀ k j : Nat, k ≠ 11 → rsc k j = false → (k ≠ 0 ∨ (j ≠ 11 ∧ j ≠ 12)) → F' k j = F k j
theorem rC.rfl' {F : Nat → Nat → Int32} : rC F F := fun _ _ _ _ _ => rfl
def qCast (g : zG) (t : Nat × Nat) (ad N : Nat → Nat) (S : Int64) (σ0 : Nat → Option va_E) (F : Nat → Nat → Int32) : Option Value → zS → Prop := fun v σ' => ∃ F' : Nat → Nat → Int32, σ' = (t, rO g ad N S F' σ0) ∧ rC F F' ∧ rI N F' ∧ ((v = some (.int (nI 1)) ∧ rCast N F') ∨ v = some (.int (nI 0)))
theorem rCast.of {N : Nat → Nat} {F G : Nat → Nat → Int32} (hI : rI N F) (hr : zRow N F (nI (2 ^ N 2 - 1))) (h11 : ∀ p, p < N 0 → G 11 p = F 12 p) (hs : ∀ s, s < N 2 → G (26 + s) 0 = F (26 + s) 0) : rCast N G := by
  obtain ⟨due, h1, h2⟩ := hr
  have b := hI.1
  refine ⟨fun p hp => ?_, fun s hs' ms hms hF p hb => ?_⟩
  · rw [h11 p hp]
    rcases h2 p hp with ⟨h, -⟩ | h
    · exact Or.inl h
    · exact Or.inr h
  · rw [hs s hs'] at hF
    obtain ⟨m', hm', e'⟩ := hI.sp s hs'
    have h128 : m' < 128 := Nat.lt_of_lt_of_le hm' (zp2 (n := 7) b.1)
    have em : ms = m' := (nI_eq (by omega) (by omega)).mp (hF.symm.trans e')
    subst em
    have hp : p < N 0 := tb_lt hm' hb
    rw [h11 p hp]
    rcases h2 p hp with ⟨-, h⟩ | h
    · exact absurd (h1 s hs' (zall b.2.2.1 hs') ms hms hF p hb) h
    · exact h
theorem rI.dkr {N : Nat → Nat} {F G : Nat → Nat → Int32} (h : rI N F) (hk : F 0 11 = 0) (e : ∀ k, k ≠ 11 → G k = F k) : rI N G := by
  have b := h.1
  exact h.gen (fun s _ => by rw [e (26 + s) (by omega)]) (fun i hi => by rw [e (21 + i) (by omega)]; exact h.2.2.1 i hi) (fun q1 _ => absurd (by rw [e 0 (by decide)]; exact hk) q1)
/-- the row is copied -/
def zCs (F G : Nat → Nat → Int32) : Prop := ∀ k, k ≠ 11 → G k = F k
theorem zCs.rfl' {F : Nat → Nat → Int32} : zCs F F := fun _ _ => rfl
theorem zCs.set {F G G' : Nat → Nat → Int32} {j : Nat} {x : Int32} (h : zCs F G) (hF : G' = fset G 11 j x) : zCs F G' := fun k hk => by rw [hF, fset_other hk]; exact h k hk
