/-! ===== what holds of the reference between calls ===== -/
theorem zlt_iff {n : Nat} {a : Int32} (hn : n < 2 ^ 30) : (nI 0 ≤ a ∧ a ≤ nI n - nI 1) ↔ zlt n a := by
  constructor
  · rintro ⟨h1, h2⟩
    have h0 : ¬ a < 0 := fun h => by
      rw [Int32.lt_iff_toInt_lt] at h
      rw [Int32.le_iff_toInt_le] at h1
      have e : (nI 0).toInt = (0 : Int32).toInt := by decide
      omega
    obtain ⟨j, hj, rfl⟩ := nI_of h0
    refine ⟨j, rfl, ?_⟩
    rw [Int32.le_iff_toInt_le, pk_sub_toInt (by omega) (by decide), nI_toInt hj] at h2
    omega
  · rintro ⟨j, rfl, hj⟩
    refine ⟨nI_le (Nat.zero_le _) (by omega), ?_⟩
    rw [Int32.le_iff_toInt_le, pk_sub_toInt (by omega) (by decide), nI_toInt (by omega)]
    omega
/-- a player can play a part -/
def zPl (F : Nat → Nat → Int32) (i p : Nat) : Prop := F (21 + i) 3 = 0 ∧ zIn (F (21 + i) 0) (F (14 + p) 0)
def rCast (N : Nat → Nat) (F : Nat → Nat → Int32) : Prop := (∀ p, p < N 0 → F 11 p = -1 ∨ ∃ q, q < N 1 ∧ F 11 p = nI q) ∧ ∀ s, s < N 2 → ∀ m, m < 128 → F (26 + s) 0 = nI m → ∀ p, m.testBit p = true → ∃ q, q < N 1 ∧ F 11 p = nI q
def rI (N : Nat → Nat) (F : Nat → Nat → Int32) : Prop := (N 0 ≤ 7 ∧ N 1 ≤ 5 ∧ N 2 ≤ 6 ∧ N 3 ≤ 6 ∧ N 4 ≤ 5) ∧ (∀ s, s < N 2 → ∃ m, m < 2 ^ N 0 ∧ F (26 + s) 0 = nI m) ∧ (∀ i, i < N 1 → F (21 + i) 3 = 0 ∨ F (21 + i) 3 = 1) ∧ (F 0 11 ≠ 0 → F 0 12 ≠ -1 → rCast N F)
/-- scratch -/
def rsc (k j : Nat) : Bool := decide (k = 12 ∨ k = 13 ∨ (k = 0 ∧ (j = 0 ∨ (15 ≤ j ∧ j ≤ 18))))
def rJ (F0 F : Nat → Nat → Int32) : Prop := ∀ k j : Nat, rsc k j = false → F k j = F0 k j
/-- what the reference tells of scenes and parts -/
def rSp (F : Nat → Nat → Int32) (s : Nat) : Int32 := F (26 + s) 0
def rCh (F : Nat → Nat → Int32) (p : Nat) : Int32 := F (14 + p) 2
def rPa (F : Nat → Nat → Int32) (s : Nat) : Int32 := F (26 + s) 1
abbrev rDu (N : Nat → Nat) (F : Nat → Nat → Int32) : Nat → Prop := mDu (rSp F) (nI (2 ^ N 2 - 1)) (N 2)
abbrev rBs (N : Nat → Nat) (F : Nat → Nat → Int32) (b : Int32) (h : Nat → Nat) : Prop := mBst (fun i p => i < N 1 ∧ zPl F i p) (mCl (rSp F) (rCh F) (rPa F) (N 0) (nI (2 ^ N 2 - 1)) (N 2)) (mDu (rSp F) (nI (2 ^ N 2 - 1)) (N 2)) b h
/-- where the cast is known, it is the best one -/
def rKn (N : Nat → Nat) (F : Nat → Nat → Int32) : Prop := F 0 11 = 0 ∨ (N 0 ≤ 7 ∧ N 1 ≤ 5 ∧ N 2 ≤ 6 ∧ ∃ h : Nat → Nat, rBs N F (F 0 12) h ∧ (¬ F 0 12 = -1 → ∀ p, p < N 0 → (rDu N F p → F 11 p = nI (h p)) ∧ (¬ rDu N F p → F 11 p = -1)))
/-- what a call that asks leaves -/
def rcr (k j : Nat) : Prop := (14 ≤ k ∧ k < 43) ∨ (k = 0 ∧ 6 ≤ j ∧ j ≤ 9)
def rM (N : Nat → Nat) (F0 F : Nat → Nat → Int32) : Prop := (∀ k j : Nat, rcr k j → F k j = F0 k j) ∧ (rKn N F0 → rKn N F)
/-- the same but for scratch, what is known too -/
def rE (F0 F : Nat → Nat → Int32) : Prop := ∀ k j : Nat, ((14 ≤ k ∧ k < 43) ∨ k = 11 ∨ (k = 0 ∧ 6 ≤ j ∧ j ≤ 12)) → F k j = F0 k j
theorem rsc_t {k j : Nat} (h : k = 12 ∨ k = 13 ∨ (k = 0 ∧ (j = 0 ∨ (15 ≤ j ∧ j ≤ 18)))) : rsc k j = true := decide_eq_true h
theorem rsc_f {k j : Nat} (h : ¬ (k = 12 ∨ k = 13 ∨ (k = 0 ∧ (j = 0 ∨ (15 ≤ j ∧ j ≤ 18))))) : rsc k j = false := decide_eq_false h
theorem rJ.rfl' {F : Nat → Nat → Int32} : rJ F F := fun _ _ _ => rfl
theorem rJ.trans {F G H : Nat → Nat → Int32} (h1 : rJ F G) (h2 : rJ G H) : rJ F H := fun k j h => (h2 k j h).trans (h1 k j h)
theorem rJ.set {F0 F F' : Nat → Nat → Int32} {k j : Nat} {x : Int32} (h : rJ F0 F) (hF : F' = fset F k j x) (hs : rsc k j = true) : rJ F0 F' := fun a b hab => by
  rw [hF, fset_ne ?_, h a b hab]
  by_cases h1 : a = k
  · by_cases h2 : b = j
    · subst h1; subst h2; rw [hs] at hab; cases hab
    · exact Or.inr h2
  · exact Or.inl h1
theorem mDu_cg {f f' : Nat → Int32} {a : Int32} {n q : Nat} (e : ∀ s, s < n → f s = f' s) : mDu f a n q → mDu f' a n q := fun ⟨h7, s, hs, z1, z2⟩ => ⟨h7, s, hs, z1, by rw [← e s hs]; exact z2⟩
theorem rBs_mv {N : Nat → Nat} {F G : Nat → Nat → Int32} {b : Int32} {h : Nat → Nat} (b0 : N 0 ≤ 7) (b1 : N 1 ≤ 5) (b2 : N 2 ≤ 6) (e : ∀ k j : Nat, 14 ≤ k → k < 32 → (k < 21 ∨ 26 ≤ k ∨ j < 4) → G k j = F k j) (hb : rBs N F b h) : rBs N G b h := by
  have es : ∀ s, s < N 2 → rSp F s = rSp G s := fun s hs => (e (26 + s) 0 (by omega) (by omega) (by omega)).symm
  have ec : ∀ p, p < N 0 → rCh F p = rCh G p := fun p hp => (e (14 + p) 2 (by omega) (by omega) (by omega)).symm
  have ea : ∀ s, s < N 2 → rPa F s = rPa G s := fun s hs => (e (26 + s) 1 (by omega) (by omega) (by omega)).symm
  refine mBst_cg (fun p => ⟨mDu_cg es, mDu_cg fun s hs => (es s hs).symm⟩) (fun i p hp => and_congr_right fun hi => ?_) (fun p q => ⟨mCl_cg es ec ea, mCl_cg (fun s hs => (es s hs).symm) (fun p hp => (ec p hp).symm) (fun s hs => (ea s hs).symm)⟩) hb
  have h7 : p < 7 := hp.1
  unfold zPl
  rw [e (21 + i) 3 (by omega) (by omega) (by omega), e (21 + i) 0 (by omega) (by omega) (by omega), e (14 + p) 0 (by omega) (by omega) (by omega)]
theorem rDu_mv {N : Nat → Nat} {F G : Nat → Nat → Int32} (b2 : N 2 ≤ 6) (e : ∀ k j : Nat, 14 ≤ k → k < 32 → (k < 21 ∨ 26 ≤ k ∨ j < 4) → G k j = F k j) (p : Nat) : rDu N G p ↔ rDu N F p := ⟨mDu_cg fun s hs => e (26 + s) 0 (by omega) (by omega) (by omega), mDu_cg fun s hs => (e (26 + s) 0 (by omega) (by omega) (by omega)).symm⟩
theorem rKn.mv {N : Nat → Nat} {F G : Nat → Nat → Int32} (e : ∀ k j : Nat, ((14 ≤ k ∧ k < 32 ∧ (k < 21 ∨ 26 ≤ k ∨ j < 4)) ∨ k = 11 ∨ (k = 0 ∧ (j = 11 ∨ j = 12))) → G k j = F k j) (h : rKn N F) : rKn N G := by
  rcases h with h | ⟨b0, b1, b2, h, hb, hc⟩
  · exact Or.inl ((e 0 11 (by omega)).trans h)
  · have e' : ∀ k j : Nat, 14 ≤ k → k < 32 → (k < 21 ∨ 26 ≤ k ∨ j < 4) → G k j = F k j := fun k j q1 q2 q3 => e k j (by omega)
    refine Or.inr ⟨b0, b1, b2, h, by rw [e 0 12 (by omega)]; exact rBs_mv b0 b1 b2 e' hb, fun hn p hp => ?_⟩
    rw [e 0 12 (by omega)] at hn
    rw [e 11 p (by omega), rDu_mv b2 e' p]
    exact hc hn p hp
theorem rE.rfl' {F : Nat → Nat → Int32} : rE F F := fun _ _ _ => rfl
theorem rE.trans {F G H : Nat → Nat → Int32} (h1 : rE F G) (h2 : rE G H) : rE F H := fun k j h => (h2 k j h).trans (h1 k j h)
theorem rE.set {F0 F F' : Nat → Nat → Int32} {k j : Nat} {x : Int32} (h : rE F0 F) (hF : F' = fset F k j x) (hs : ¬ ((14 ≤ k ∧ k < 43) ∨ k = 11 ∨ (k = 0 ∧ 6 ≤ j ∧ j ≤ 12))) : rE F0 F' := fun a b hab => by
  rw [hF, fset_ne (by omega)]
  exact h a b hab
theorem rE.fs {F G : Nat → Nat → Int32} {k j : Nat} {x : Int32} (h : rE F G) : rE (fset F k j x) (fset G k j x) := fun a b hab => by
  by_cases h1 : a = k ∧ b = j
  · obtain ⟨rfl, rfl⟩ := h1
    rw [fset_eq, fset_eq]
  · rw [fset_ne (by omega), fset_ne (by omega)]
    exact h a b hab
theorem rE.m {N : Nat → Nat} {F G : Nat → Nat → Int32} (h : rE F G) : rM N F G := ⟨fun k j q => h k j (by unfold rcr at q; omega), fun hk => hk.mv fun k j q => h k j (by omega)⟩
theorem rM.rfl' {N : Nat → Nat} {F : Nat → Nat → Int32} : rM N F F := ⟨fun _ _ _ => rfl, id⟩
theorem rM.trans {N : Nat → Nat} {F G H : Nat → Nat → Int32} (h1 : rM N F G) (h2 : rM N G H) : rM N F H := ⟨fun k j h => (h2.1 k j h).trans (h1.1 k j h), fun h => h2.2 (h1.2 h)⟩
theorem rM.set {N : Nat → Nat} {F0 F F' : Nat → Nat → Int32} {k j : Nat} {x : Int32} (h : rM N F0 F) (hF : F' = fset F k j x) (hs : ¬ ((14 ≤ k ∧ k < 43) ∨ k = 11 ∨ (k = 0 ∧ 6 ≤ j ∧ j ≤ 12))) : rM N F0 F' := h.trans (rE.m (rE.rfl'.set hF hs))
theorem rJ.e {F G : Nat → Nat → Int32} (h : rJ F G) : rE F G := fun k j hk => h k j (rsc_f (by omega))
theorem rJ.m {N : Nat → Nat} {F G : Nat → Nat → Int32} (h : rJ F G) : rM N F G := h.e.m
/-- what is put and put back -/
theorem rJ.undo {N : Nat → Nat} {F F1 F2 F3 : Nat → Nat → Int32} {k j : Nat} {w x : Int32} (h1 : F1 = fset F k j w) (h2 : rJ F1 F2) (h3 : F3 = fset F2 k j x) (hx : x = F k j) : rM N F F3 := rE.m fun a b hab => by
  by_cases h : a = k ∧ b = j
  · obtain ⟨rfl, rfl⟩ := h
    rw [h3, fset_eq, hx]
  · rw [h3, fset_ne (by omega), h2.e a b hab, h1, fset_ne (by omega)]
section RI
variable {N : Nat → Nat} {F F' : Nat → Nat → Int32}
theorem rI.bnd (h : rI N F) : N 0 ≤ 7 ∧ N 1 ≤ 5 ∧ N 2 ≤ 6 ∧ N 3 ≤ 6 ∧ N 4 ≤ 5 := h.1
theorem rI.sp (h : rI N F) : ∀ s, s < N 2 → ∃ m, m < 2 ^ N 0 ∧ F (26 + s) 0 = nI m := h.2.1
theorem rI.sick (h : rI N F) : ∀ i, i < N 1 → F (21 + i) 3 = 0 ∨ F (21 + i) 3 = 1 := h.2.2.1
theorem rCast.mv (h : rCast N F) (e1 : ∀ p, F' 11 p = F 11 p) (e2 : ∀ s, s < N 2 → F' (26 + s) 0 = F (26 + s) 0) : rCast N F' :=
  ⟨fun p hp => by rw [e1]; exact h.1 p hp, fun s hs m hm hF p hp => by rw [e1]; exact h.2 s hs m hm (by rw [← e2 s hs]; exact hF) p hp⟩
theorem rI.gen (h : rI N F) (e2 : ∀ s, s < N 2 → F' (26 + s) 0 = F (26 + s) 0) (e3 : ∀ i, i < N 1 → F' (21 + i) 3 = 0 ∨ F' (21 + i) 3 = 1) (e4 : F' 0 11 ≠ 0 → F' 0 12 ≠ -1 → rCast N F') : rI N F' :=
  ⟨h.1, fun s hs => by rw [e2 s hs]; exact h.2.1 s hs, e3, e4⟩
theorem rI.mv (h : rI N F) (hJ : rJ F F') : rI N F' := by
  have e2 : ∀ s, s < N 2 → F' (26 + s) 0 = F (26 + s) 0 := fun s _ => hJ _ _ (rsc_f (by omega))
  exact h.gen e2 (fun i hi => by rw [hJ (21 + i) 3 (rsc_f (by omega))]; exact h.2.2.1 i hi) (fun q1 q2 => (h.2.2.2 (by rw [← hJ 0 11 rfl]; exact q1) (by rw [← hJ 0 12 rfl]; exact q2)).mv (fun p => hJ 11 p (rsc_f (by omega))) e2)
/-- a place that the invariant doesn't read -/
theorem rI.st {k j : Nat} {x : Int32} (h : rI N F) (hF : F' = fset F k j x) (hs : k ≠ 11 ∧ (k ≠ 0 ∨ (j ≠ 11 ∧ j ≠ 12)) ∧ (k < 26 ∨ 32 ≤ k ∨ j ≠ 0) ∧ (k < 21 ∨ 26 ≤ k ∨ j ≠ 3)) : rI N F' := by
  have o : ∀ k' j' : Nat, (k' ≠ k ∨ j' ≠ j) → F' k' j' = F k' j' := fun k' j' h => by rw [hF, fset_ne h]
  have b := h.1
  have e2 : ∀ s, s < N 2 → F' (26 + s) 0 = F (26 + s) 0 := fun s hs' => o _ _ (by omega)
  exact h.gen e2 (fun i hi => by rw [o (21 + i) 3 (by omega)]; exact h.2.2.1 i hi) (fun q1 q2 => (h.2.2.2 (by rw [← o 0 11 (by omega)]; exact q1) (by rw [← o 0 12 (by omega)]; exact q2)).mv (fun p => o 11 p (by omega)) e2)
theorem rI.unk {x : Int32} (h : rI N F) (hF : F' = fset F 0 11 x) (hx : x = 0) : rI N F' := by
  have o : ∀ k' j' : Nat, (k' ≠ 0 ∨ j' ≠ 11) → F' k' j' = F k' j' := fun k' j' h => by rw [hF, fset_ne h]
  exact h.gen (fun s _ => o _ _ (by omega)) (fun i hi => by rw [o (21 + i) 3 (by omega)]; exact h.2.2.1 i hi) (fun q1 _ => absurd (by rw [hF, fset_eq]; exact hx) q1)
theorem rI.sk {i : Nat} {x : Int32} (h : rI N F) (hF : F' = fset F (21 + i) 3 x) (hx : x = 0 ∨ x = 1) : rI N F' := by
  have o : ∀ k' j' : Nat, (k' ≠ 21 + i ∨ j' ≠ 3) → F' k' j' = F k' j' := fun k' j' h => by rw [hF, fset_ne h]
  have e2 : ∀ s, s < N 2 → F' (26 + s) 0 = F (26 + s) 0 := fun s hs' => o _ _ (by omega)
  refine h.gen e2 (fun j hj => ?_) (fun q1 q2 => (h.2.2.2 (by rw [← o 0 11 (by omega)]; exact q1) (by rw [← o 0 12 (by omega)]; exact q2)).mv (fun p => o 11 p (by omega)) e2)
  by_cases e : j = i
  · subst e; rw [hF, fset_eq]; exact hx
  · rw [o (21 + j) 3 (by omega)]; exact h.2.2.1 j hj
/-- while nothing is known -/
theorem rI.dk {k j : Nat} {x : Int32} (h : rI N F) (hF : F' = fset F k j x) (hk : F 0 11 = 0) (hs : k = 11 ∨ (k = 0 ∧ j = 12)) : rI N F' := by
  have o : ∀ k' j' : Nat, (k' ≠ k ∨ j' ≠ j) → F' k' j' = F k' j' := fun k' j' h => by rw [hF, fset_ne h]
  exact h.gen (fun s _ => o _ _ (by omega)) (fun i hi => by rw [o (21 + i) 3 (by omega)]; exact h.2.2.1 i hi) (fun q1 _ => absurd (by rw [o 0 11 (by omega)]; exact hk) q1)
theorem rI.known {x : Int32} (h : rI N F) (hF : F' = fset F 0 11 x) (hc : F 0 12 ≠ -1 → rCast N F) : rI N F' := by
  have o : ∀ k' j' : Nat, (k' ≠ 0 ∨ j' ≠ 11) → F' k' j' = F k' j' := fun k' j' h => by rw [hF, fset_ne h]
  have e2 : ∀ s, s < N 2 → F' (26 + s) 0 = F (26 + s) 0 := fun s hs' => o _ _ (by omega)
  exact h.gen e2 (fun i hi => by rw [o (21 + i) 3 (by omega)]; exact h.2.2.1 i hi) (fun _ q2 => (hc (by rw [← o 0 12 (by omega)]; exact q2)).mv (fun p => o 11 p (by omega)) e2)
end RI
section QR
variable (P : Option Value → Prop) (g : zG) (t : Nat × Nat) (ad N : Nat → Nat) (S : Int64) (F : Nat → Nat → Int32) (σ0 : Nat → Option va_E)
def qA : Option Value → zS → Prop := fun v σ' => P v ∧ ∃ t' : Nat × Nat, σ' = (t', rO g ad N S F σ0)
def qJ : Option Value → zS → Prop := fun v σ' => P v ∧ ∃ F' : Nat → Nat → Int32, σ' = (t, rO g ad N S F' σ0) ∧ rJ F F'
def qN : Option Value → zS → Prop := fun v σ' => P v ∧ ∃ (t' : Nat × Nat) (F' : Nat → Nat → Int32), σ' = (t', rO g ad N S F' σ0) ∧ rM N F F' ∧ rI N F'
end QR
/-- a call of the reference: its value, what it leaves -/
def qEx (g : zG) (ad N : Nat → Nat) (S : Int64) (σ0 : Nat → Option va_E) (R : Int32 → (Nat → Nat → Int32) → Prop) : Option Value → zS → Prop := fun v σ' => ∃ x : Int32, v = some (.int x) ∧ ∃ (t' : Nat × Nat) (F' : Nat → Nat → Int32), σ' = (t', rO g ad N S F' σ0) ∧ rI N F' ∧ R x F'
/-- how many of the first players are well -/
def zwl (F : Nat → Nat → Int32) : Nat → Nat
  | 0 => 0
  | n + 1 => zwl F n + (if F (21 + n) 3 = 0 then 1 else 0)
theorem zwl_1 {F : Nat → Nat → Int32} {y i : Nat} (h : y = zwl F i) (e : F (21 + i) 3 = 0) : y + 1 = zwl F (i + 1) := by
  show _ = zwl F i + _
  rw [if_pos e, h]
theorem zwl_0 {F : Nat → Nat → Int32} {y i : Nat} (h : y = zwl F i) (e : ¬ F (21 + i) 3 = 0) : y + 0 = zwl F (i + 1) := by
  show _ = zwl F i + _
  rw [if_neg e, h]
theorem zin_ok {lo hi : Nat} {a : Int32} (h : nI lo ≤ a ∧ a ≤ nI hi) (hl : lo < 2 ^ 31) (hh : hi < 2 ^ 31) : zin lo hi a := zin_of (Int32.not_lt.mpr h.1) h.2 hl hh
theorem zin_no {lo hi : Nat} {a : Int32} (hl : lo < 2 ^ 31) (hh : hi < 2 ^ 31) (h : zin lo hi a) : nI lo ≤ a ∧ a ≤ nI hi := by
  obtain ⟨j, rfl, h1, h2⟩ := h
  exact ⟨nI_le h1 (by omega), nI_le h2 hh⟩
theorem V.weak {g : zG} {κ : zC} {nL k n : Nat} {t : Nat × Nat} {f f' : Nat → Option va_E} {pc : Nat} {lv : List (Nat × Value)} {st : List Value} (h : ∀ a e, f' a = some e → f a = some e) (kk : V g κ nL k n (t, f') pc lv st) : V g κ nL k n (t, f) pc lv st := fun H locs ls hR hL hl =>
  kk H locs ls ⟨hR.1, hR.2.1, hR.2.2.1, fun a e he => hR.2.2.2 a e (h a e he)⟩ hL hl
theorem zup_sub {f : Nat → Option va_E} {a : Nat} {e : va_E} (h : ∀ e', f a = some e' → False) : ∀ b x, f b = some x → zup f a e b = some x := fun b x hb => by
  by_cases e1 : b = a
  · subst e1; exact (h x hb).elim
  · rw [zup_ne e1]; exact hb
