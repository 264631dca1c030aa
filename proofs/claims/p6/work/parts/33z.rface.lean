/-! ===== what the reference's face answers ===== -/
def zab (x : Int32) : Int32 := if 0 ≤ x then x else 0 - x
def zml (a b c d : Int32) : Int32 := zab (a - c) + zab (b - d)
def rPt (N : Nat → Nat) (F : Nat → Nat → Int32) (p w : Nat) (x : Int32) : Prop := (w = 0 ∧ x = F (14 + p) 0) ∨ (w = 1 ∧ x = F (14 + p) 1) ∨ (w = 2 ∧ x = F (14 + p) 2) ∨ (w = 3 ∧ zMk x (fun s => s < N 2 ∧ zIn (F (26 + s) 0) (nI p))) ∨ (w = 4 ∧ zMk x (mCl (rSp F) (rCh F) (rPa F) (N 0) (nI (2 ^ N 2 - 1)) (N 2) p)) ∨ (w = 5 ∧ zMk x (fun i => i < N 1 ∧ zPl F i p)) ∨ (w = 6 ∧ ∃ b h, rBs N F b h ∧ cRo (rDu N F) b h p x)
def rPl (N : Nat → Nat) (F : Nat → Nat → Int32) (p w : Nat) (x : Int32) : Prop := (w = 0 ∧ x = F (21 + p) 0) ∨ (w = 1 ∧ x = F (21 + p) 1) ∨ (w = 2 ∧ x = F (21 + p) 2) ∨ (w = 3 ∧ ((¬ F (21 + p) 3 = 0 ∧ x = nI 1) ∨ (F (21 + p) 3 = 0 ∧ x = nI 0))) ∨ (w = 4 ∧ ∃ b h, rBs N F b h ∧ zMk x (fun q => ¬ b = -1 ∧ rDu N F q ∧ h q = p)) ∨ (w = 5 ∧ x = F (21 + p) 4)
def rCt (F : Nat → Nat → Int32) (p w : Nat) (x : Int32) : Prop := (w = 0 ∧ x = F (32 + p) 0) ∨ (w = 1 ∧ x = F (32 + p) 1) ∨ (w = 2 ∧ x = F (32 + p) 2) ∨ (w = 3 ∧ ((¬ F (32 + p) 3 = 0 ∧ x = nI 1) ∨ (F (32 + p) 3 = 0 ∧ x = nI 0)))
def rTn (F : Nat → Nat → Int32) (p w : Nat) (x : Int32) : Prop := (w = 0 ∧ x = F (38 + p) 0) ∨ (w = 1 ∧ x = F (38 + p) 1) ∨ (w = 2 ∧ x = F (38 + p) 2) ∨ (w = 3 ∧ x = zml (F (38 + p) 0) (F (38 + p) 1) (nI 0) (nI 0))
def rSh (N : Nat → Nat) (F : Nat → Nat → Int32) (am : Int32) (p : Nat) (x : Int32) : Prop := ∃ b h, rBs N F b h ∧ x = zPo (fun i => F (21 + i) 2) (zAc (rDu N F) b h) (N 1) am p
section RFACE
variable {N : Nat → Nat} {F F2 : Nat → Nat → Int32} {b x am : Int32} {h : Nat → Nat} {p w : Nat}
theorem cRo_r (b1 : N 1 ≤ 5) (hx : ¬ b = -1 → (rDu N F p → x = nI (h p)) ∧ (¬ rDu N F p → x = -1)) (hn : ¬ b = -1) : cRo (rDu N F) b h p x := by
  rcases Classical.em (rDu N F p) with hd | hd
  · exact Or.inl ⟨hn, hd, (hx hn).1 hd⟩
  · exact Or.inr ⟨fun q => hd q.2, (hx hn).2 hd⟩
theorem rDu_M (hM : rM N F F2) (hI : rI N F) : rDu N F2 p ↔ rDu N F p := rDu_mv hI.bnd.2.2.1 (fun k j q1 q2 _ => hM.1 k j (Or.inl ⟨q1, by omega⟩)) p
theorem rBs_Mi (hM : rM N F F2) (hI : rI N F) : rBs N F2 b h ↔ rBs N F b h := ⟨fun q => rBs_mv hI.bnd.1 hI.bnd.2.1 hI.bnd.2.2.1 (fun k j q1 q2 _ => (hM.1 k j (Or.inl ⟨q1, by omega⟩)).symm) q, rBs_M hM hI⟩
theorem rPt_M (hM : rM N F F2) (hI : rI N F) (hp : p < N 0) (hq : rPt N F2 p w x) : rPt N F p w x := by
  obtain ⟨b0, b1, b2, -, -⟩ := hI.bnd
  have o : ∀ k j, 14 ≤ k → k < 43 → F2 k j = F k j := fun k j q1 q2 => hM.1 k j (Or.inl ⟨q1, q2⟩)
  have es : ∀ s, s < N 2 → rSp F2 s = rSp F s := fun s hs => o (26 + s) 0 (by omega) (by omega)
  rcases hq with ⟨e, q⟩ | ⟨e, q⟩ | ⟨e, q⟩ | ⟨e, q⟩ | ⟨e, q⟩ | ⟨e, q⟩ | ⟨e, b, h, q1, q2⟩
  · exact Or.inl ⟨e, q.trans (o _ _ (by omega) (by omega))⟩
  · exact Or.inr (Or.inl ⟨e, q.trans (o _ _ (by omega) (by omega))⟩)
  · exact Or.inr (Or.inr (Or.inl ⟨e, q.trans (o _ _ (by omega) (by omega))⟩))
  · exact Or.inr (Or.inr (Or.inr (Or.inl ⟨e, q.cg fun s => and_congr_right fun hs => by rw [o (26 + s) 0 (by omega) (by omega)]⟩)))
  · exact Or.inr (Or.inr (Or.inr (Or.inr (Or.inl ⟨e, q.cg fun s => ⟨mCl_cg es (fun p hp => o (14 + p) 2 (by omega) (by omega)) (fun s hs => o (26 + s) 1 (by omega) (by omega)), mCl_cg (fun s hs => (es s hs).symm) (fun p hp => (o (14 + p) 2 (by omega) (by omega)).symm) (fun s hs => (o (26 + s) 1 (by omega) (by omega)).symm)⟩⟩))))
  · exact Or.inr (Or.inr (Or.inr (Or.inr (Or.inr (Or.inl ⟨e, q.cg fun i => and_congr_right fun hi => by unfold zPl; rw [o (21 + i) 3 (by omega) (by omega), o (21 + i) 0 (by omega) (by omega), o (14 + p) 0 (by omega) (by omega)]⟩)))))
  · refine Or.inr (Or.inr (Or.inr (Or.inr (Or.inr (Or.inr ⟨e, b, h, (rBs_Mi hM hI).mp q1, ?_⟩)))))
    rcases q2 with ⟨u1, u2, u3⟩ | ⟨u1, u2⟩
    · exact Or.inl ⟨u1, (rDu_M hM hI).mp u2, u3⟩
    · exact Or.inr ⟨fun q => u1 ⟨q.1, (rDu_M hM hI).mpr q.2⟩, u2⟩
theorem rPl_M (hM : rM N F F2) (hI : rI N F) (hp : p < N 1) (hq : rPl N F2 p w x) : rPl N F p w x := by
  obtain ⟨b0, b1, b2, -, -⟩ := hI.bnd
  have o : ∀ j, F2 (21 + p) j = F (21 + p) j := fun j => hM.1 _ j (Or.inl ⟨by omega, by omega⟩)
  unfold rPl at hq ⊢
  rw [o 0, o 1, o 2, o 3, o 4] at hq
  rcases hq with q | q | q | q | ⟨e, b, h, q1, q2⟩ | q
  · exact Or.inl q
  · exact Or.inr (Or.inl q)
  · exact Or.inr (Or.inr (Or.inl q))
  · exact Or.inr (Or.inr (Or.inr (Or.inl q)))
  · exact Or.inr (Or.inr (Or.inr (Or.inr (Or.inl ⟨e, b, h, (rBs_Mi hM hI).mp q1, q2.cg fun q => and_congr_right fun _ => and_congr_left fun _ => rDu_M hM hI⟩))))
  · exact Or.inr (Or.inr (Or.inr (Or.inr (Or.inr q))))
theorem rCt_M (hM : rM N F F2) (hI : rI N F) (hp : p < N 3) (hq : rCt F2 p w x) : rCt F p w x := by
  obtain ⟨-, -, -, b3, -⟩ := hI.bnd
  have o : ∀ j, F2 (32 + p) j = F (32 + p) j := fun j => hM.1 _ j (Or.inl ⟨by omega, by omega⟩)
  unfold rCt at hq ⊢
  rw [o 0, o 1, o 2, o 3] at hq
  exact hq
theorem rTn_M (hM : rM N F F2) (hI : rI N F) (hp : p < N 4) (hq : rTn F2 p w x) : rTn F p w x := by
  obtain ⟨-, -, -, -, b4⟩ := hI.bnd
  have o : ∀ j, F2 (38 + p) j = F (38 + p) j := fun j => hM.1 _ j (Or.inl ⟨by omega, by omega⟩)
  unfold rTn at hq ⊢
  rw [o 0, o 1, o 2] at hq
  exact hq
theorem rSh_M (hM : rM N F F2) (hI : rI N F) (hp : p < N 1) (hq : rSh N F2 am p x) : rSh N F am p x := by
  obtain ⟨b0, b1, b2, -, -⟩ := hI.bnd
  obtain ⟨b, h, q1, q2⟩ := hq
  exact ⟨b, h, (rBs_Mi hM hI).mp q1, q2.trans (zPo_cg hp (fun i hi => hM.1 _ 2 (Or.inl ⟨by omega, by omega⟩)) (fun i _ => zAc_M hM hI))⟩
theorem mcn_pos {P : Nat → Prop} {i : Nat} (hi : i < 5) (h : P i) : 1 ≤ mcn P := by
  have := mcn_le (P := fun j => j = i) (Q := P) (fun j _ e => by rw [e]; exact h)
  have h1 : mcn (fun j => j = i) = 1 := by
    have e : mcn (fun j => j = i) = mcn (fun _ => False) + 1 := mcn_one hi id fun j _ => ⟨Or.inr, fun q => q.resolve_left id⟩
    rw [e]
    unfold mcn
    rw [mb_0 id]
  omega
/-- somebody plays just where some are needed -/
theorem mBst_act {pm cl : Nat → Nat → Prop} {D : Nat → Prop} (hD : ∀ p, D p → p < 7) (hb : mBst pm cl D b h) : (∃ q, zAc D b h q) ↔ ¬ b = -1 ∧ ¬ b = 0 := by
  constructor
  · rintro ⟨q, hn, p, hp, e⟩
    refine ⟨hn, fun z => ?_⟩
    rcases hb with ⟨a, -⟩ | ⟨k, a1, a2, -, a4⟩
    · exact hn a
    · have : k = 0 := (nI_eq (by omega) (by decide)).mp (a2.symm.trans (z.trans nI_0.symm))
      subst this
      have h5 : h p < 5 := (a4.1.1 p ((dL_mem 7 0 p).mpr ⟨Nat.zero_le _, by have := hD p hp; omega, hp⟩)).1
      have h1 := mcn_pos (P := fun i => (∀ q : Nat, ¬ False) ∧ ∃ p, p ∈ dL D 7 0 ∧ h p = i) h5 ⟨fun _ => id, p, (dL_mem 7 0 p).mpr ⟨Nat.zero_le _, by have := hD p hp; omega, hp⟩, rfl⟩
      have h2 := a4.1.2.2
      exact absurd h1 (by
        have h3 : mcn (fun i => (∀ q : Nat, ¬ False) ∧ ∃ p, p ∈ dL D 7 0 ∧ h p = i) ≤ 0 := h2
        omega)
  · rintro ⟨hn, hz⟩
    refine Classical.byContradiction fun no => ?_
    have nd : ∀ p, ¬ D p := fun p hp => no ⟨h p, hn, p, hp, rfl⟩
    rcases hb with ⟨a, -⟩ | ⟨k, a1, a2, a3, a4⟩
    · exact hn a
    · rcases Nat.eq_zero_or_pos k with e | e
      · rw [e] at a2
        exact hz (a2.trans nI_0)
      · exact a3 0 e (mFit_no nd)
end RFACE
/-- somebody plays: as the reference tells it -/
def rNi (N : Nat → Nat) (F : Nat → Nat → Int32) : Prop := ∃ b h, rBs N F b h ∧ ¬ b = -1 ∧ ¬ b = 0
/-- a night, as the reference tells it -/
def rNt (N : Nat → Nat) (F : Nat → Nat → Int32) (t : Nat) (F' : Nat → Nat → Int32) : Prop := ∃ b h, rBs N F b h ∧ ∃ F2 : Nat → Nat → Int32, (∀ k j, ((14 ≤ k ∧ k < 21) ∨ (21 ≤ k ∧ k < 26 ∧ j < 4) ∨ (26 ≤ k ∧ k < 43) ∨ (k = 0 ∧ 6 ≤ j ∧ j ≤ 9)) → F2 k j = F k j) ∧ rKn N F2 ∧ (∀ q, q < N 1 → F2 (21 + q) 4 = F (21 + q) 4 + zPo (fun i => F (21 + i) 2) (zAc (rDu N F) b h) (N 1) (F (38 + t) 2) q) ∧ F' = fset (fset (fset F2 0 6 (F 0 6 + F (38 + t) 2)) (38 + t) 2 (F (38 + t) 2 / nI 2)) 0 8 (F 0 8 + nI 1)
def rCo (F : Nat → Nat → Int32) (c : Nat) : Int32 := F (32 + c) 2 + F (32 + c) 2 / nI 10
def rPw (F : Nat → Nat → Int32) (c p : Nat) : Nat → Nat → Int32 := fset (fset (fset F (32 + c) 3 (nI 1)) 0 6 (F 0 6 + F (32 + c) 2)) (21 + p) 4 (F (21 + p) 4 + F (32 + c) 2)
def rRd (F : Nat → Nat → Int32) (c p : Nat) : Nat → Nat → Int32 := fset (fset (fset F (32 + c) 3 (nI 0)) 0 7 (F 0 7 + rCo F c)) (21 + p) 4 (F (21 + p) 4 - rCo F c)
