/-! ===== the law's state between calls ===== -/
abbrev zW (g : zG) (X0 : Nat) (F : Nat → Nat → Int32) (ad N : Nat → Nat) (S : Int64) (G : Nat → Nat → Int32) (B0 : Nat → Option va_E) (Oa : Nat) (m : Int64) : Nat → Option va_E := cW g X0 F (rO g ad N S G (zup B0 Oa (.inr (10, [.long m]))))
/-- what stays: the machine, the script, the class's place, the place of what is told out -/
def zCx (g : zG) (κ : zC) (X0 Oa b L : Nat) (xs : Nat → Int32) : Prop := zX g κ RL cL_law 7 ∧ zH κ 2048 823735 6624900 ∧ va_X b L xs (zs κ) g.2.1 ∧ b < g.2.1.size ∧ L ≤ 2048 ∧ g.1.stackTraces = false ∧ zEmC g ∧ g.2.1.size ≤ X0 ∧ (Oa < X0 ∨ X0 + 61 ≤ Oa) ∧ g.2.1.size ≤ Oa
def zLI (g : zG) (X0 Oa M : Nat) (ad N : Nat → Nat) (G F : Nat → Nat → Int32) : Prop := rK g ad N ∧ (∀ k, rLive N k = true → (ad k < X0 ∨ X0 + 61 ≤ ad k) ∧ ad k ≠ Oa) ∧ ad 43 = zEm g ∧ rI N G ∧ zRl N F G ∧ ad 0 = M
section LST
variable {g : zG} {X0 Oa : Nat} {F G : Nat → Nat → Int32} {ad N : Nat → Nat} {S : Int64} {B0 σ0 : Nat → Option va_E} {m : Int64}
theorem zW_c (hK : rK g ad N) (hO : ∀ k, rLive N k = true → ad k ≠ Oa) : zW g X0 F ad N S G B0 Oa m = cW g X0 F (zup (rO g ad N S G B0) Oa (.inr (10, [.long m]))) := by
  show cW g X0 F (rO g ad N S G (zup B0 Oa (.inr (10, [.long m])))) = _
  rw [rO_zup hK hO]
theorem cW_rO (hK : rK g ad N) (hd : ∀ k, rLive N k = true → ad k < X0 ∨ X0 + 61 ≤ ad k) : cW g X0 F (rO g ad N S G σ0) = rO g ad N S G (cW g X0 F σ0) := by
  refine rO_eq hK (fun k hk => ?_) (fun a ha => ?_)
  · rw [cW_out (hd k hk), rO_at hK hk]
  · unfold cW
    split
    · rfl
    · exact rO_out ha
theorem zW_r (hK : rK g ad N) (hd : ∀ k, rLive N k = true → (ad k < X0 ∨ X0 + 61 ≤ ad k) ∧ ad k ≠ Oa) : zW g X0 F ad N S G B0 Oa m = rO g ad N S G (cW g X0 F (zup B0 Oa (.inr (10, [.long m])))) := cW_rO hK (fun k hk => (hd k hk).1)
theorem zW_fr {τ : Nat → Option va_E} {e : va_E} {t1 : Nat} (hO : Oa < X0 ∨ X0 + 61 ≤ Oa) (hfr : ∀ (a : Nat) (x : va_E), cW g X0 F (zup τ Oa e) a = some x → a < t1) : X0 + 61 ≤ t1 ∧ Oa < t1 := by
  have h1 : X0 + 60 < t1 := hfr _ _ (cW_at (k := 60) (by decide))
  exact ⟨by omega, hfr _ _ ((cW_out hO).trans zup_eq)⟩
end LST
section LAWROWS
variable {g : zG} {κ : zC} {own : String} {cc : ByteArray} {nL k n : Nat} {σ : zS} {pc : Nat} {lv : List (Nat × Value)} {rest st : List Value}
theorem V_sld (X : zX g κ own cc nL) {b L : Nat} {xs : Nat → Int32} (hX : va_X b L xs (zs κ) g.2.1) (hb : b < g.2.1.size) {i : Int32} (hin : vp_in i L) (d : decode cc pc = .ok (.iaload, 1)) (kk : V g κ nL k n σ (pc + 1) lv (.int (xs i.toNatClampNeg) :: rest)) : V g κ nL k n σ pc lv (.int i :: .ref b :: rest) := by
  intro H locs ls hR hL hl
  obtain ⟨scr, h1, h2, h3, h4, h5⟩ := hX
  have hlt : i.toNatClampNeg < L := Nat.not_le.mp fun q => hin (Or.inr q)
  exact W.iald (v := .int (xs i.toNatClampNeg)) X.1 X.2.1 (by rw [hR.2.2.1 b hb]; exact h1) h2 h3 (by rw [h4]; exact hin) (h5 _ hlt) rfl rfl d (kk H locs ls hR hL hl)
theorem V_slen (X : zX g κ own cc nL) {b L : Nat} {xs : Nat → Int32} (hX : va_X b L xs (zs κ) g.2.1) (hb : b < g.2.1.size) (d : decode cc pc = .ok (.arraylength, 1)) (kk : V g κ nL k n σ (pc + 1) lv (.int (nI L) :: rest)) : V g κ nL k n σ pc lv (.ref b :: rest) := by
  intro H locs ls hR hL hl
  obtain ⟨scr, h1, h2, h3, h4, h5⟩ := hX
  exact W.alen (n := Int32.ofNat L) X.1 X.2.1 (by rw [hR.2.2.1 b hb]; exact h1) h2 (by rw [h4] <;> rfl) rfl rfl d (kk H locs ls hR hL hl)
end LAWROWS
theorem zand31 (x : Int32) : ∃ c, c < 32 ∧ x &&& nI 31 = nI c := by
  obtain ⟨j, hj, e⟩ := nI_andX (a := 31) (by decide) x
  exact ⟨j, by omega, by rw [Int32.and_comm, e]⟩
theorem zroom4 {i L : Nat} (hi : i < 2 ^ 20) (hL : L < 2 ^ 20) (h : ¬ nI L - nI 4 < nI i) : i + 4 ≤ L := by
  rw [Int32.not_lt, Int32.le_iff_toInt_le, pk_sub_toInt (by omega) (by decide), nI_toInt (by omega)] at h
  omega
theorem zinc4 (a : Nat) : nI a + Int32.ofInt 4 = nI (a + 4) := by
  show nI a + nI 4 = nI (a + 4)
  exact (Int32.ofNat_add a 4).symm
