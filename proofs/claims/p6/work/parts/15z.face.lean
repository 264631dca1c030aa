/-! ===== what the face answers out of the best cast ===== -/
abbrev cDu (nS : Nat) (F : Nat → Nat → Int32) : Nat → Prop := mDu (F 5) (nI (2 ^ nS - 1)) nS
abbrev cBs (nP nS nA : Nat) (F : Nat → Nat → Int32) (b : Int32) (h : Nat → Nat) : Prop := mBst (mPm F nA) (mCl (F 5) (F 4) (F 6) nP (nI (2 ^ nS - 1)) nS) (mDu (F 5) (nI (2 ^ nS - 1)) nS) b h
/-- who has a part -/
def zAc (D : Nat → Prop) (b : Int32) (h : Nat → Nat) (q : Nat) : Prop := ¬ b = -1 ∧ ∃ p, D p ∧ h p = q
/-- who has this part -/
def cRo (D : Nat → Prop) (b : Int32) (h : Nat → Nat) (p : Nat) (x : Int32) : Prop := (¬ b = -1 ∧ D p ∧ x = nI (h p)) ∨ (¬ (¬ b = -1 ∧ D p) ∧ x = -1)
section BST
variable {pm cl : Nat → Nat → Prop} {D : Nat → Prop} {b b' x : Int32} {h h' : Nat → Nat} {p q i : Nat} {f : Nat → Int32}
theorem mBst.lt5 (hD : ∀ p, D p → p < 7) (hb : mBst pm cl D b h) (hn : ¬ b = -1) (hp : D p) : h p < 5 := by
  rcases hb with ⟨e, -⟩ | ⟨k, -, -, -, c⟩
  · exact absurd e hn
  · exact (c.1.1 p ((dL_mem 7 0 p).mpr ⟨Nat.zero_le _, by have := hD p hp; omega, hp⟩)).1
theorem mBst.pmi (hD : ∀ p, D p → p < 7) (hb : mBst pm cl D b h) (hn : ¬ b = -1) (hp : D p) : pm (h p) p := by
  rcases hb with ⟨e, -⟩ | ⟨k, -, -, -, c⟩
  · exact absurd e hn
  · exact (c.1.1 p ((dL_mem 7 0 p).mpr ⟨Nat.zero_le _, by have := hD p hp; omega, hp⟩)).2.1
theorem mBst.cli (hD : ∀ p, D p → p < 7) (hb : mBst pm cl D b h) (hn : ¬ b = -1) (hp : D p) (hq : D q) (hpq : p ≠ q) (e : h p = h q) : ¬ cl p q := by
  rcases hb with ⟨e, -⟩ | ⟨k, -, -, -, c⟩
  · exact absurd e hn
  · exact c.1.2.1 p ((dL_mem 7 0 p).mpr ⟨Nat.zero_le _, by have := hD p hp; omega, hp⟩) q ((dL_mem 7 0 q).mpr ⟨Nat.zero_le _, by have := hD q hq; omega, hq⟩) hpq e
theorem zAc_iff (y : zMk x (fun q => ¬ b = -1 ∧ D q ∧ h q = i)) : ¬ x = 0 ↔ zAc D b h i := by
  rw [zMk_z y]
  constructor
  · intro n
    refine Classical.byContradiction fun z => n fun q hq => z ⟨hq.1, q, hq.2⟩
  · rintro ⟨a, q, hq⟩ n
    exact n q ⟨a, hq⟩
theorem zAc_uniq (hD : ∀ p, D p → p < 7) (h1 : mBst pm cl D b h) (h2 : mBst pm cl D b' h') : zAc D b h q ↔ zAc D b' h' q := by
  obtain ⟨e, u⟩ := mBst_uniq hD h1 h2
  subst e
  unfold zAc
  refine and_congr_right fun hn => exists_congr fun p => and_congr_right fun hp => ?_
  rw [u hn p hp]
theorem cRo_no (hD : ∀ p, D p → p < 7) (hb : mBst pm cl D b h) (y : ∀ i, i < 5 → zMk (f i) (fun q => ¬ b = -1 ∧ D q ∧ h q = i)) (hp : p < 7) (n : ∀ i, i < 5 → ¬ zIn (f i) (nI p)) : cRo D b h p (-1) := Or.inr ⟨fun ⟨hn, hd⟩ => by
  have h5 := hb.lt5 hD hn hd
  exact n (h p) h5 (((y (h p) h5).In hp).mpr ⟨hn, hd, rfl⟩), rfl⟩
theorem cRo_at (y : ∀ i, i < 5 → zMk (f i) (fun q => ¬ b = -1 ∧ D q ∧ h q = i)) (hp : p < 7) (hi : i < 5) (z : zIn (f i) (nI p)) : cRo D b h p (nI i) := by
  obtain ⟨hn, hd, e⟩ := ((y i hi).In hp).mp z
  exact Or.inl ⟨hn, hd, by rw [e]⟩
theorem cRo_uniq {x y : Int32} (hD : ∀ p, D p → p < 7) (h1 : mBst pm cl D b h) (h2 : mBst pm cl D b' h') (a : cRo D b h p x) (c : cRo D b' h' p y) : x = y := by
  obtain ⟨e, u⟩ := mBst_uniq hD h1 h2
  subst e
  rcases a with ⟨a1, a2, rfl⟩ | ⟨a1, rfl⟩ <;> rcases c with ⟨c1, c2, rfl⟩ | ⟨c1, rfl⟩
  · rw [u a1 p a2]
  · exact absurd ⟨a1, a2⟩ c1
  · exact absurd ⟨c1, c2⟩ a1
  · rfl
theorem zMk_uniq {x y : Int32} {E : Nat → Prop} (h1 : zMk x E) (h2 : zMk y E) : x = y := by
  obtain ⟨m, a, rfl, c⟩ := h1
  obtain ⟨n, a', rfl, c'⟩ := h2
  have : m = n := Nat.eq_of_testBit_eq fun q => by
    cases e : m.testBit q with
    | true => exact ((c' q).mpr ((c q).mp e)).symm
    | false =>
      cases e' : n.testBit q with
      | true => rw [(c q).mpr ((c' q).mp e')] at e; cases e
      | false => rfl
  rw [this]
end BST
section FACE
variable {nP nS nA nC nT : Nat} {F F2 : Nat → Nat → Int32}
theorem cDu_7 : ∀ p, cDu nS F p → p < 7 := fun _ h => h.1
/-- behind a look into the memory -/
theorem cBest_of (hC : cK F) (hJ : cM F F2) (hI : cI nP nS nA nC nT F) (hk : ¬ F2 12 3 = 0) : ∃ h : Nat → Nat, cBs nP nS nA F (F2 12 1) h ∧ (∀ i, i < 5 → zMk (F2 13 i) (fun q => ¬ F2 12 1 = -1 ∧ cDu nS F q ∧ h q = i)) ∧ mCut (fun u => zFC nP nS nA F (zLf nS u) 5) nS (F2 12 2) := by
  obtain ⟨⟨h, x, y⟩, z⟩ := (hJ.2 hC).get (hI.mvM hJ) hk
  have hw : cRw scM F F2 := hJ.1
  rw [mPm_W hw, show F2 5 = F 5 from funext fun j => hw 5 j (scM_f (by omega)), show F2 4 = F 4 from funext fun j => hw 4 j (scM_f (by omega)), show F2 6 = F 6 from funext fun j => hw 6 j (scM_f (by omega))] at x
  rw [show F2 5 = F 5 from funext fun j => hw 5 j (scM_f (by omega))] at y
  rw [zFC_W hw] at z
  exact ⟨h, x, y, z⟩
def s11 (k _j : Nat) : Bool := k == 11
theorem cI.mv11 (h : cI nP nS nA nC nT F) (hJ : cRw s11 F F2) : cI nP nS nA nC nT F2 := by
  obtain ⟨a, b, c, d, e, f1, f2, f3, f4, f5, f6⟩ := h
  refine ⟨a, b, c, d, e, (hJ 1 5 rfl).trans f1, (hJ 1 6 rfl).trans f2, (hJ 7 4 rfl).trans f3, (hJ 18 3 rfl).trans f4, (hJ 23 4 rfl).trans f5, fun s hs => ?_⟩
  obtain ⟨m, h1, h2⟩ := f6 s hs
  exact ⟨m, h1, (hJ 5 s rfl).trans h2⟩
end FACE
def cPt (nP nS nA : Nat) (F : Nat → Nat → Int32) (p w : Nat) (x : Int32) : Prop := (w = 0 ∧ x = F 2 p) ∨ (w = 1 ∧ x = F 3 p) ∨ (w = 2 ∧ x = F 4 p) ∨ (w = 3 ∧ zMk x (fun s => s < nS ∧ zIn (F 5 s) (nI p))) ∨ (w = 4 ∧ zMk x (mCl (F 5) (F 4) (F 6) nP (nI (2 ^ nS - 1)) nS p)) ∨ (w = 5 ∧ zMk x (fun i => mPm F nA i p)) ∨ (w = 6 ∧ ∃ b h, cBs nP nS nA F b h ∧ cRo (cDu nS F) b h p x)
def cPl (nP nS nA : Nat) (F : Nat → Nat → Int32) (p w : Nat) (x : Int32) : Prop := (w = 0 ∧ x = F 8 p) ∨ (w = 1 ∧ x = F 9 p) ∨ (w = 2 ∧ x = F 10 p) ∨ (w = 3 ∧ ((zIn (F 7 5) (nI p) ∧ x = nI 1) ∨ (¬ zIn (F 7 5) (nI p) ∧ x = nI 0))) ∨ (w = 4 ∧ ∃ b h, cBs nP nS nA F b h ∧ zMk x (fun q => ¬ b = -1 ∧ cDu nS F q ∧ h q = p)) ∨ (w = 5 ∧ x = F 11 p)
def cCt (F : Nat → Nat → Int32) (p w : Nat) (x : Int32) : Prop := (w = 0 ∧ x = F 19 p) ∨ (w = 1 ∧ x = F 20 p) ∨ (w = 2 ∧ x = F 21 p) ∨ (w = 3 ∧ ((zIn (F 18 4) (nI p) ∧ x = nI 1) ∨ (¬ zIn (F 18 4) (nI p) ∧ x = nI 0)))
def cTn (F : Nat → Nat → Int32) (p w : Nat) (x : Int32) : Prop := (w = 0 ∧ x = F 24 p) ∨ (w = 1 ∧ x = F 25 p) ∨ (w = 2 ∧ x = F 26 p) ∨ (w = 3 ∧ x = F 24 p + F 25 p)
/-- what one has of an amount by the best cast -/
def cSh (nP nS nA : Nat) (F : Nat → Nat → Int32) (am : Int32) (p : Nat) (x : Int32) : Prop := ∃ b h, cBs nP nS nA F b h ∧ x = zPo (F 10) (zAc (cDu nS F) b h) nA am p
/-- somebody plays -/
def zNi (nP nS nA : Nat) (F : Nat → Nat → Int32) : Prop := ∃ b h, cBs nP nS nA F b h ∧ ∃ q, zAc (cDu nS F) b h q
/-- a night -/
def cNi (nP nS nA : Nat) (F : Nat → Nat → Int32) (t : Nat) (F' : Nat → Nat → Int32) : Prop := ∃ b h, cBs nP nS nA F b h ∧ ∃ F1 F2 : Nat → Nat → Int32, cM F F1 ∧ cRw s11 F1 F2 ∧ (∀ q, q < nA → F2 11 q = F 11 q + zPo (F 10) (zAc (cDu nS F) b h) nA (F 26 t) q) ∧ (∀ q, nA ≤ q → F2 11 q = F 11 q) ∧ F' = fset (fset (fset F2 0 5 (F 0 5 + F 26 t)) 0 7 (F 0 7 + nI 1)) 26 t (F 26 t / nI 2)
/-- what a coat costs to buy back -/
def zCo (F : Nat → Nat → Int32) (c : Nat) : Int32 := F 21 c + F 21 c / nI 10
def zRd (F : Nat → Nat → Int32) (a1 a2 : Int32) : Prop := ∃ c p : Nat, c < 6 ∧ p < 5 ∧ a1 = nI c ∧ a2 = nI p ∧ zIn (F 18 4) (nI c) ∧ zCo F c ≤ F 11 p
def cPw (F : Nat → Nat → Int32) (c p : Nat) : Nat → Nat → Int32 := fset (fset (fset F 18 4 (F 18 4 ||| nI (2 ^ c))) 0 5 (F 0 5 + F 21 c)) 11 p (F 11 p + F 21 c)
def cRd (F : Nat → Nat → Int32) (c p : Nat) : Nat → Nat → Int32 := fset (fset (fset F 18 4 (F 18 4 &&& (nI (2 ^ c) ^^^ (-1)))) 0 6 (F 0 6 + zCo F c)) 11 p (F 11 p - zCo F c)
