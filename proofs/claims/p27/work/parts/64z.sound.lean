/-! ===== what the law asks at last: all is sound; no cast just where something is cut ===== -/
section PSD
variable {F : Nat → Nat → Int32} {nP nS nA nC nT B : Nat} {x y b : Int32}
theorem mTl_pos {P : Prop} (h : mTl x P) (p : P) : ¬ x = 0 := by
  rcases h with ⟨rfl, _⟩ | ⟨rfl, n⟩
  · decide
  · exact absurd p n
theorem mBst_fit {pm cl : Nat → Nat → Prop} {D : Nat → Prop} {h : Nat → Nat} (hD : ∀ p, D p → p < 7) (hb : mBst pm cl D b h) : b = -1 ↔ ¬ mFit pm cl D 5 := by
  rcases hb with ⟨e, n⟩ | ⟨k, k5, e, lo, hf⟩
  · exact ⟨fun _ => n, fun _ => e⟩
  · have f : mFit pm cl D k := (mFit_ext fun p => (dL_mem 7 0 p).trans ⟨fun q => q.2.2, fun q => ⟨Nat.zero_le _, by have := hD p q; omega, q⟩⟩).mp ⟨h, hf.1⟩
    exact ⟨fun z => absurd (e.symm.trans z) (znm1 (by omega)), fun z => absurd (mFit_mono k5 f) z⟩
theorem zpc_min : ∀ s, s < 64 → zpc s = 0 → s = 0 := by decide +kernel
theorem mCut_0 {P : Nat → Prop} {n : Nat} (h6 : n ≤ 6) (hc : mCut P n y) : y = 0 ↔ P 0 := by
  obtain ⟨s, hs, rfl, hp, hm⟩ := hc
  have h64 : 2 ^ n ≤ 64 := zp2 (n := 6) h6
  constructor
  · intro z
    have : s = 0 := (nI_eq (by omega) (by decide)).mp (z.trans nI_0.symm)
    rw [← this]
    exact hp
  · intro z
    have hz := hm 0 (Nat.two_pow_pos n) z
    have z0 : zpc 0 = 0 := rfl
    have : s = 0 := by
      rcases hz with q | ⟨q, _⟩
      · omega
      · exact zpc_min s (by omega) (by omega)
    rw [this]
    exact nI_0
theorem cEs {h : Nat → Nat} (h6 : nS ≤ 6) (hb : cBs nP nS nA F b h) (hc : mCut (fun u => zFC nP nS nA F (zLf nS u) 5) nS y) : b = -1 ↔ ¬ y = 0 := by
  have e : zFC nP nS nA F (zLf nS 0) 5 ↔ mFit (mPm F nA) (mCl (F 5) (F 4) (F 6) nP (nI (2 ^ nS - 1)) nS) (mDu (F 5) (nI (2 ^ nS - 1)) nS) 5 := by
    rw [zLf_0 nS (by omega)]
    exact Iff.rfl
  exact (mBst_fit cDu_7 hb).trans (not_congr (e.symm.trans (mCut_0 h6 hc).symm))
theorem cHo_78 (h6 : nS ≤ 6) (h : cHo nP nS nA nC nT F 7 x) (k : cHo nP nS nA nC nT F 8 y) : x = -1 ↔ ¬ y = 0 := by
  have h' : ∃ b h, cBs nP nS nA F b h ∧ x = b := by
    rcases h with ⟨w, _⟩ | ⟨w, _⟩ | ⟨w, _⟩ | ⟨w, _⟩ | ⟨w, _⟩ | ⟨w, _⟩ | ⟨w, _⟩ | ⟨_, q⟩ | ⟨w, _⟩ | ⟨w, _⟩ | ⟨w, _⟩ | ⟨w, _⟩ | ⟨w, _⟩ | ⟨w, _⟩
    · exact absurd w (by decide)
    · exact absurd w (by decide)
    · exact absurd w (by decide)
    · exact absurd w (by decide)
    · exact absurd w (by decide)
    · exact absurd w (by decide)
    · exact absurd w (by decide)
    · exact q
    all_goals exact absurd w (by decide)
  have k' : mCut (fun u => zFC nP nS nA F (zLf nS u) 5) nS y := by
    rcases k with ⟨w, _⟩ | ⟨w, _⟩ | ⟨w, _⟩ | ⟨w, _⟩ | ⟨w, _⟩ | ⟨w, _⟩ | ⟨w, _⟩ | ⟨w, _⟩ | ⟨_, q⟩ | ⟨w, _⟩ | ⟨w, _⟩ | ⟨w, _⟩ | ⟨w, _⟩ | ⟨w, _⟩
    · exact absurd w (by decide)
    · exact absurd w (by decide)
    · exact absurd w (by decide)
    · exact absurd w (by decide)
    · exact absurd w (by decide)
    · exact absurd w (by decide)
    · exact absurd w (by decide)
    · exact absurd w (by decide)
    · exact q
    all_goals exact absurd w (by decide)
  obtain ⟨b, g, hb, rfl⟩ := h'
  exact cEs h6 hb k'
/-- among sets there is a first one -/
theorem mCut_ex {P : Nat → Prop} {n u : Nat} (h6 : n ≤ 6) (hu : u < 2 ^ n) (hp : P u) : ∃ c, mCut P n c := by
  have h64 : 2 ^ n ≤ 64 := zp2 (n := 6) h6
  have go : ∀ w : Nat, ∀ s, s < 2 ^ n → P s → w = zpc s * 64 + s → ∃ c, mCut P n c := by
    intro w
    induction w using Nat.strongRecOn with
    | ind w ih =>
      intro s hs ps ew
      rcases Classical.em (∃ v, v < 2 ^ n ∧ P v ∧ zpc v * 64 + v < zpc s * 64 + s) with ⟨v, v1, v2, v3⟩ | no
      · exact ih _ (by omega) v v1 v2 rfl
      · refine ⟨nI s, s, hs, rfl, ps, fun v hv pv => ?_⟩
        have : ¬ zpc v * 64 + v < zpc s * 64 + s := fun z => no ⟨v, hv, pv, z⟩
        omega
  exact go _ u hu hp rfl
theorem jV_es (h6 : nS ≤ 6) : mEs (mPm F nA) (mCl (F 5) (F 4) (F 6) nP (nI (2 ^ nS - 1)) nS) (cDu nS F) (fun u => zFC nP nS nA F (zLf nS u) 5) nS := by
  obtain ⟨b, g, hb⟩ := mBst_ex (pm := mPm F nA) (cl := mCl (F 5) (F 4) (F 6) nP (nI (2 ^ nS - 1)) nS) (D := cDu nS F) (fun _ _ z => z.symm) cDu_7
  have h64 : 2 ^ nS ≤ 64 := zp2 (n := 6) h6
  have h1 : 1 ≤ 2 ^ nS := Nat.one_le_two_pow
  obtain ⟨c, hc⟩ := mCut_ex (P := fun u => zFC nP nS nA F (zLf nS u) 5) (u := 2 ^ nS - 1) h6 (by omega) (by
    show zFC nP nS nA F (zLf nS (2 ^ nS - 1)) 5
    unfold zFC
    rw [zLf_all nS (by omega)]
    exact mFit_no (fun p => mDu_zero))
  exact ⟨b, g, c, hb, hc, cEs h6 hb hc⟩
theorem jV_sd (h : jV nP nS nA nC nT B F) (hB : B < 2 ^ 30) : cSd nP nS nA F := by
  obtain ⟨b1, b2, b3, b4, b5⟩ := h.1.bnd
  refine ⟨fun s hs => ?_, fun i hi => ?_, h.2.2.2.2.2.2.2.2.2.2.2.2.2.2.2.2.2.2, jV_es b2⟩
  · obtain ⟨m, hm, em⟩ := h.bd.2.2 s hs
    exact koe (fun i p q => by have := q.1; omega) b1 hm em
  · obtain ⟨v, -, hv, ev⟩ := h.2.2.2.2.2.2.2.2.2.2.2.2.2.2.2.1 i hi
    rw [ev]
    exact nI_pos (by omega)
theorem jV_pu {i : Nat} (h : jV nP nS nA nC nT B F) (hB : B < 2 ^ 30) (hi : i < nA) (e : x = F 11 i) : 0 ≤ x := by
  obtain ⟨v, -, hv, ev⟩ := h.2.2.2.2.2.2.2.2.2.2.2.2.2.2.2.1 i hi
  rw [e, ev]
  exact nI_pos' (by omega)
end PSD
