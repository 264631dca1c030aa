/-! ===== what the law's methods of p27 compute ===== -/
theorem pl_and : ∀ l, l < 128 → l ≠ 0 → nI l &&& nI (l - 1) = nI (l &&& (l - 1)) := by decide +kernel
theorem pl_low : ∀ l, l < 128 → l ≠ 0 → l &&& (l - 1) < l ∧ zctz l < 7 ∧ l.testBit (zctz l) = true ∧ ∀ q, q < 7 → ((l &&& (l - 1)).testBit q = true ↔ l.testBit q = true ∧ q ≠ zctz l) := by decide +kernel
theorem pl_lt {l n : Nat} {q : Nat} (hl : l < 2 ^ n) (h : l.testBit q = true) : q < n := Classical.byContradiction fun z => by
  rw [Nat.testBit_lt_two_pow (Nat.lt_of_lt_of_le hl (Nat.pow_le_pow_right (by decide) (Nat.le_of_not_lt z)))] at h
  cases h
section PEX
variable {pm : Nat → Nat → Prop} {nP m l : Nat} {y r w : Int32}
theorem pEx_0 : zMk (nI 0) (fun i => ∃ p, p < nP ∧ (m.testBit p = true ∧ ¬ m.testBit p = true) ∧ pm i p) := zMk_0.cg fun i => ⟨False.elim, fun ⟨_, _, h, _⟩ => h.2 h.1⟩
theorem pEx_step (h7 : nP ≤ 7) (hl : l < 128) (h0 : l ≠ 0) (hs : ∀ q, l.testBit q = true → m.testBit q = true) (hz : zctz l < nP) (hy : zMk y (fun i => ∃ p, p < nP ∧ (m.testBit p = true ∧ ¬ l.testBit p = true) ∧ pm i p)) (hr : zMk r (fun i => pm i (zctz l))) (ew : w = y ||| r) : zMk w (fun i => ∃ p, p < nP ∧ (m.testBit p = true ∧ ¬ (l &&& (l - 1)).testBit p = true) ∧ pm i p) := by
  obtain ⟨-, -, z3, z4⟩ := pl_low l hl h0
  rw [ew]
  refine (hy.or hr).cg fun i => ⟨?_, ?_⟩
  · rintro (⟨p, a, ⟨b, c⟩, d⟩ | d)
    · exact ⟨p, a, ⟨b, fun z => c ((z4 p (by omega)).mp z).1⟩, d⟩
    · exact ⟨_, hz, ⟨hs _ z3, fun z => ((z4 _ (by omega)).mp z).2 rfl⟩, d⟩
  · rintro ⟨p, a, ⟨b, c⟩, d⟩
    by_cases e : p = zctz l
    · exact Or.inr (e ▸ d)
    · exact Or.inl ⟨p, a, ⟨b, fun z => c ((z4 p (by omega)).mpr ⟨z, e⟩)⟩, d⟩
theorem pEx_end (h0 : l = 0) (hy : zMk y (fun i => ∃ p, p < nP ∧ (m.testBit p = true ∧ ¬ l.testBit p = true) ∧ pm i p)) (ew : w = zbc (nI m) - zbc y) : zEk pm nP m w := ⟨y, hy.cg fun i => exists_congr fun p => and_congr_right fun _ => and_congr_left fun _ => ⟨And.left, fun z => ⟨z, by rw [h0, Nat.zero_testBit]; decide⟩⟩, ew⟩
theorem pMx {i : Nat} {e : Int32} (h : ∃ c, zLk (zEk pm nP) m i c e) (f : zEk pm nP i r) (hs : zSb i m) (ew : w = if e < r then r else e) : ∃ c, zLk (zEk pm nP) m (i + 1) c w := by
  obtain ⟨c, k⟩ := h
  by_cases q : e < r
  · rw [ew, if_pos q]
    exact ⟨_, zLk_yes k f hs q⟩
  · rw [ew, if_neg q]
    exact ⟨_, zLk_no k f q⟩
theorem pMx_0 : ∃ c, zLk (zEk pm nP) m 0 c (nI 0) := ⟨0, zEk_0, Or.inl rfl, zSb_0, fun u hu => absurd hu (Nat.not_lt_zero u)⟩
theorem pMx_skip {i : Nat} {e : Int32} (h : ∃ c, zLk (zEk pm nP) m i c e) (hs : ¬ zSb i m) : ∃ c, zLk (zEk pm nP) m (i + 1) c e := by
  obtain ⟨c, k⟩ := h
  exact ⟨c, zLk_skip k hs⟩
end PEX
section PSC
variable {F : Nat → Nat → Int32} {nP nS nA nC nT p m c k : Nat} {x y e : Int32}
theorem cSc_0 (h : cSc nP nS nA nC F p 0 x) : x = F 5 p := by
  rcases h with ⟨_, q⟩ | ⟨w, _⟩ | ⟨w, _⟩ | ⟨w, _⟩ | ⟨w, _⟩ | ⟨w, _⟩
  · exact q
  all_goals exact absurd w (by decide)
theorem cSc_2 (h : cSc nP nS nA nC F p 2 x) : ∃ m k, m < 2 ^ nP ∧ F 5 p = nI m ∧ x = nI k ∧ MxK (mPm F nA) (fun q => q < nP ∧ m.testBit q = true) k := by
  rcases h with ⟨w, _⟩ | ⟨w, _⟩ | ⟨_, q⟩ | ⟨w, _⟩ | ⟨w, _⟩ | ⟨w, _⟩
  · exact absurd w (by decide)
  · exact absurd w (by decide)
  · exact q
  all_goals exact absurd w (by decide)
theorem cSc_3 (h : cSc nP nS nA nC F p 3 x) : ∃ m c e, m < 2 ^ nP ∧ F 5 p = nI m ∧ x = nI c ∧ zLk (zEk (mPm F nA) nP) m (m + 1) c e := by
  rcases h with ⟨w, _⟩ | ⟨w, _⟩ | ⟨w, _⟩ | ⟨_, q⟩ | ⟨w, _⟩ | ⟨w, _⟩
  · exact absurd w (by decide)
  · exact absurd w (by decide)
  · exact absurd w (by decide)
  · exact q
  all_goals exact absurd w (by decide)
theorem cSc_4 (h : cSc nP nS nA nC F p 4 x) : ∃ m c e, m < 2 ^ nP ∧ F 5 p = nI m ∧ x = e ∧ zLk (zEk (mPm F nA) nP) m (m + 1) c e := by
  rcases h with ⟨w, _⟩ | ⟨w, _⟩ | ⟨w, _⟩ | ⟨w, _⟩ | ⟨_, q⟩ | ⟨w, _⟩
  · exact absurd w (by decide)
  · exact absurd w (by decide)
  · exact absurd w (by decide)
  · exact absurd w (by decide)
  · exact q
  · exact absurd w (by decide)
theorem cPt_5 (h : cPt nP nS nA F p 5 x) : zMk x (fun i => mPm F nA i p) := by
  rcases h with ⟨w, _⟩ | ⟨w, _⟩ | ⟨w, _⟩ | ⟨w, _⟩ | ⟨w, _⟩ | ⟨_, q⟩ | ⟨w, _⟩
  · exact absurd w (by decide)
  · exact absurd w (by decide)
  · exact absurd w (by decide)
  · exact absurd w (by decide)
  · exact absurd w (by decide)
  · exact q
  · exact absurd w (by decide)
theorem cPl_5 (h : cPl nP nS nA F p 5 x) : x = F 11 p := by
  rcases h with ⟨w, _⟩ | ⟨w, _⟩ | ⟨w, _⟩ | ⟨w, _⟩ | ⟨w, _⟩ | ⟨_, q⟩
  · exact absurd w (by decide)
  · exact absurd w (by decide)
  · exact absurd w (by decide)
  · exact absurd w (by decide)
  · exact absurd w (by decide)
  · exact q
theorem pm_m {m' : Nat} (h7 : nP ≤ 7) (a : m < 2 ^ nP) (b : F 5 p = nI m) (a' : m' < 2 ^ nP) (b' : F 5 p = nI m') : m' = m := by
  have h128 : 2 ^ nP ≤ 128 := zp2 (n := 7) h7
  exact (nI_eq (by omega) (by omega)).mp (b'.symm.trans b)
theorem cSc_4e (h7 : nP ≤ 7) (hm : m < 2 ^ nP) (em : F 5 p = nI m) (hl : zLk (zEk (mPm F nA) nP) m (m + 1) c e) (h : cSc nP nS nA nC F p 4 x) : x = e := by
  obtain ⟨m', c', e', a1, a2, rfl, a4⟩ := cSc_4 h
  obtain rfl : m' = m := pm_m h7 hm em a1 a2
  exact (zLk_un a4 hl).2
theorem cSc_2e (h7 : nP ≤ 7) (h5 : nA ≤ 5) (hm : m < 2 ^ nP) (em : F 5 p = nI m) (hl : zLk (zEk (mPm F nA) nP) m (m + 1) c e) (h : cSc nP nS nA nC F p 2 x) : x = zbc (nI m) - e := by
  obtain ⟨m', k', a1, a2, rfl, a4⟩ := cSc_2 h
  obtain rfl : m' = m := pm_m h7 hm em a1 a2
  have z := (mOk_at h7 hm em a4 hl).mp (koe (fun i p q => by have := q.1; omega) h7 hm em)
  rw [← z, Int32.add_sub_cancel]
theorem pz_well : ∀ n, n < 6 → ∀ m, m < 32 → m < 2 ^ n → nI n - zbc (nI m) = nI (n - zpc m) ∧ zpc m ≤ n := by decide +kernel
theorem pz_sum : ∀ n, n < 6 → ∀ s, s < 32 → s < 2 ^ n → zpc ((2 ^ n - 1) ^^^ s) + zpc s = n := by decide +kernel
theorem pz_cnt {n s : Nat} (h5 : n ≤ 5) (hs : s < 2 ^ n) : mcn (fun i => i < n ∧ ¬ s.testBit i = true) + zpc s = n := by
  have s32 : s < 32 := Nat.lt_of_lt_of_le hs (zp2 (n := 5) h5)
  have t32 : (2 ^ n - 1) ^^^ s < 32 := by
    have : 2 ^ n ≤ 32 := zp2 (n := 5) h5
    exact Nat.xor_lt_two_pow (n := 5) (by omega) s32
  have e : mcn (fun i => i < n ∧ ¬ s.testBit i = true) = zpc ((2 ^ n - 1) ^^^ s) := by
    rw [zpc_mcn _ t32]
    refine mcn_cg fun i hi => ?_
    rw [Nat.testBit_xor, Nat.testBit_two_pow_sub_one]
    by_cases q : i < n
    · cases s.testBit i <;> simp [q]
    · have : s.testBit i = false := Nat.testBit_lt_two_pow (Nat.lt_of_lt_of_le hs (Nat.pow_le_pow_right (by decide) (by omega)))
      simp [q, this]
  rw [e]
  exact pz_sum n (by omega) s s32 hs
theorem cSc_2le (h7 : nP ≤ 7) (h5 : nA ≤ 5) (hs : ∃ m, m < 2 ^ nA ∧ F 7 5 = nI m) (h : cSc nP nS nA nC F p 2 x) (hy : cHo nP nS nA nC nT F 2 y) : ¬ y < x := by
  obtain ⟨m, k, a1, a2, rfl, ⟨U, ⟨g, hU⟩, hk⟩, -⟩ := cSc_2 h
  obtain ⟨s, hs, es⟩ := hs
  have s32 : s < 32 := Nat.lt_of_lt_of_le hs (zp2 (n := 5) h5)
  obtain ⟨z1, z2⟩ := pz_well nA (by omega) s s32 hs
  have ey : y = nI (nA - zpc s) := by
    rcases hy with ⟨w, _⟩ | ⟨w, _⟩ | ⟨_, q⟩ | ⟨w, _⟩ | ⟨w, _⟩ | ⟨w, _⟩ | ⟨w, _⟩ | ⟨w, _⟩ | ⟨w, _⟩ | ⟨w, _⟩ | ⟨w, _⟩ | ⟨w, _⟩ | ⟨w, _⟩ | ⟨w, _⟩
    · exact absurd w (by decide)
    · exact absurd w (by decide)
    · rw [q, es, z1]
    all_goals exact absurd w (by decide)
  have b1 : mcn U ≤ mcn (fun i => i < nA ∧ ¬ s.testBit i = true) := mcn_le fun i _ hi => by
    obtain ⟨-, -, w1, w2, -⟩ := (hU i hi).1
    refine ⟨w1, fun z => w2 ?_⟩
    rw [es]
    exact (zIn_nat (by omega) (by omega)).mpr z
  have b2 : mcn (fun i => i < nA ∧ ¬ s.testBit i = true) + zpc s = nA := pz_cnt h5 hs
  rw [ey]
  have k5 := mcn_top U
  exact fun z => by
    have := (nI_ltI (by omega) (by omega)).mp z
    omega
end PSC
