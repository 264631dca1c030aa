/-! ===== there is a best cast ===== -/
theorem mFirst_ex {pm cl : Nat → Nat → Prop} (hs : ∀ p q, cl p q → cl q p) : ∀ (T : List Nat), T.Nodup → ∀ (R : Nat → Nat → Prop) (k : Nat) (g : Nat → Nat), mExt pm cl T R k g → ∃ h, mFirst pm cl T R k h := by
  intro T
  induction T with
  | nil => exact fun _ R k g _ => ⟨g, mFirst_nil⟩
  | cons p T ih =>
    intro hd R k g hg
    obtain ⟨hp, hT⟩ := List.nodup_cons.mp hd
    have g0 := (mExt_cons hs hp).mp hg
    have key : ∀ n i : Nat, n = g p - i → i ≤ g p → mNo pm cl T R k p i → ∃ h, mFirst pm cl (p :: T) R k h := by
      intro n
      induction n with
      | zero =>
        intro i hn hi hno
        obtain rfl : i = g p := by omega
        obtain ⟨h', hh⟩ := ih hT _ _ g g0.2.2.2.2
        exact ⟨_, mFirst_cons hs hp g0.1 hno g0.2.1 g0.2.2.1 g0.2.2.2.1 hh⟩
      | succ n ihn =>
        intro i hn hi hno
        rcases Classical.em (pm i p ∧ (∀ q, R i q → ¬ cl p q) ∧ mFr R i ≤ k ∧ ∃ g', mExt pm cl T (mAdd R i p) (k - mFr R i) g') with c | c
        · obtain ⟨c1, c2, c3, g', hg'⟩ := c
          obtain ⟨h', hh⟩ := ih hT _ _ g' hg'
          have := g0.1
          exact ⟨_, mFirst_cons hs hp (by omega) hno c1 c2 c3 hh⟩
        · exact ihn (i + 1) (by omega) (by omega) (mNo_s hs hp hno c)
    exact key _ 0 rfl (Nat.zero_le _) mNo_0
theorem mBst_ex {pm cl : Nat → Nat → Prop} {D : Nat → Prop} (hs : ∀ p q, cl p q → cl q p) (hD : ∀ p, D p → p < 7) : ∃ b h, mBst pm cl D b h := by
  rcases Classical.em (mFit pm cl D 5) with e | e
  · have low : ∀ n, mFit pm cl D n → ∃ k, k ≤ n ∧ mFit pm cl D k ∧ ∀ j, j < k → ¬ mFit pm cl D j := by
      intro n
      induction n using Nat.strongRecOn with
      | ind n ih =>
        intro hn
        rcases Classical.em (∃ j, j < n ∧ mFit pm cl D j) with ⟨j, hj, fj⟩ | no
        · obtain ⟨k, a, b, c⟩ := ih j hj fj
          exact ⟨k, by omega, b, c⟩
        · exact ⟨n, Nat.le_refl _, hn, fun j hj fj => no ⟨j, hj, fj⟩⟩
    obtain ⟨k, a, b, c⟩ := low 5 e
    obtain ⟨g, hg⟩ := (mFit_ext fun p => (dL_mem 7 0 p).trans ⟨fun q => q.2.2, fun q => ⟨Nat.zero_le _, by have := hD p q; omega, q⟩⟩).mpr b
    obtain ⟨h, hh⟩ := mFirst_ex hs _ (dL_nodup 7 0) _ _ g hg
    exact ⟨nI k, h, Or.inr ⟨k, a, rfl, c, hh⟩⟩
  · exact ⟨-1, fun _ => 0, Or.inl ⟨rfl, e⟩⟩
theorem rBs_ex {N : Nat → Nat} {G : Nat → Nat → Int32} : ∃ b h, rBs N G b h := mBst_ex (fun _ _ h => h.symm) (fun _ h => h.1)
