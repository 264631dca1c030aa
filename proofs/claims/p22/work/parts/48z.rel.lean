/-! ===== class and reference side by side ===== -/
/-- the class's place k j tells what the reference's place k' j' tells -/
def zPr (N : Nat → Nat) (k j k' j' : Nat) : Prop := (k = 0 ∧ j = 8 ∧ k' = 0 ∧ j' = 9) ∨ (2 ≤ k ∧ k ≤ 4 ∧ j < N 0 ∧ k' = 14 + j ∧ j' = k - 2) ∨ (8 ≤ k ∧ k ≤ 10 ∧ j < N 1 ∧ k' = 21 + j ∧ j' = k - 8) ∨ (5 ≤ k ∧ k ≤ 6 ∧ j < N 2 ∧ k' = 26 + j ∧ j' = k - 5) ∨ (19 ≤ k ∧ k ≤ 21 ∧ j < N 3 ∧ k' = 32 + j ∧ j' = k - 19) ∨ (24 ≤ k ∧ k ≤ 25 ∧ j < N 4 ∧ k' = 38 + j ∧ j' = k - 24)
def zBi (n : Nat) (x : Int32) (P : Nat → Prop) : Prop := ∃ m, m < 2 ^ n ∧ x = nI m ∧ ∀ p, p < n → (m.testBit p = true ↔ P p)
abbrev zSk (N : Nat → Nat) (F G : Nat → Nat → Int32) : Prop := zBi (N 1) (F 7 5) (fun p => G (21 + p) 3 = nI 1)
def zFe (N : Nat → Nat) (F G : Nat → Nat → Int32) : Prop := (∀ k j k' j', zPr N k j k' j' → F k j = G k' j') ∧ zSk N F G
/-- what the numbers of voices keep to -/
def zVo (N : Nat → Nat) (F : Nat → Nat → Int32) : Prop := (∀ p, p < N 0 → ∃ v, v < 4 ∧ F 2 p = nI v) ∧ ∀ i, i < N 1 → ∃ w, w < 16 ∧ F 8 i = nI w
def zRl (N : Nat → Nat) (F G : Nat → Nat → Int32) : Prop := cI (N 0) (N 2) (N 1) (N 3) (N 4) F ∧ zFe N F G ∧ zVo N F
theorem zRl0 : zRl (fun _ => 0) (fun _ _ => nI 0) (fun _ _ => nI 0) := ⟨cI0', ⟨fun _ _ _ _ _ => rfl, ⟨0, by decide, rfl, fun p hp => absurd hp (Nat.not_lt_zero p)⟩⟩, ⟨fun p hp => absurd hp (Nat.not_lt_zero p), fun p hp => absurd hp (Nat.not_lt_zero p)⟩⟩
section REL
variable {N N' : Nat → Nat} {F F' G G' : Nat → Nat → Int32} {x b a1 a2 a3 : Int32} {n' : Int64}
theorem zBi.cg {n : Nat} {x : Int32} {P Q : Nat → Prop} (h : zBi n x P) (e : ∀ p, p < n → (P p ↔ Q p)) : zBi n x Q := by
  obtain ⟨m, a, b, c⟩ := h
  exact ⟨m, a, b, fun p hp => (c p hp).trans (e p hp)⟩
theorem zFe.mv (b : N 0 ≤ 7 ∧ N 2 ≤ 6 ∧ N 1 ≤ 5 ∧ N 3 ≤ 6 ∧ N 4 ≤ 5) (h : zFe N F G) (hc : cM F F') (hr : rM G G') : zFe N F' G' := by
  obtain ⟨b0, b2, b1, b3, b4⟩ := b
  refine ⟨fun k j k' j' q => ?_, ?_⟩
  · rcases (show (k = 0 ∧ j = 8 ∧ k' = 0 ∧ j' = 9) ∨ (2 ≤ k ∧ k ≤ 4 ∧ j < N 0 ∧ k' = 14 + j ∧ j' = k - 2) ∨ (8 ≤ k ∧ k ≤ 10 ∧ j < N 1 ∧ k' = 21 + j ∧ j' = k - 8) ∨ (5 ≤ k ∧ k ≤ 6 ∧ j < N 2 ∧ k' = 26 + j ∧ j' = k - 5) ∨ (19 ≤ k ∧ k ≤ 21 ∧ j < N 3 ∧ k' = 32 + j ∧ j' = k - 19) ∨ (24 ≤ k ∧ k ≤ 25 ∧ j < N 4 ∧ k' = 38 + j ∧ j' = k - 24) from q) with ⟨rfl, rfl, rfl, rfl⟩ | ⟨lo, hi, hj, rfl, rfl⟩ | ⟨lo, hi, hj, rfl, rfl⟩ | ⟨lo, hi, hj, rfl, rfl⟩ | ⟨lo, hi, hj, rfl, rfl⟩ | ⟨lo, hi, hj, rfl, rfl⟩
    · rw [hc _ _ (rfl), hr _ _ (Or.inr (Or.inr (Or.inr (Or.inr (Or.inr ⟨rfl, rfl⟩)))))]
      exact h.1 _ _ _ _ (Or.inl ⟨rfl, rfl, rfl, rfl⟩)
    · rw [hc _ _ (decide_eq_true (Or.inl ⟨by omega, by omega⟩)), hr _ _ (Or.inl ⟨by omega, by omega⟩)]
      exact h.1 _ _ _ _ (Or.inr (Or.inl ⟨lo, hi, by omega, rfl, rfl⟩))
    · rw [hc _ _ (decide_eq_true (Or.inr (Or.inl ⟨by omega, by omega⟩))), hr _ _ (Or.inr (Or.inl ⟨by omega, by omega, by omega⟩))]
      exact h.1 _ _ _ _ (Or.inr (Or.inr (Or.inl ⟨lo, hi, by omega, rfl, rfl⟩)))
    · rw [hc _ _ (decide_eq_true (Or.inl ⟨by omega, by omega⟩)), hr _ _ (Or.inr (Or.inr (Or.inl ⟨by omega, by omega⟩)))]
      exact h.1 _ _ _ _ (Or.inr (Or.inr (Or.inr (Or.inl ⟨lo, hi, by omega, rfl, rfl⟩))))
    · rw [hc _ _ (decide_eq_true (Or.inr (Or.inr (Or.inl ⟨by omega, by omega⟩)))), hr _ _ (Or.inr (Or.inr (Or.inr (Or.inl ⟨by omega, by omega, by omega⟩))))]
      exact h.1 _ _ _ _ (Or.inr (Or.inr (Or.inr (Or.inr (Or.inl ⟨lo, hi, by omega, rfl, rfl⟩)))))
    · rw [hc _ _ (decide_eq_true (Or.inr (Or.inr (Or.inr ((show k = 24 ∨ k = 25 by omega).elim Or.inl (fun z => Or.inr (Or.inl z))))))), hr _ _ (Or.inr (Or.inr (Or.inr (Or.inr (Or.inl ⟨by omega, by omega, by omega⟩)))))]
      exact h.1 _ _ _ _ (Or.inr (Or.inr (Or.inr (Or.inr (Or.inr (⟨lo, hi, by omega, rfl, rfl⟩))))))
  · have z := h.2
    unfold zSk at z ⊢
    rw [hc 7 5 (rfl)]
    exact z.cg fun p hp => by rw [hr (21 + p) 3 (Or.inr (Or.inl ⟨by omega, by omega, by omega⟩))]
theorem zVo.mv (h : zVo N F) (hc : cM F F') : zVo N F' := ⟨fun p hp => by rw [hc 2 p (decide_eq_true (by omega))]; exact h.1 p hp, fun i hi => by rw [hc 8 i (decide_eq_true (by omega))]; exact h.2 i hi⟩
theorem zRl.mv (h : zRl N F G) (hc : cM F F') (hr : rM G G') : zRl N F' G' := ⟨h.1.mvM hc, h.2.1.mv h.1.bnd hc hr, h.2.2.mv hc⟩
theorem zlt_zin {n : Nat} (hn : 0 < n) {a : Int32} : zlt n a ↔ zin 0 (n - 1) a := ⟨fun ⟨j, e, h⟩ => ⟨j, e, Nat.zero_le _, by omega⟩, fun ⟨j, e, _, h⟩ => ⟨j, e, by omega⟩⟩
theorem zsc {n : Nat} (hn : n ≤ 7) : (zlt (2 ^ n) a1 ∧ zin 1 127 a1 ∧ zin 0 9 a2) ↔ (zin 1 (2 ^ n - 1) a1 ∧ zin 0 9 a2) := by
  have h128 : 2 ^ n ≤ 128 := zp2 (n := 7) hn
  constructor
  · rintro ⟨⟨j, rfl, hj⟩, h1, h2⟩
    obtain ⟨q1, q2⟩ := zin_nI h1 (by omega) (by omega)
    exact ⟨⟨j, rfl, q1, by omega⟩, h2⟩
  · rintro ⟨⟨j, rfl, h1, h3⟩, h2⟩
    exact ⟨⟨j, rfl, by omega⟩, ⟨j, rfl, h1, by omega⟩, h2⟩
theorem ab_part (h : zRl N F G) (hc : zR2 x (zin 0 3 a1 ∧ zin 0 3 a2 ∧ zin 0 9 a3) (N 0 < 7) (cM F F') (n' = (nI (N 0)).toInt64 ∧ cI (N 0 + 1) (N 2) (N 1) (N 3) (N 4) F' ∧ cM (fset (fset (fset (fset F 2 (N 0) a1) 3 (N 0) a2) 4 (N 0) a3) 1 5 (nI (N 0 + 1))) F')) (hr : rAddR 0 7 14 (zin 0 3 a1 ∧ zin 0 3 a2 ∧ zin 0 9 a3) (fun fe => fe 0 = a1 ∧ fe 1 = a2 ∧ fe 2 = a3) N G b N' G') : zRl N' F' G' ∧ x = G' 0 0 ∧ (x = nI 0 → n' = b.toInt64) := by
  obtain ⟨hx, h9⟩ := zR2.both hc hr Iff.rfl Iff.rfl
  rcases h9 with ⟨n0, p, rfl, q⟩ | ⟨rfl, g9, hlt, ⟨rfl, hI, hz⟩, rfl, rfl, md, fe, ⟨f0, f1, f2⟩, hm⟩
  · exact ⟨h.mv p q, hx, fun e => absurd e n0⟩
  · obtain ⟨c0, c2, c1, c3, c4⟩ := h.1.bnd
    obtain ⟨m, hm1, hm2, hm3⟩ := h.2.1.2
    have hfe : zFe (zNN N 0) (fset (fset (fset (fset F 2 (N 0) a1) 3 (N 0) a2) 4 (N 0) a3) 1 5 (nI (N 0 + 1))) (frow (fset G 1 0 md) (14 + N 0) fe) := by
      refine ⟨fun k j k' j' q => ?_, ?_⟩
      · rcases (show (k = 0 ∧ j = 8 ∧ k' = 0 ∧ j' = 9) ∨ (2 ≤ k ∧ k ≤ 4 ∧ j < N 0 + 1 ∧ k' = 14 + j ∧ j' = k - 2) ∨ (8 ≤ k ∧ k ≤ 10 ∧ j < N 1 ∧ k' = 21 + j ∧ j' = k - 8) ∨ (5 ≤ k ∧ k ≤ 6 ∧ j < N 2 ∧ k' = 26 + j ∧ j' = k - 5) ∨ (19 ≤ k ∧ k ≤ 21 ∧ j < N 3 ∧ k' = 32 + j ∧ j' = k - 19) ∨ (24 ≤ k ∧ k ≤ 25 ∧ j < N 4 ∧ k' = 38 + j ∧ j' = k - 24) from q) with ⟨rfl, rfl, rfl, rfl⟩ | ⟨lo, hi, hj, rfl, rfl⟩ | ⟨lo, hi, hj, rfl, rfl⟩ | ⟨lo, hi, hj, rfl, rfl⟩ | ⟨lo, hi, hj, rfl, rfl⟩ | ⟨lo, hi, hj, rfl, rfl⟩
        · rw [fset_ne (by omega), fset_ne (by omega), fset_ne (by omega), fset_ne (by omega), frow_ne (by omega), fset_ne (by omega)]
          exact h.2.1.1 _ _ _ _ (Or.inl ⟨rfl, rfl, rfl, rfl⟩)
        · by_cases e : j = N 0
          · subst e
            rcases (show k = 2 ∨ k = 3 ∨ k = 4 by omega) with rfl | rfl | rfl
            · repeat first | rw [fset_eq] | rw [fset_ne (by omega)] | rw [frow_eq] | rw [frow_ne (by omega)]
              exact f0.symm
            · repeat first | rw [fset_eq] | rw [fset_ne (by omega)] | rw [frow_eq] | rw [frow_ne (by omega)]
              exact f1.symm
            · repeat first | rw [fset_eq] | rw [fset_ne (by omega)] | rw [frow_eq] | rw [frow_ne (by omega)]
              exact f2.symm
          · rw [fset_ne (by omega), fset_ne (by omega), fset_ne (by omega), fset_ne (by omega), frow_ne (by omega), fset_ne (by omega)]
            exact h.2.1.1 _ _ _ _ (Or.inr (Or.inl ⟨lo, hi, by omega, rfl, rfl⟩))
        · rw [fset_ne (by omega), fset_ne (by omega), fset_ne (by omega), fset_ne (by omega), frow_ne (by omega), fset_ne (by omega)]
          exact h.2.1.1 _ _ _ _ (Or.inr (Or.inr (Or.inl ⟨lo, hi, by omega, rfl, rfl⟩)))
        · rw [fset_ne (by omega), fset_ne (by omega), fset_ne (by omega), fset_ne (by omega), frow_ne (by omega), fset_ne (by omega)]
          exact h.2.1.1 _ _ _ _ (Or.inr (Or.inr (Or.inr (Or.inl ⟨lo, hi, by omega, rfl, rfl⟩))))
        · rw [fset_ne (by omega), fset_ne (by omega), fset_ne (by omega), fset_ne (by omega), frow_ne (by omega), fset_ne (by omega)]
          exact h.2.1.1 _ _ _ _ (Or.inr (Or.inr (Or.inr (Or.inr (Or.inl ⟨lo, hi, by omega, rfl, rfl⟩)))))
        · rw [fset_ne (by omega), fset_ne (by omega), fset_ne (by omega), fset_ne (by omega), frow_ne (by omega), fset_ne (by omega)]
          exact h.2.1.1 _ _ _ _ (Or.inr (Or.inr (Or.inr (Or.inr (Or.inr (⟨lo, hi, by omega, rfl, rfl⟩))))))
      · refine ⟨m, hm1, ?_, fun p hp => ?_⟩
        · repeat first | rw [fset_eq] | rw [fset_ne (by omega)] | rw [frow_eq] | rw [frow_ne (by omega)]
          exact hm2
        · have hp : p < N 1 := hp
          dsimp only
          repeat first | rw [fset_eq] | rw [fset_ne (by omega)] | rw [frow_eq] | rw [frow_ne (by omega)]
          exact hm3 p hp
    have hvo : zVo (zNN N 0) (fset (fset (fset (fset F 2 (N 0) a1) 3 (N 0) a2) 4 (N 0) a3) 1 5 (nI (N 0 + 1))) := by
      refine ⟨fun p hp => ?_, fun p hp => ?_⟩
      · have hp : p < N 0 + 1 := hp
        by_cases e : p = N 0
        · subst e
          obtain ⟨j, rfl, -, hj⟩ := g9.1
          refine ⟨j, by omega, ?_⟩
          repeat first | rw [fset_eq] | rw [fset_ne (by omega)] | rw [frow_eq] | rw [frow_ne (by omega)]
        · repeat first | rw [fset_eq] | rw [fset_ne (by omega)] | rw [frow_eq] | rw [frow_ne (by omega)]
          exact h.2.2.1 p (by omega)
      · have hp : p < N 1 := hp
        repeat first | rw [fset_eq] | rw [fset_ne (by omega)] | rw [frow_eq] | rw [frow_ne (by omega)]
        exact h.2.2.2 p hp
    exact ⟨⟨hI, zFe.mv (N := zNN N 0) hI.bnd hfe hz hm, zVo.mv (N := zNN N 0) hvo hz⟩, hx, fun _ => rfl⟩
theorem ab_player (h : zRl N F G) (hc : zR2 x (zlt (2 ^ 4) a1 ∧ zin 1 9 a2 ∧ zin 1 5 a3) (N 1 < 5) (cM F F') (n' = (nI (N 1)).toInt64 ∧ cI (N 0) (N 2) (N 1 + 1) (N 3) (N 4) F' ∧ cM (fset (fset (fset (fset F 8 (N 1) a1) 9 (N 1) a2) 10 (N 1) a3) 7 4 (nI (N 1 + 1))) F')) (hr : rAddR 1 5 21 (zin 0 15 a1 ∧ zin 1 9 a2 ∧ zin 1 5 a3) (fun fe => fe 0 = a1 ∧ fe 1 = a2 ∧ fe 2 = a3 ∧ fe 3 = nI 0 ∧ fe 4 = nI 0) N G b N' G') : zRl N' F' G' ∧ x = G' 0 0 ∧ (x = nI 0 → n' = b.toInt64) := by
  obtain ⟨hx, h9⟩ := zR2.both hc hr (and_congr (zlt_zin (n := 2 ^ 4) (by decide)) Iff.rfl) Iff.rfl
  rcases h9 with ⟨n0, p, rfl, q⟩ | ⟨rfl, g9, hlt, ⟨rfl, hI, hz⟩, rfl, rfl, md, fe, ⟨f0, f1, f2, f3, f4⟩, hm⟩
  · exact ⟨h.mv p q, hx, fun e => absurd e n0⟩
  · obtain ⟨c0, c2, c1, c3, c4⟩ := h.1.bnd
    obtain ⟨m, hm1, hm2, hm3⟩ := h.2.1.2
    have hfe : zFe (zNN N 1) (fset (fset (fset (fset F 8 (N 1) a1) 9 (N 1) a2) 10 (N 1) a3) 7 4 (nI (N 1 + 1))) (frow (fset G 2 0 md) (21 + N 1) fe) := by
      refine ⟨fun k j k' j' q => ?_, ?_⟩
      · rcases (show (k = 0 ∧ j = 8 ∧ k' = 0 ∧ j' = 9) ∨ (2 ≤ k ∧ k ≤ 4 ∧ j < N 0 ∧ k' = 14 + j ∧ j' = k - 2) ∨ (8 ≤ k ∧ k ≤ 10 ∧ j < N 1 + 1 ∧ k' = 21 + j ∧ j' = k - 8) ∨ (5 ≤ k ∧ k ≤ 6 ∧ j < N 2 ∧ k' = 26 + j ∧ j' = k - 5) ∨ (19 ≤ k ∧ k ≤ 21 ∧ j < N 3 ∧ k' = 32 + j ∧ j' = k - 19) ∨ (24 ≤ k ∧ k ≤ 25 ∧ j < N 4 ∧ k' = 38 + j ∧ j' = k - 24) from q) with ⟨rfl, rfl, rfl, rfl⟩ | ⟨lo, hi, hj, rfl, rfl⟩ | ⟨lo, hi, hj, rfl, rfl⟩ | ⟨lo, hi, hj, rfl, rfl⟩ | ⟨lo, hi, hj, rfl, rfl⟩ | ⟨lo, hi, hj, rfl, rfl⟩
        · rw [fset_ne (by omega), fset_ne (by omega), fset_ne (by omega), fset_ne (by omega), frow_ne (by omega), fset_ne (by omega)]
          exact h.2.1.1 _ _ _ _ (Or.inl ⟨rfl, rfl, rfl, rfl⟩)
        · rw [fset_ne (by omega), fset_ne (by omega), fset_ne (by omega), fset_ne (by omega), frow_ne (by omega), fset_ne (by omega)]
          exact h.2.1.1 _ _ _ _ (Or.inr (Or.inl ⟨lo, hi, by omega, rfl, rfl⟩))
        · by_cases e : j = N 1
          · subst e
            rcases (show k = 8 ∨ k = 9 ∨ k = 10 by omega) with rfl | rfl | rfl
            · repeat first | rw [fset_eq] | rw [fset_ne (by omega)] | rw [frow_eq] | rw [frow_ne (by omega)]
              exact f0.symm
            · repeat first | rw [fset_eq] | rw [fset_ne (by omega)] | rw [frow_eq] | rw [frow_ne (by omega)]
              exact f1.symm
            · repeat first | rw [fset_eq] | rw [fset_ne (by omega)] | rw [frow_eq] | rw [frow_ne (by omega)]
              exact f2.symm
          · rw [fset_ne (by omega), fset_ne (by omega), fset_ne (by omega), fset_ne (by omega), frow_ne (by omega), fset_ne (by omega)]
            exact h.2.1.1 _ _ _ _ (Or.inr (Or.inr (Or.inl ⟨lo, hi, by omega, rfl, rfl⟩)))
        · rw [fset_ne (by omega), fset_ne (by omega), fset_ne (by omega), fset_ne (by omega), frow_ne (by omega), fset_ne (by omega)]
          exact h.2.1.1 _ _ _ _ (Or.inr (Or.inr (Or.inr (Or.inl ⟨lo, hi, by omega, rfl, rfl⟩))))
        · rw [fset_ne (by omega), fset_ne (by omega), fset_ne (by omega), fset_ne (by omega), frow_ne (by omega), fset_ne (by omega)]
          exact h.2.1.1 _ _ _ _ (Or.inr (Or.inr (Or.inr (Or.inr (Or.inl ⟨lo, hi, by omega, rfl, rfl⟩)))))
        · rw [fset_ne (by omega), fset_ne (by omega), fset_ne (by omega), fset_ne (by omega), frow_ne (by omega), fset_ne (by omega)]
          exact h.2.1.1 _ _ _ _ (Or.inr (Or.inr (Or.inr (Or.inr (Or.inr (⟨lo, hi, by omega, rfl, rfl⟩))))))
      · refine ⟨m, Nat.lt_of_lt_of_le hm1 (Nat.pow_le_pow_right (by decide) (Nat.le_succ _)), ?_, fun p hp => ?_⟩
        · repeat first | rw [fset_eq] | rw [fset_ne (by omega)] | rw [frow_eq] | rw [frow_ne (by omega)]
          exact hm2
        · have hp : p < N 1 + 1 := hp
          dsimp only
          by_cases e : p = N 1
          · subst e
            rw [frow_eq, f3, Nat.testBit_lt_two_pow hm1]
            decide
          · repeat first | rw [fset_eq] | rw [fset_ne (by omega)] | rw [frow_eq] | rw [frow_ne (by omega)]
            exact hm3 p (by omega)
    have hvo : zVo (zNN N 1) (fset (fset (fset (fset F 8 (N 1) a1) 9 (N 1) a2) 10 (N 1) a3) 7 4 (nI (N 1 + 1))) := by
      refine ⟨fun p hp => ?_, fun p hp => ?_⟩
      · have hp : p < N 0 := hp
        repeat first | rw [fset_eq] | rw [fset_ne (by omega)] | rw [frow_eq] | rw [frow_ne (by omega)]
        exact h.2.2.1 p hp
      · have hp : p < N 1 + 1 := hp
        by_cases e : p = N 1
        · subst e
          obtain ⟨j, rfl, hj⟩ := g9.1
          refine ⟨j, by omega, ?_⟩
          repeat first | rw [fset_eq] | rw [fset_ne (by omega)] | rw [frow_eq] | rw [frow_ne (by omega)]
        · repeat first | rw [fset_eq] | rw [fset_ne (by omega)] | rw [frow_eq] | rw [frow_ne (by omega)]
          exact h.2.2.2 p (by omega)
    exact ⟨⟨hI, zFe.mv (N := zNN N 1) hI.bnd hfe hz hm, zVo.mv (N := zNN N 1) hvo hz⟩, hx, fun _ => rfl⟩
theorem ab_scene (h : zRl N F G) (hc : zR2 x (zlt (2 ^ N 0) a1 ∧ zin 1 127 a1 ∧ zin 0 9 a2) (N 2 < 6) (cM F F') (n' = (nI (N 2)).toInt64 ∧ cI (N 0) (N 2 + 1) (N 1) (N 3) (N 4) F' ∧ cM (fset (fset (fset F 5 (N 2) a1) 6 (N 2) a2) 1 6 (nI (N 2 + 1))) F')) (hr : rAddR 2 6 26 (zin 1 (2 ^ N 0 - 1) a1 ∧ zin 0 9 a2) (fun fe => fe 0 = a1 ∧ fe 1 = a2) N G b N' G') : zRl N' F' G' ∧ x = G' 0 0 ∧ (x = nI 0 → n' = b.toInt64) := by
  obtain ⟨hx, h9⟩ := zR2.both hc hr (zsc h.1.bnd.1) Iff.rfl
  rcases h9 with ⟨n0, p, rfl, q⟩ | ⟨rfl, g9, hlt, ⟨rfl, hI, hz⟩, rfl, rfl, md, fe, ⟨f0, f1⟩, hm⟩
  · exact ⟨h.mv p q, hx, fun e => absurd e n0⟩
  · obtain ⟨c0, c2, c1, c3, c4⟩ := h.1.bnd
    obtain ⟨m, hm1, hm2, hm3⟩ := h.2.1.2
    have hfe : zFe (zNN N 2) (fset (fset (fset F 5 (N 2) a1) 6 (N 2) a2) 1 6 (nI (N 2 + 1))) (frow (fset G 3 0 md) (26 + N 2) fe) := by
      refine ⟨fun k j k' j' q => ?_, ?_⟩
      · rcases (show (k = 0 ∧ j = 8 ∧ k' = 0 ∧ j' = 9) ∨ (2 ≤ k ∧ k ≤ 4 ∧ j < N 0 ∧ k' = 14 + j ∧ j' = k - 2) ∨ (8 ≤ k ∧ k ≤ 10 ∧ j < N 1 ∧ k' = 21 + j ∧ j' = k - 8) ∨ (5 ≤ k ∧ k ≤ 6 ∧ j < N 2 + 1 ∧ k' = 26 + j ∧ j' = k - 5) ∨ (19 ≤ k ∧ k ≤ 21 ∧ j < N 3 ∧ k' = 32 + j ∧ j' = k - 19) ∨ (24 ≤ k ∧ k ≤ 25 ∧ j < N 4 ∧ k' = 38 + j ∧ j' = k - 24) from q) with ⟨rfl, rfl, rfl, rfl⟩ | ⟨lo, hi, hj, rfl, rfl⟩ | ⟨lo, hi, hj, rfl, rfl⟩ | ⟨lo, hi, hj, rfl, rfl⟩ | ⟨lo, hi, hj, rfl, rfl⟩ | ⟨lo, hi, hj, rfl, rfl⟩
        · rw [fset_ne (by omega), fset_ne (by omega), fset_ne (by omega), frow_ne (by omega), fset_ne (by omega)]
          exact h.2.1.1 _ _ _ _ (Or.inl ⟨rfl, rfl, rfl, rfl⟩)
        · rw [fset_ne (by omega), fset_ne (by omega), fset_ne (by omega), frow_ne (by omega), fset_ne (by omega)]
          exact h.2.1.1 _ _ _ _ (Or.inr (Or.inl ⟨lo, hi, by omega, rfl, rfl⟩))
        · rw [fset_ne (by omega), fset_ne (by omega), fset_ne (by omega), frow_ne (by omega), fset_ne (by omega)]
          exact h.2.1.1 _ _ _ _ (Or.inr (Or.inr (Or.inl ⟨lo, hi, by omega, rfl, rfl⟩)))
        · by_cases e : j = N 2
          · subst e
            rcases (show k = 5 ∨ k = 6 by omega) with rfl | rfl
            · repeat first | rw [fset_eq] | rw [fset_ne (by omega)] | rw [frow_eq] | rw [frow_ne (by omega)]
              exact f0.symm
            · repeat first | rw [fset_eq] | rw [fset_ne (by omega)] | rw [frow_eq] | rw [frow_ne (by omega)]
              exact f1.symm
          · rw [fset_ne (by omega), fset_ne (by omega), fset_ne (by omega), frow_ne (by omega), fset_ne (by omega)]
            exact h.2.1.1 _ _ _ _ (Or.inr (Or.inr (Or.inr (Or.inl ⟨lo, hi, by omega, rfl, rfl⟩))))
        · rw [fset_ne (by omega), fset_ne (by omega), fset_ne (by omega), frow_ne (by omega), fset_ne (by omega)]
          exact h.2.1.1 _ _ _ _ (Or.inr (Or.inr (Or.inr (Or.inr (Or.inl ⟨lo, hi, by omega, rfl, rfl⟩)))))
        · rw [fset_ne (by omega), fset_ne (by omega), fset_ne (by omega), frow_ne (by omega), fset_ne (by omega)]
          exact h.2.1.1 _ _ _ _ (Or.inr (Or.inr (Or.inr (Or.inr (Or.inr (⟨lo, hi, by omega, rfl, rfl⟩))))))
      · refine ⟨m, hm1, ?_, fun p hp => ?_⟩
        · repeat first | rw [fset_eq] | rw [fset_ne (by omega)] | rw [frow_eq] | rw [frow_ne (by omega)]
          exact hm2
        · have hp : p < N 1 := hp
          dsimp only
          repeat first | rw [fset_eq] | rw [fset_ne (by omega)] | rw [frow_eq] | rw [frow_ne (by omega)]
          exact hm3 p hp
    have hvo : zVo (zNN N 2) (fset (fset (fset F 5 (N 2) a1) 6 (N 2) a2) 1 6 (nI (N 2 + 1))) := by
      refine ⟨fun p hp => ?_, fun p hp => ?_⟩
      · have hp : p < N 0 := hp
        repeat first | rw [fset_eq] | rw [fset_ne (by omega)] | rw [frow_eq] | rw [frow_ne (by omega)]
        exact h.2.2.1 p hp
      · have hp : p < N 1 := hp
        repeat first | rw [fset_eq] | rw [fset_ne (by omega)] | rw [frow_eq] | rw [frow_ne (by omega)]
        exact h.2.2.2 p hp
    exact ⟨⟨hI, zFe.mv (N := zNN N 2) hI.bnd hfe hz hm, zVo.mv (N := zNN N 2) hvo hz⟩, hx, fun _ => rfl⟩
theorem ab_coat (h : zRl N F G) (hc : zR2 x (zin 0 3 a1 ∧ zin 1 9 a2 ∧ zin 1 99 a3) (N 3 < 6) (cM F F') (n' = (nI (N 3)).toInt64 ∧ cI (N 0) (N 2) (N 1) (N 3 + 1) (N 4) F' ∧ cM (fset (fset (fset (fset F 19 (N 3) a1) 20 (N 3) a2) 21 (N 3) a3) 18 3 (nI (N 3 + 1))) F')) (hr : rAddR 3 6 32 (zin 0 3 a1 ∧ zin 1 9 a2 ∧ zin 1 99 a3) (fun fe => fe 0 = a1 ∧ fe 1 = a2 ∧ fe 2 = a3 ∧ fe 3 = nI 0) N G b N' G') : zRl N' F' G' ∧ x = G' 0 0 ∧ (x = nI 0 → n' = b.toInt64) := by
  obtain ⟨hx, h9⟩ := zR2.both hc hr Iff.rfl Iff.rfl
  rcases h9 with ⟨n0, p, rfl, q⟩ | ⟨rfl, g9, hlt, ⟨rfl, hI, hz⟩, rfl, rfl, md, fe, ⟨f0, f1, f2, f3⟩, hm⟩
  · exact ⟨h.mv p q, hx, fun e => absurd e n0⟩
  · obtain ⟨c0, c2, c1, c3, c4⟩ := h.1.bnd
    obtain ⟨m, hm1, hm2, hm3⟩ := h.2.1.2
    have hfe : zFe (zNN N 3) (fset (fset (fset (fset F 19 (N 3) a1) 20 (N 3) a2) 21 (N 3) a3) 18 3 (nI (N 3 + 1))) (frow (fset G 4 0 md) (32 + N 3) fe) := by
      refine ⟨fun k j k' j' q => ?_, ?_⟩
      · rcases (show (k = 0 ∧ j = 8 ∧ k' = 0 ∧ j' = 9) ∨ (2 ≤ k ∧ k ≤ 4 ∧ j < N 0 ∧ k' = 14 + j ∧ j' = k - 2) ∨ (8 ≤ k ∧ k ≤ 10 ∧ j < N 1 ∧ k' = 21 + j ∧ j' = k - 8) ∨ (5 ≤ k ∧ k ≤ 6 ∧ j < N 2 ∧ k' = 26 + j ∧ j' = k - 5) ∨ (19 ≤ k ∧ k ≤ 21 ∧ j < N 3 + 1 ∧ k' = 32 + j ∧ j' = k - 19) ∨ (24 ≤ k ∧ k ≤ 25 ∧ j < N 4 ∧ k' = 38 + j ∧ j' = k - 24) from q) with ⟨rfl, rfl, rfl, rfl⟩ | ⟨lo, hi, hj, rfl, rfl⟩ | ⟨lo, hi, hj, rfl, rfl⟩ | ⟨lo, hi, hj, rfl, rfl⟩ | ⟨lo, hi, hj, rfl, rfl⟩ | ⟨lo, hi, hj, rfl, rfl⟩
        · rw [fset_ne (by omega), fset_ne (by omega), fset_ne (by omega), fset_ne (by omega), frow_ne (by omega), fset_ne (by omega)]
          exact h.2.1.1 _ _ _ _ (Or.inl ⟨rfl, rfl, rfl, rfl⟩)
        · rw [fset_ne (by omega), fset_ne (by omega), fset_ne (by omega), fset_ne (by omega), frow_ne (by omega), fset_ne (by omega)]
          exact h.2.1.1 _ _ _ _ (Or.inr (Or.inl ⟨lo, hi, by omega, rfl, rfl⟩))
        · rw [fset_ne (by omega), fset_ne (by omega), fset_ne (by omega), fset_ne (by omega), frow_ne (by omega), fset_ne (by omega)]
          exact h.2.1.1 _ _ _ _ (Or.inr (Or.inr (Or.inl ⟨lo, hi, by omega, rfl, rfl⟩)))
        · rw [fset_ne (by omega), fset_ne (by omega), fset_ne (by omega), fset_ne (by omega), frow_ne (by omega), fset_ne (by omega)]
          exact h.2.1.1 _ _ _ _ (Or.inr (Or.inr (Or.inr (Or.inl ⟨lo, hi, by omega, rfl, rfl⟩))))
        · by_cases e : j = N 3
          · subst e
            rcases (show k = 19 ∨ k = 20 ∨ k = 21 by omega) with rfl | rfl | rfl
            · repeat first | rw [fset_eq] | rw [fset_ne (by omega)] | rw [frow_eq] | rw [frow_ne (by omega)]
              exact f0.symm
            · repeat first | rw [fset_eq] | rw [fset_ne (by omega)] | rw [frow_eq] | rw [frow_ne (by omega)]
              exact f1.symm
            · repeat first | rw [fset_eq] | rw [fset_ne (by omega)] | rw [frow_eq] | rw [frow_ne (by omega)]
              exact f2.symm
          · rw [fset_ne (by omega), fset_ne (by omega), fset_ne (by omega), fset_ne (by omega), frow_ne (by omega), fset_ne (by omega)]
            exact h.2.1.1 _ _ _ _ (Or.inr (Or.inr (Or.inr (Or.inr (Or.inl ⟨lo, hi, by omega, rfl, rfl⟩)))))
        · rw [fset_ne (by omega), fset_ne (by omega), fset_ne (by omega), fset_ne (by omega), frow_ne (by omega), fset_ne (by omega)]
          exact h.2.1.1 _ _ _ _ (Or.inr (Or.inr (Or.inr (Or.inr (Or.inr (⟨lo, hi, by omega, rfl, rfl⟩))))))
      · refine ⟨m, hm1, ?_, fun p hp => ?_⟩
        · repeat first | rw [fset_eq] | rw [fset_ne (by omega)] | rw [frow_eq] | rw [frow_ne (by omega)]
          exact hm2
        · have hp : p < N 1 := hp
          dsimp only
          repeat first | rw [fset_eq] | rw [fset_ne (by omega)] | rw [frow_eq] | rw [frow_ne (by omega)]
          exact hm3 p hp
    have hvo : zVo (zNN N 3) (fset (fset (fset (fset F 19 (N 3) a1) 20 (N 3) a2) 21 (N 3) a3) 18 3 (nI (N 3 + 1))) := by
      refine ⟨fun p hp => ?_, fun p hp => ?_⟩
      · have hp : p < N 0 := hp
        repeat first | rw [fset_eq] | rw [fset_ne (by omega)] | rw [frow_eq] | rw [frow_ne (by omega)]
        exact h.2.2.1 p hp
      · have hp : p < N 1 := hp
        repeat first | rw [fset_eq] | rw [fset_ne (by omega)] | rw [frow_eq] | rw [frow_ne (by omega)]
        exact h.2.2.2 p hp
    exact ⟨⟨hI, zFe.mv (N := zNN N 3) hI.bnd hfe hz hm, zVo.mv (N := zNN N 3) hvo hz⟩, hx, fun _ => rfl⟩
theorem ab_town (h : zRl N F G) (hc : zR2 x (zin 0 99 a1 ∧ zin 0 99 a2 ∧ zin 0 999 a3) (N 4 < 5) (cM F F') (n' = (nI (N 4)).toInt64 ∧ cI (N 0) (N 2) (N 1) (N 3) (N 4 + 1) F' ∧ cM (fset (fset (fset (fset F 24 (N 4) a1) 25 (N 4) a2) 26 (N 4) a3) 23 4 (nI (N 4 + 1))) F')) (hr : rAddR 4 5 38 (zin 0 99 a1 ∧ zin 0 99 a2 ∧ zin 0 999 a3) (fun fe => fe 0 = a1 ∧ fe 1 = a2 ∧ fe 2 = a3) N G b N' G') : zRl N' F' G' ∧ x = G' 0 0 ∧ (x = nI 0 → n' = b.toInt64) := by
  obtain ⟨hx, h9⟩ := zR2.both hc hr Iff.rfl Iff.rfl
  rcases h9 with ⟨n0, p, rfl, q⟩ | ⟨rfl, g9, hlt, ⟨rfl, hI, hz⟩, rfl, rfl, md, fe, ⟨f0, f1, f2⟩, hm⟩
  · exact ⟨h.mv p q, hx, fun e => absurd e n0⟩
  · obtain ⟨c0, c2, c1, c3, c4⟩ := h.1.bnd
    obtain ⟨m, hm1, hm2, hm3⟩ := h.2.1.2
    have hfe : zFe (zNN N 4) (fset (fset (fset (fset F 24 (N 4) a1) 25 (N 4) a2) 26 (N 4) a3) 23 4 (nI (N 4 + 1))) (frow (fset G 5 0 md) (38 + N 4) fe) := by
      refine ⟨fun k j k' j' q => ?_, ?_⟩
      · rcases (show (k = 0 ∧ j = 8 ∧ k' = 0 ∧ j' = 9) ∨ (2 ≤ k ∧ k ≤ 4 ∧ j < N 0 ∧ k' = 14 + j ∧ j' = k - 2) ∨ (8 ≤ k ∧ k ≤ 10 ∧ j < N 1 ∧ k' = 21 + j ∧ j' = k - 8) ∨ (5 ≤ k ∧ k ≤ 6 ∧ j < N 2 ∧ k' = 26 + j ∧ j' = k - 5) ∨ (19 ≤ k ∧ k ≤ 21 ∧ j < N 3 ∧ k' = 32 + j ∧ j' = k - 19) ∨ (24 ≤ k ∧ k ≤ 25 ∧ j < N 4 + 1 ∧ k' = 38 + j ∧ j' = k - 24) from q) with ⟨rfl, rfl, rfl, rfl⟩ | ⟨lo, hi, hj, rfl, rfl⟩ | ⟨lo, hi, hj, rfl, rfl⟩ | ⟨lo, hi, hj, rfl, rfl⟩ | ⟨lo, hi, hj, rfl, rfl⟩ | ⟨lo, hi, hj, rfl, rfl⟩
        · rw [fset_ne (by omega), fset_ne (by omega), fset_ne (by omega), fset_ne (by omega), frow_ne (by omega), fset_ne (by omega)]
          exact h.2.1.1 _ _ _ _ (Or.inl ⟨rfl, rfl, rfl, rfl⟩)
        · rw [fset_ne (by omega), fset_ne (by omega), fset_ne (by omega), fset_ne (by omega), frow_ne (by omega), fset_ne (by omega)]
          exact h.2.1.1 _ _ _ _ (Or.inr (Or.inl ⟨lo, hi, by omega, rfl, rfl⟩))
        · rw [fset_ne (by omega), fset_ne (by omega), fset_ne (by omega), fset_ne (by omega), frow_ne (by omega), fset_ne (by omega)]
          exact h.2.1.1 _ _ _ _ (Or.inr (Or.inr (Or.inl ⟨lo, hi, by omega, rfl, rfl⟩)))
        · rw [fset_ne (by omega), fset_ne (by omega), fset_ne (by omega), fset_ne (by omega), frow_ne (by omega), fset_ne (by omega)]
          exact h.2.1.1 _ _ _ _ (Or.inr (Or.inr (Or.inr (Or.inl ⟨lo, hi, by omega, rfl, rfl⟩))))
        · rw [fset_ne (by omega), fset_ne (by omega), fset_ne (by omega), fset_ne (by omega), frow_ne (by omega), fset_ne (by omega)]
          exact h.2.1.1 _ _ _ _ (Or.inr (Or.inr (Or.inr (Or.inr (Or.inl ⟨lo, hi, by omega, rfl, rfl⟩)))))
        · by_cases e : j = N 4
          · subst e
            rcases (show k = 24 ∨ k = 25 by omega) with rfl | rfl
            · repeat first | rw [fset_eq] | rw [fset_ne (by omega)] | rw [frow_eq] | rw [frow_ne (by omega)]
              exact f0.symm
            · repeat first | rw [fset_eq] | rw [fset_ne (by omega)] | rw [frow_eq] | rw [frow_ne (by omega)]
              exact f1.symm
          · rw [fset_ne (by omega), fset_ne (by omega), fset_ne (by omega), fset_ne (by omega), frow_ne (by omega), fset_ne (by omega)]
            exact h.2.1.1 _ _ _ _ (Or.inr (Or.inr (Or.inr (Or.inr (Or.inr (⟨lo, hi, by omega, rfl, rfl⟩))))))
      · refine ⟨m, hm1, ?_, fun p hp => ?_⟩
        · repeat first | rw [fset_eq] | rw [fset_ne (by omega)] | rw [frow_eq] | rw [frow_ne (by omega)]
          exact hm2
        · have hp : p < N 1 := hp
          dsimp only
          repeat first | rw [fset_eq] | rw [fset_ne (by omega)] | rw [frow_eq] | rw [frow_ne (by omega)]
          exact hm3 p hp
    have hvo : zVo (zNN N 4) (fset (fset (fset (fset F 24 (N 4) a1) 25 (N 4) a2) 26 (N 4) a3) 23 4 (nI (N 4 + 1))) := by
      refine ⟨fun p hp => ?_, fun p hp => ?_⟩
      · have hp : p < N 0 := hp
        repeat first | rw [fset_eq] | rw [fset_ne (by omega)] | rw [frow_eq] | rw [frow_ne (by omega)]
        exact h.2.2.1 p hp
      · have hp : p < N 1 := hp
        repeat first | rw [fset_eq] | rw [fset_ne (by omega)] | rw [frow_eq] | rw [frow_ne (by omega)]
        exact h.2.2.2 p hp
    exact ⟨⟨hI, zFe.mv (N := zNN N 4) hI.bnd hfe hz hm, zVo.mv (N := zNN N 4) hvo hz⟩, hx, fun _ => rfl⟩
theorem ab_pause (h : zRl N F G) (hc : zR2 x (zlt (N 2) a1) (zin 0 9 a2) (cM F F') (∃ s : Nat, a1 = nI s ∧ s < N 2 ∧ n' = (F 6 s).toInt64 ∧ cM (fset F 6 s a2) F')) (hr : zR2 (G' 0 0) (zlt (N 2) a1) (zin 0 9 a2) (rM G G') (∃ s : Nat, a1 = nI s ∧ s < N 2 ∧ b = G (26 + s) 1 ∧ rM (fset G (26 + s) 1 a2) G')) : zRl N F' G' ∧ x = G' 0 0 ∧ (x = nI 0 → n' = b.toInt64) := by
  obtain ⟨hx, h9⟩ := zR2.both hc hr Iff.rfl Iff.rfl
  obtain ⟨c0, c2, c1, c3, c4⟩ := h.1.bnd
  rcases h9 with ⟨n0, p, q⟩ | ⟨rfl, -, -, ⟨s, es, ls, rfl, hz⟩, s', es', ls', rfl, hm⟩
  · exact ⟨h.mv p q, hx, fun e => absurd e n0⟩
  · have : s' = s := (nI_eq (by omega) (by omega)).mp (es'.symm.trans es)
    subst this
    have hfe : zFe N (fset F 6 s' a2) (fset G (26 + s') 1 a2) := by
      refine ⟨fun k j k' j' q => ?_, ?_⟩
      · rcases (show (k = 0 ∧ j = 8 ∧ k' = 0 ∧ j' = 9) ∨ (2 ≤ k ∧ k ≤ 4 ∧ j < N 0 ∧ k' = 14 + j ∧ j' = k - 2) ∨ (8 ≤ k ∧ k ≤ 10 ∧ j < N 1 ∧ k' = 21 + j ∧ j' = k - 8) ∨ (5 ≤ k ∧ k ≤ 6 ∧ j < N 2 ∧ k' = 26 + j ∧ j' = k - 5) ∨ (19 ≤ k ∧ k ≤ 21 ∧ j < N 3 ∧ k' = 32 + j ∧ j' = k - 19) ∨ (24 ≤ k ∧ k ≤ 25 ∧ j < N 4 ∧ k' = 38 + j ∧ j' = k - 24) from q) with ⟨rfl, rfl, rfl, rfl⟩ | ⟨lo, hi, hj, rfl, rfl⟩ | ⟨lo, hi, hj, rfl, rfl⟩ | ⟨lo, hi, hj, rfl, rfl⟩ | ⟨lo, hi, hj, rfl, rfl⟩ | ⟨lo, hi, hj, rfl, rfl⟩
        · rw [fset_ne (by omega), fset_ne (by omega)]
          exact h.2.1.1 _ _ _ _ (Or.inl ⟨rfl, rfl, rfl, rfl⟩)
        · rw [fset_ne (by omega), fset_ne (by omega)]
          exact h.2.1.1 _ _ _ _ (Or.inr (Or.inl ⟨lo, hi, by omega, rfl, rfl⟩))
        · rw [fset_ne (by omega), fset_ne (by omega)]
          exact h.2.1.1 _ _ _ _ (Or.inr (Or.inr (Or.inl ⟨lo, hi, by omega, rfl, rfl⟩)))
        · by_cases e : k = 6 ∧ j = s'
          · obtain ⟨rfl, rfl⟩ := e
            rw [fset_eq, fset_eq]
          · rw [fset_ne (by omega), fset_ne (by omega)]
            exact h.2.1.1 _ _ _ _ (Or.inr (Or.inr (Or.inr (Or.inl ⟨lo, hi, by omega, rfl, rfl⟩))))
        · rw [fset_ne (by omega), fset_ne (by omega)]
          exact h.2.1.1 _ _ _ _ (Or.inr (Or.inr (Or.inr (Or.inr (Or.inl ⟨lo, hi, by omega, rfl, rfl⟩)))))
        · rw [fset_ne (by omega), fset_ne (by omega)]
          exact h.2.1.1 _ _ _ _ (Or.inr (Or.inr (Or.inr (Or.inr (Or.inr (⟨lo, hi, by omega, rfl, rfl⟩))))))
      · have z := h.2.1.2; unfold zSk at z ⊢; rw [fset_ne (by omega)]; exact z.cg fun p hp => by rw [fset_ne (by omega)]
    have hvo : zVo N (fset F 6 s' a2) := ⟨fun p hp => by rw [fset_ne (by omega)]; exact h.2.2.1 p hp, fun p hp => by rw [fset_ne (by omega)]; exact h.2.2.2 p hp⟩
    refine ⟨⟨(h.1.st (F' := (fset F 6 s' a2)) rfl rfl).mvM hz, zFe.mv h.1.bnd hfe hz hm, hvo.mv hz⟩, hx, fun _ => congrArg Int32.toInt64 (h.2.1.1 6 s' (26 + s') 1 (Or.inr (Or.inr (Or.inr (Or.inl ⟨by omega, by omega, ls, rfl, rfl⟩)))))⟩
/-- how many of the first are not in a set -/
def zwm (m : Nat) : Nat → Nat
  | 0 => 0
  | n + 1 => zwm m n + (if m.testBit n = true then 0 else 1)
theorem zwm_ok : ∀ n, n < 6 → ∀ m, m < 32 → m < 2 ^ n → nI n - zbc (nI m) = nI (zwm m n) := by decide +kernel
theorem zsk_a : ∀ m, m < 64 → ∀ p, p < 6 → zsk (nI m) p 0 = nI (m &&& (63 ^^^ 2 ^ p)) := by decide +kernel
theorem zsk_b : ∀ m, m < 64 → ∀ p, p < 6 → ∀ q, q < 6 → (m &&& (63 ^^^ 2 ^ p)).testBit q = (q != p && m.testBit q) := by decide +kernel
theorem zsk_c : ∀ m, m < 64 → ∀ p, p < 6 → zsk (nI m) p 1 = nI (m ||| 2 ^ p) := by decide +kernel
theorem zsk_d : ∀ m, m < 64 → ∀ p, p < 6 → ∀ q, q < 6 → (m ||| 2 ^ p).testBit q = (q == p || m.testBit q) := by decide +kernel
theorem zwl_m {m : Nat} (n : Nat) (h : ∀ p, p < n → (m.testBit p = true ↔ G (21 + p) 3 = nI 1)) (h01 : ∀ p, p < n → G (21 + p) 3 = 0 ∨ G (21 + p) 3 = 1) : zwl G n = zwm m n := by
  induction n with
  | zero => rfl
  | succ n ih =>
    show zwl G n + _ = zwm m n + _
    rw [ih (fun p hp => h p (by omega)) (fun p hp => h01 p (by omega))]
    have h1 := h n (Nat.lt_succ_self n)
    rcases h01 n (Nat.lt_succ_self n) with e | e
    · rw [if_pos e, if_neg (fun q => by have := h1.mp q; rw [e] at this; exact absurd this (by decide))]
    · rw [if_neg (by rw [e]; decide), if_pos (h1.mpr e)]
/-- a bit is set, or taken away -/
theorem zBi_set {n s : Nat} {y : Int32} {P : Nat → Int32} (hn : n ≤ 6) (h : zBi n y (fun p => P p = nI 1)) (ha2 : a2 = 0 ∨ a2 = 1) (ls : s < n) : zBi n (zsk y s a2) (fun p => (if p = s then a2 else P p) = nI 1) := by
  obtain ⟨m, hm1, hm2, hm3⟩ := h
  have m64 : m < 64 := Nat.lt_of_lt_of_le hm1 (zp2 (n := 6) hn)
  rw [hm2]
  rcases ha2 with rfl | rfl
  · refine ⟨_, Nat.lt_of_le_of_lt Nat.and_le_left hm1, zsk_a m m64 s (by omega), fun p hp => ?_⟩
    have h3 : m.testBit p = true ↔ P p = nI 1 := hm3 p hp
    dsimp only
    rw [zsk_b m m64 s (by omega) p (by omega)]
    by_cases e : p = s
    · rw [if_pos e, e]
      simp
      decide
    · rw [if_neg e, ← h3]
      simp [e]
  · refine ⟨_, zor hm1 ls, zsk_c m m64 s (by omega), fun p hp => ?_⟩
    have h3 : m.testBit p = true ↔ P p = nI 1 := hm3 p hp
    dsimp only
    rw [zsk_d m m64 s (by omega) p (by omega)]
    by_cases e : p = s
    · rw [if_pos e, e]
      simp
      decide
    · rw [if_neg e, ← h3]
      simp [e]
theorem fset_if {G : Nat → Nat → Int32} {c s p : Nat} {v : Int32} : fset G (c + s) 3 v (c + p) 3 = if p = s then v else G (c + p) 3 := by
  by_cases e : p = s
  · rw [if_pos e, e, fset_eq]
  · rw [if_neg e, fset_ne (by omega)]
/-- one falls sick, or is well again -/
theorem zFe_sk {s : Nat} (c : N 0 ≤ 7 ∧ N 2 ≤ 6 ∧ N 1 ≤ 5 ∧ N 3 ≤ 6 ∧ N 4 ≤ 5) (h : zFe N F G) (ha2 : a2 = 0 ∨ a2 = 1) (ls : s < N 1) : zFe N (fset F 7 5 (zsk (F 7 5) s a2)) (fset G (21 + s) 3 a2) := by
  obtain ⟨c0, c2, c1, c3, c4⟩ := c
  refine ⟨fun k j k' j' q => ?_, ?_⟩
  · rcases (show (k = 0 ∧ j = 8 ∧ k' = 0 ∧ j' = 9) ∨ (2 ≤ k ∧ k ≤ 4 ∧ j < N 0 ∧ k' = 14 + j ∧ j' = k - 2) ∨ (8 ≤ k ∧ k ≤ 10 ∧ j < N 1 ∧ k' = 21 + j ∧ j' = k - 8) ∨ (5 ≤ k ∧ k ≤ 6 ∧ j < N 2 ∧ k' = 26 + j ∧ j' = k - 5) ∨ (19 ≤ k ∧ k ≤ 21 ∧ j < N 3 ∧ k' = 32 + j ∧ j' = k - 19) ∨ (24 ≤ k ∧ k ≤ 25 ∧ j < N 4 ∧ k' = 38 + j ∧ j' = k - 24) from q) with ⟨rfl, rfl, rfl, rfl⟩ | ⟨lo, hi, hj, rfl, rfl⟩ | ⟨lo, hi, hj, rfl, rfl⟩ | ⟨lo, hi, hj, rfl, rfl⟩ | ⟨lo, hi, hj, rfl, rfl⟩ | ⟨lo, hi, hj, rfl, rfl⟩
    · rw [fset_ne (by omega), fset_ne (by omega)]
      exact h.1 _ _ _ _ (Or.inl ⟨rfl, rfl, rfl, rfl⟩)
    · rw [fset_ne (by omega), fset_ne (by omega)]
      exact h.1 _ _ _ _ (Or.inr (Or.inl ⟨lo, hi, by omega, rfl, rfl⟩))
    · rw [fset_ne (by omega), fset_ne (by omega)]
      exact h.1 _ _ _ _ (Or.inr (Or.inr (Or.inl ⟨lo, hi, by omega, rfl, rfl⟩)))
    · rw [fset_ne (by omega), fset_ne (by omega)]
      exact h.1 _ _ _ _ (Or.inr (Or.inr (Or.inr (Or.inl ⟨lo, hi, by omega, rfl, rfl⟩))))
    · rw [fset_ne (by omega), fset_ne (by omega)]
      exact h.1 _ _ _ _ (Or.inr (Or.inr (Or.inr (Or.inr (Or.inl ⟨lo, hi, by omega, rfl, rfl⟩)))))
    · rw [fset_ne (by omega), fset_ne (by omega)]
      exact h.1 _ _ _ _ (Or.inr (Or.inr (Or.inr (Or.inr (Or.inr (⟨lo, hi, by omega, rfl, rfl⟩))))))
  · have z := zBi_set (s := s) (P := fun p => G (21 + p) 3) (by omega) h.2 ha2 ls
    unfold zSk
    rw [fset_eq]
    exact z.cg fun p hp => by rw [fset_if]
theorem ab_sick (h : zRl N F G) (ha2 : a2 = 0 ∨ a2 = 1) (hI' : rI N G') (hc : zR2 x (zlt (N 1) a1) True (cM F F') (∃ p : Nat, a1 = nI p ∧ p < N 1 ∧ n' = (nI (N 1) - zbc (F' 7 5)).toInt64 ∧ cM (fset F 7 5 (zsk (F 7 5) p a2)) F')) (hr : zR2 (G' 0 0) (zlt (N 1) a1) True (rM G G') (∃ p : Nat, a1 = nI p ∧ p < N 1 ∧ b = nI (zwl G' (N 1)) ∧ rM (fset G (21 + p) 3 a2) G')) : zRl N F' G' ∧ x = G' 0 0 ∧ (x = nI 0 → n' = b.toInt64) := by
  obtain ⟨hx, h9⟩ := zR2.both hc hr Iff.rfl Iff.rfl
  obtain ⟨c0, c2, c1, c3, c4⟩ := h.1.bnd
  rcases h9 with ⟨n0, p, q⟩ | ⟨rfl, -, -, ⟨s, es, ls, rfl, hz⟩, s', es', ls', rfl, hm⟩
  · exact ⟨h.mv p q, hx, fun e => absurd e n0⟩
  · have : s' = s := (nI_eq (by omega) (by omega)).mp (es'.symm.trans es)
    subst this
    have hf0 := zFe_sk h.1.bnd h.2.1 ha2 ls
    have hfe := hf0
    have hvo : zVo N (fset F 7 5 (zsk (F 7 5) s' a2)) := ⟨fun p hp => by rw [fset_ne (by omega)]; exact h.2.2.1 p hp, fun p hp => by rw [fset_ne (by omega)]; exact h.2.2.2 p hp⟩
    have hR : zRl N F' G' := ⟨(h.1.st (F' := (fset F 7 5 (zsk (F 7 5) s' a2))) rfl rfl).mvM hz, zFe.mv h.1.bnd hfe hz hm, hvo.mv hz⟩
    refine ⟨hR, hx, fun _ => congrArg Int32.toInt64 ?_⟩
    obtain ⟨m2, j1, j2, j3⟩ := hR.2.1.2
    rw [j2, zwm_ok (N 1) (by omega) m2 (Nat.lt_of_lt_of_le j1 (zp2 (n := 5) c1)) j1, zwl_m (N 1) j3 (fun p hp => hI'.sick p hp)]
theorem ab_knock (h : zRl N F G) (hI : cI (N 0) (N 2) (N 1) (N 3) (N 4) F') (hz : F' = fset F 0 8 (F 0 8 + nI 1)) (hm : rM (fset G 0 9 (G 0 9 + nI 1)) G') : zRl N F' G' := by
  subst hz
  obtain ⟨c0, c2, c1, c3, c4⟩ := h.1.bnd
  have hfe : zFe N (fset F 0 8 (F 0 8 + nI 1)) (fset G 0 9 (G 0 9 + nI 1)) := by
    refine ⟨fun k j k' j' q => ?_, ?_⟩
    · rcases (show (k = 0 ∧ j = 8 ∧ k' = 0 ∧ j' = 9) ∨ (2 ≤ k ∧ k ≤ 4 ∧ j < N 0 ∧ k' = 14 + j ∧ j' = k - 2) ∨ (8 ≤ k ∧ k ≤ 10 ∧ j < N 1 ∧ k' = 21 + j ∧ j' = k - 8) ∨ (5 ≤ k ∧ k ≤ 6 ∧ j < N 2 ∧ k' = 26 + j ∧ j' = k - 5) ∨ (19 ≤ k ∧ k ≤ 21 ∧ j < N 3 ∧ k' = 32 + j ∧ j' = k - 19) ∨ (24 ≤ k ∧ k ≤ 25 ∧ j < N 4 ∧ k' = 38 + j ∧ j' = k - 24) from q) with ⟨rfl, rfl, rfl, rfl⟩ | ⟨lo, hi, hj, rfl, rfl⟩ | ⟨lo, hi, hj, rfl, rfl⟩ | ⟨lo, hi, hj, rfl, rfl⟩ | ⟨lo, hi, hj, rfl, rfl⟩ | ⟨lo, hi, hj, rfl, rfl⟩
      · rw [fset_eq, fset_eq, h.2.1.1 0 8 0 9 (Or.inl ⟨rfl, rfl, rfl, rfl⟩)]
      · rw [fset_ne (by omega), fset_ne (by omega)]
        exact h.2.1.1 _ _ _ _ (Or.inr (Or.inl ⟨lo, hi, by omega, rfl, rfl⟩))
      · rw [fset_ne (by omega), fset_ne (by omega)]
        exact h.2.1.1 _ _ _ _ (Or.inr (Or.inr (Or.inl ⟨lo, hi, by omega, rfl, rfl⟩)))
      · rw [fset_ne (by omega), fset_ne (by omega)]
        exact h.2.1.1 _ _ _ _ (Or.inr (Or.inr (Or.inr (Or.inl ⟨lo, hi, by omega, rfl, rfl⟩))))
      · rw [fset_ne (by omega), fset_ne (by omega)]
        exact h.2.1.1 _ _ _ _ (Or.inr (Or.inr (Or.inr (Or.inr (Or.inl ⟨lo, hi, by omega, rfl, rfl⟩)))))
      · rw [fset_ne (by omega), fset_ne (by omega)]
        exact h.2.1.1 _ _ _ _ (Or.inr (Or.inr (Or.inr (Or.inr (Or.inr (⟨lo, hi, by omega, rfl, rfl⟩))))))
    · have z := h.2.1.2; unfold zSk at z ⊢; rw [fset_ne (by omega)]; exact z.cg fun p hp => by rw [fset_ne (by omega)]
  exact ⟨hI, zFe.mv h.1.bnd hfe cM.rfl' hm, ⟨fun p hp => by rw [fset_ne (by omega)]; exact h.2.2.1 p hp, fun p hp => by rw [fset_ne (by omega)]; exact h.2.2.2 p hp⟩⟩
/-! ===== casts on both sides ===== -/
theorem zRl.bd (h : zRl N F G) (hI : rI N G) : cBd (N 0) (N 2) (N 1) F := ⟨h.2.2.1, h.2.2.2, fun s hs => by
  obtain ⟨m, hm, em⟩ := hI.sp s hs
  exact ⟨m, hm, (h.2.1.1 5 s (26 + s) 0 (Or.inr (Or.inr (Or.inr (Or.inl ⟨by omega, by omega, hs, rfl, rfl⟩))))).trans em⟩⟩
theorem mDu_cg {f f' : Nat → Int32} {a : Int32} {n q : Nat} (e : ∀ s, s < n → f s = f' s) : mDu f a n q → mDu f' a n q := fun ⟨h7, s, hs, z1, z2⟩ => ⟨h7, s, hs, z1, by rw [← e s hs]; exact z2⟩
theorem mFit_cgP {pm pm' cl cl' : Nat → Nat → Prop} {D D' : Nat → Prop} {k : Nat} (hD : ∀ p, D p ↔ D' p) (h1 : ∀ i p, D p → pm i p → pm' i p) (h2 : ∀ p q, cl' p q → cl p q) (h : mFit pm cl D k) : mFit pm' cl' D' k := by
  obtain ⟨g, a, b, c⟩ := h
  refine ⟨g, fun p hp => ?_, fun p q hp hq hpq e z => b p q ((hD p).mpr hp) ((hD q).mpr hq) hpq e (h2 p q z), ?_⟩
  · obtain ⟨a1, a2⟩ := a p ((hD p).mpr hp)
    exact ⟨a1, h1 _ _ ((hD p).mpr hp) a2⟩
  · rw [mcn_cg (Q := fun i => ∃ p, D p ∧ g p = i) fun i _ => ⟨fun ⟨p, x, y⟩ => ⟨p, (hD p).mpr x, y⟩, fun ⟨p, x, y⟩ => ⟨p, (hD p).mp x, y⟩⟩]
    exact c
theorem zRl.sick (h : zRl N F G) (hI : rI N G) {i : Nat} (hi : i < N 1) : ¬ zIn (F 7 5) (nI i) ↔ G (21 + i) 3 = 0 := by
  obtain ⟨c0, c2, c1, c3, c4⟩ := h.1.bnd
  obtain ⟨m, hm1, hm2, hm3⟩ := h.2.1.2
  have m32 : m < 32 := Nat.lt_of_lt_of_le hm1 (zp2 (n := 5) c1)
  have h3 : m.testBit i = true ↔ G (21 + i) 3 = nI 1 := hm3 i hi
  rw [hm2, zIn_nat (by omega) (by omega), h3]
  rcases hI.sick i hi with e | e
  · rw [e]
    exact ⟨fun _ => rfl, fun _ => by decide⟩
  · rw [e]
    exact ⟨fun q => absurd rfl q, fun q => absurd q (by decide)⟩
/-- what is told, on both sides -/
theorem zFe.t (h : zFe N F G) : (∀ s, s < N 2 → F 5 s = rSp G s) ∧ (∀ s, s < N 2 → F 6 s = rPa G s) ∧ (∀ p, p < N 0 → F 4 p = rCh G p) ∧ (∀ p, p < N 0 → F 2 p = G (14 + p) 0) ∧ (∀ p, p < N 0 → F 3 p = G (14 + p) 1) ∧ (∀ i, i < N 1 → F 8 i = G (21 + i) 0) ∧ (∀ i, i < N 1 → F 9 i = G (21 + i) 1) ∧ (∀ i, i < N 1 → F 10 i = G (21 + i) 2) :=
  ⟨fun s hs => h.1 5 s (26 + s) 0 (Or.inr (Or.inr (Or.inr (Or.inl ⟨by omega, by omega, hs, rfl, rfl⟩)))), fun s hs => h.1 6 s (26 + s) 1 (Or.inr (Or.inr (Or.inr (Or.inl ⟨by omega, by omega, hs, rfl, rfl⟩)))), fun s hs => h.1 4 s (14 + s) 2 (Or.inr (Or.inl ⟨by omega, by omega, hs, rfl, rfl⟩)), fun s hs => h.1 2 s (14 + s) 0 (Or.inr (Or.inl ⟨by omega, by omega, hs, rfl, rfl⟩)), fun s hs => h.1 3 s (14 + s) 1 (Or.inr (Or.inl ⟨by omega, by omega, hs, rfl, rfl⟩)), fun s hs => h.1 8 s (21 + s) 0 (Or.inr (Or.inr (Or.inl ⟨by omega, by omega, hs, rfl, rfl⟩))), fun s hs => h.1 9 s (21 + s) 1 (Or.inr (Or.inr (Or.inl ⟨by omega, by omega, hs, rfl, rfl⟩))), fun s hs => h.1 10 s (21 + s) 2 (Or.inr (Or.inr (Or.inl ⟨by omega, by omega, hs, rfl, rfl⟩)))⟩
theorem pm_iff (hf : zFe N F G) (hs : ∀ i, i < N 1 → (¬ zIn (F 7 5) (nI i) ↔ G (21 + i) 3 = 0)) {i p : Nat} (hp : p < N 0) : mPm F (N 1) i p ↔ (i < N 1 ∧ zPl G i p) := by
  obtain ⟨-, -, -, e2, -, e8, -⟩ := hf.t
  unfold mPm zPl
  refine and_congr_right fun hi => ?_
  rw [hs i hi, e8 i hi, e2 p hp]
theorem zFC_R0 (hf : zFe N F G) (hs : ∀ i, i < N 1 → (¬ zIn (F 7 5) (nI i) ↔ G (21 + i) 3 = 0)) (hB : cBd (N 0) (N 2) (N 1) F) (b0 : N 0 ≤ 7) (hI : rI N G) {a : Int32} {k : Nat} : zFC (N 0) (N 2) (N 1) F a k ↔ zFR N G a k := by
  obtain ⟨e5, e6, e4, -⟩ := hf.t
  have ed : ∀ p, mDu (F 5) a (N 2) p ↔ mDu (rSp G) a (N 2) p := fun p => ⟨mDu_cg e5, mDu_cg (fun s hs => (e5 s hs).symm)⟩
  constructor
  · exact mFit_cgP ed (fun i p hp q => (pm_iff hf hs (du_lt b0 hB hp)).mp q) (fun p q => mCl_cg (fun s hs => (e5 s hs).symm) (fun s hs => (e4 s hs).symm) (fun s hs => (e6 s hs).symm))
  · exact mFit_cgP (fun p => (ed p).symm) (fun i p hp q => (pm_iff hf hs (rDu_lt hI hp)).mpr q) (fun p q => mCl_cg e5 e4 e6)
theorem zFC_R (h : zRl N F G) (hI : rI N G) {a : Int32} {k : Nat} : zFC (N 0) (N 2) (N 1) F a k ↔ zFR N G a k := zFC_R0 h.2.1 (fun i hi => h.sick hI hi) (h.bd hI) h.1.bnd.1 hI
theorem zsk_or {y : Int32} {p : Nat} : zsk y p 1 = y ||| nI (2 ^ p) := by
  unfold zsk
  rw [if_neg (by decide)]
theorem ab_would (h : zRl N F G) (hI : rI N G) (hc : zR2 x (zlt (2 ^ N 2) a1) True (cM F F') (∃ y : Int32, n' = y.toInt64 ∧ mFew (zFC (N 0) (N 2) (N 1) F (nI (2 ^ N 2 - 1) &&& (a1 ^^^ (-1)))) y ∧ cM F F')) (hr : zR2 (G' 0 0) (zin 0 (2 ^ N 2 - 1) a1) True (rM G G') (mFew (zFR N G (nI (2 ^ N 2 - 1) &&& (a1 ^^^ (-1)))) b ∧ rM G G')) : zRl N F' G' ∧ x = G' 0 0 ∧ (x = nI 0 → n' = b.toInt64) := by
  obtain ⟨hx, h9⟩ := zR2.both hc hr (zlt_zin Nat.one_le_two_pow) Iff.rfl
  rcases h9 with ⟨n0, p, q⟩ | ⟨rfl, -, -, ⟨y, rfl, hf, p⟩, hg, q⟩
  · exact ⟨h.mv p q, hx, fun e => absurd e n0⟩
  · exact ⟨h.mv p q, hx, fun _ => congrArg Int32.toInt64 (mFew_uniq (fun _ _ hab => mFit_mono hab) hf (mFew_cg (fun k => (zFC_R h hI).symm) hg))⟩
theorem ab_without (h : zRl N F G) (hI : rI N G) (hc : zR2 x (zlt (N 1) a1) True (cM F F') (∃ p : Nat, a1 = nI p ∧ p < N 1 ∧ ∃ y : Int32, n' = y.toInt64 ∧ mFew (zFC (N 0) (N 2) (N 1) (fset F 7 5 (F 7 5 ||| nI (2 ^ p))) (nI (2 ^ N 2 - 1))) y ∧ cM F F')) (hr : zR2 (G' 0 0) (zlt (N 1) a1) True (rM G G') (∃ p : Nat, a1 = nI p ∧ p < N 1 ∧ mFew (zFR N (fset G (21 + p) 3 (nI 1)) (nI (2 ^ N 2 - 1))) b ∧ rM G G')) : zRl N F' G' ∧ x = G' 0 0 ∧ (x = nI 0 → n' = b.toInt64) := by
  obtain ⟨c0, c2, c1, c3, c4⟩ := h.1.bnd
  obtain ⟨hx, h9⟩ := zR2.both hc hr Iff.rfl Iff.rfl
  rcases h9 with ⟨n0, p, q⟩ | ⟨rfl, -, -, ⟨s, es, ls, y, rfl, hf, p⟩, s', es', ls', hg, q⟩
  · exact ⟨h.mv p q, hx, fun e => absurd e n0⟩
  · have : s' = s := (nI_eq (by omega) (by omega)).mp (es'.symm.trans es)
    subst this
    have hf0 := zFe_sk (a2 := 1) h.1.bnd h.2.1 (Or.inr rfl) ls
    rw [zsk_or] at hf0
    have hJ : rI N (fset G (21 + s') 3 1) := hI.sk rfl (Or.inr rfl)
    have hs : ∀ i, i < N 1 → (¬ zIn (fset F 7 5 (F 7 5 ||| nI (2 ^ s')) 7 5) (nI i) ↔ fset G (21 + s') 3 1 (21 + i) 3 = 0) := fun i hi => by
      obtain ⟨m, hm1, hm2, hm3⟩ := hf0.2
      have m32 : m < 32 := Nat.lt_of_lt_of_le hm1 (zp2 (n := 5) c1)
      have h3 : m.testBit i = true ↔ fset G (21 + s') 3 1 (21 + i) 3 = nI 1 := hm3 i hi
      rw [hm2, zIn_nat (by omega) (by omega), h3]
      rcases hJ.sick i hi with e | e
      · rw [e]
        exact ⟨fun _ => rfl, fun _ => by decide⟩
      · rw [e]
        exact ⟨fun q => absurd rfl q, fun q => absurd q (by decide)⟩
    have hB : cBd (N 0) (N 2) (N 1) (fset F 7 5 (F 7 5 ||| nI (2 ^ s'))) := (h.bd hI).mvM fun k j q => fset_ne (by omega)
    exact ⟨h.mv p q, hx, fun _ => congrArg Int32.toInt64 (mFew_uniq (fun _ _ hab => mFit_mono hab) hf (mFew_cg (fun k => (zFC_R0 hf0 hs hB c0 hJ).symm) hg))⟩
end REL
