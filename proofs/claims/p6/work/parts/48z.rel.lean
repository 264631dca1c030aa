/-! ===== class and reference side by side ===== -/
/-- the class's place k j tells what the reference's place k' j' tells -/
def zPr (N : Nat → Nat) (k j k' j' : Nat) : Prop := (k = 0 ∧ j = 8 ∧ k' = 0 ∧ j' = 9) ∨ (k = 0 ∧ j = 5 ∧ k' = 0 ∧ j' = 6) ∨ (k = 0 ∧ j = 6 ∧ k' = 0 ∧ j' = 7) ∨ (k = 0 ∧ j = 7 ∧ k' = 0 ∧ j' = 8) ∨ (2 ≤ k ∧ k ≤ 4 ∧ j < N 0 ∧ k' = 14 + j ∧ j' = k - 2) ∨ (8 ≤ k ∧ k ≤ 10 ∧ j < N 1 ∧ k' = 21 + j ∧ j' = k - 8) ∨ (5 ≤ k ∧ k ≤ 6 ∧ j < N 2 ∧ k' = 26 + j ∧ j' = k - 5) ∨ (19 ≤ k ∧ k ≤ 21 ∧ j < N 3 ∧ k' = 32 + j ∧ j' = k - 19) ∨ (24 ≤ k ∧ k ≤ 26 ∧ j < N 4 ∧ k' = 38 + j ∧ j' = k - 24) ∨ (k = 11 ∧ j < N 1 ∧ k' = 21 + j ∧ j' = 4)
def zBi (n : Nat) (x : Int32) (P : Nat → Prop) : Prop := ∃ m, m < 2 ^ n ∧ x = nI m ∧ ∀ p, p < n → (m.testBit p = true ↔ P p)
abbrev zSk (N : Nat → Nat) (F G : Nat → Nat → Int32) : Prop := zBi (N 1) (F 7 5) (fun p => G (21 + p) 3 = nI 1)
abbrev zPw (N : Nat → Nat) (F G : Nat → Nat → Int32) : Prop := zBi (N 3) (F 18 4) (fun p => ¬ G (32 + p) 3 = 0)
def zFe (N : Nat → Nat) (F G : Nat → Nat → Int32) : Prop := (∀ k j k' j', zPr N k j k' j' → F k j = G k' j') ∧ zSk N F G ∧ zPw N F G
/-- what the numbers of voices keep to -/
def zVo (N : Nat → Nat) (F : Nat → Nat → Int32) : Prop := (∀ p, p < N 0 → ∃ v, v < 4 ∧ F 2 p = nI v) ∧ (∀ i, i < N 1 → ∃ w, w < 16 ∧ F 8 i = nI w) ∧ (∀ t, t < N 4 → ∃ x y : Nat, x < 100 ∧ y < 100 ∧ F 24 t = nI x ∧ F 25 t = nI y) ∧ ∀ p, N 1 ≤ p → p < 5 → F 11 p = nI 0
theorem zVo.cg {N : Nat → Nat} {F F' : Nat → Nat → Int32} (h : zVo N F) (e : ∀ k j, (k = 2 ∨ k = 8 ∨ k = 24 ∨ k = 25 ∨ k = 11) → F' k j = F k j) : zVo N F' := ⟨fun p hp => by rw [e 2 p (by omega)]; exact h.1 p hp, fun i hi => by rw [e 8 i (by omega)]; exact h.2.1 i hi, fun t ht => by rw [e 24 t (by omega), e 25 t (by omega)]; exact h.2.2.1 t ht, fun p hp h5 => by rw [e 11 p (by omega)]; exact h.2.2.2 p hp h5⟩
def zRl (N : Nat → Nat) (F G : Nat → Nat → Int32) : Prop := cI (N 0) (N 2) (N 1) (N 3) (N 4) F ∧ zFe N F G ∧ zVo N F ∧ cK F ∧ rKn N G
theorem zRl0 : zRl (fun _ => 0) (fun _ _ => nI 0) (fun _ _ => nI 0) := ⟨cI0', ⟨fun _ _ _ _ _ => rfl, ⟨0, by decide, rfl, fun p hp => absurd hp (Nat.not_lt_zero p)⟩, ⟨0, by decide, rfl, fun p hp => absurd hp (Nat.not_lt_zero p)⟩⟩, ⟨fun p hp => absurd hp (Nat.not_lt_zero p), fun p hp => absurd hp (Nat.not_lt_zero p), fun p hp => absurd hp (Nat.not_lt_zero p), fun _ _ _ => rfl⟩, Or.inl rfl, Or.inl rfl⟩
section REL
variable {N N' : Nat → Nat} {F F' G G' : Nat → Nat → Int32} {x b a1 a2 a3 : Int32} {n' : Int64}
theorem zBi.cg {n : Nat} {x : Int32} {P Q : Nat → Prop} (h : zBi n x P) (e : ∀ p, p < n → (P p ↔ Q p)) : zBi n x Q := by
  obtain ⟨m, a, b, c⟩ := h
  exact ⟨m, a, b, fun p hp => (c p hp).trans (e p hp)⟩
theorem zFe.mv (b : N 0 ≤ 7 ∧ N 2 ≤ 6 ∧ N 1 ≤ 5 ∧ N 3 ≤ 6 ∧ N 4 ≤ 5) (h : zFe N F G) (hc : cM F F') (hr : rM N G G') : zFe N F' G' := by
  obtain ⟨b0, b2, b1, b3, b4⟩ := b
  refine ⟨fun k j k' j' q => ?_, ?_, ?_⟩
  · rcases (show (k = 0 ∧ j = 8 ∧ k' = 0 ∧ j' = 9) ∨ (k = 0 ∧ j = 5 ∧ k' = 0 ∧ j' = 6) ∨ (k = 0 ∧ j = 6 ∧ k' = 0 ∧ j' = 7) ∨ (k = 0 ∧ j = 7 ∧ k' = 0 ∧ j' = 8) ∨ (2 ≤ k ∧ k ≤ 4 ∧ j < N 0 ∧ k' = 14 + j ∧ j' = k - 2) ∨ (8 ≤ k ∧ k ≤ 10 ∧ j < N 1 ∧ k' = 21 + j ∧ j' = k - 8) ∨ (5 ≤ k ∧ k ≤ 6 ∧ j < N 2 ∧ k' = 26 + j ∧ j' = k - 5) ∨ (19 ≤ k ∧ k ≤ 21 ∧ j < N 3 ∧ k' = 32 + j ∧ j' = k - 19) ∨ (24 ≤ k ∧ k ≤ 26 ∧ j < N 4 ∧ k' = 38 + j ∧ j' = k - 24) ∨ (k = 11 ∧ j < N 1 ∧ k' = 21 + j ∧ j' = 4) from q) with ⟨rfl, rfl, rfl, rfl⟩ | ⟨rfl, rfl, rfl, rfl⟩ | ⟨rfl, rfl, rfl, rfl⟩ | ⟨rfl, rfl, rfl, rfl⟩ | ⟨lo, hi, hj, rfl, rfl⟩ | ⟨lo, hi, hj, rfl, rfl⟩ | ⟨lo, hi, hj, rfl, rfl⟩ | ⟨lo, hi, hj, rfl, rfl⟩ | ⟨lo, hi, hj, rfl, rfl⟩ | ⟨rfl, hj, rfl, rfl⟩
    · rw [hc.1 _ _ (scM_f (by omega)), hr.1 _ _ (Or.inr ⟨rfl, by omega, by omega⟩)]
      exact h.1 _ _ _ _ (Or.inl ⟨rfl, rfl, rfl, rfl⟩)
    · rw [hc.1 _ _ (scM_f (by omega)), hr.1 _ _ (Or.inr ⟨rfl, by omega, by omega⟩)]
      exact h.1 _ _ _ _ (Or.inr (Or.inl ⟨rfl, rfl, rfl, rfl⟩))
    · rw [hc.1 _ _ (scM_f (by omega)), hr.1 _ _ (Or.inr ⟨rfl, by omega, by omega⟩)]
      exact h.1 _ _ _ _ (Or.inr (Or.inr (Or.inl ⟨rfl, rfl, rfl, rfl⟩)))
    · rw [hc.1 _ _ (scM_f (by omega)), hr.1 _ _ (Or.inr ⟨rfl, by omega, by omega⟩)]
      exact h.1 _ _ _ _ (Or.inr (Or.inr (Or.inr (Or.inl ⟨rfl, rfl, rfl, rfl⟩))))
    · rw [hc.1 _ _ (scM_f (by omega)), hr.1 _ _ (Or.inl ⟨by omega, by omega⟩)]
      exact h.1 _ _ _ _ (Or.inr (Or.inr (Or.inr (Or.inr (Or.inl ⟨lo, hi, by omega, rfl, rfl⟩)))))
    · rw [hc.1 _ _ (scM_f (by omega)), hr.1 _ _ (Or.inl ⟨by omega, by omega⟩)]
      exact h.1 _ _ _ _ (Or.inr (Or.inr (Or.inr (Or.inr (Or.inr (Or.inl ⟨lo, hi, by omega, rfl, rfl⟩))))))
    · rw [hc.1 _ _ (scM_f (by omega)), hr.1 _ _ (Or.inl ⟨by omega, by omega⟩)]
      exact h.1 _ _ _ _ (Or.inr (Or.inr (Or.inr (Or.inr (Or.inr (Or.inr (Or.inl ⟨lo, hi, by omega, rfl, rfl⟩)))))))
    · rw [hc.1 _ _ (scM_f (by omega)), hr.1 _ _ (Or.inl ⟨by omega, by omega⟩)]
      exact h.1 _ _ _ _ (Or.inr (Or.inr (Or.inr (Or.inr (Or.inr (Or.inr (Or.inr (Or.inl ⟨lo, hi, by omega, rfl, rfl⟩))))))))
    · rw [hc.1 _ _ (scM_f (by omega)), hr.1 _ _ (Or.inl ⟨by omega, by omega⟩)]
      exact h.1 _ _ _ _ (Or.inr (Or.inr (Or.inr (Or.inr (Or.inr (Or.inr (Or.inr (Or.inr (Or.inl ⟨lo, hi, by omega, rfl, rfl⟩)))))))))
    · rw [hc.1 _ _ (scM_f (by omega)), hr.1 _ _ (Or.inl ⟨by omega, by omega⟩)]
      exact h.1 _ _ _ _ (Or.inr (Or.inr (Or.inr (Or.inr (Or.inr (Or.inr (Or.inr (Or.inr (Or.inr (⟨rfl, by omega, rfl, rfl⟩))))))))))
  · have z := h.2.1
    unfold zSk at z ⊢
    rw [hc.1 7 5 (rfl)]
    exact z.cg fun p hp => by rw [hr.1 (21 + p) 3 (Or.inl ⟨by omega, by omega⟩)]
  · have z := h.2.2
    unfold zPw at z ⊢
    rw [hc.1 18 4 rfl]
    exact z.cg fun p hp => by rw [hr.1 (32 + p) 3 (Or.inl ⟨by omega, by omega⟩)]
theorem zVo.mv (h : zVo N F) (hc : cM F F') : zVo N F' := h.cg fun k j q => hc.1 k j (scM_f (by omega))
theorem zRl.mv (h : zRl N F G) (hc : cM F F') (hr : rM N G G') : zRl N F' G' := ⟨h.1.mvM hc, h.2.1.mv h.1.bnd hc hr, h.2.2.1.mv hc, hc.2 h.2.2.2.1, hr.2 h.2.2.2.2⟩
theorem zlt_zin {n : Nat} (hn : 0 < n) {a : Int32} : zlt n a ↔ zin 0 (n - 1) a := ⟨fun ⟨j, e, h⟩ => ⟨j, e, Nat.zero_le _, by omega⟩, fun ⟨j, e, _, h⟩ => ⟨j, e, by omega⟩⟩
theorem zsc {n : Nat} (hn : n ≤ 7) : (zlt (2 ^ n) a1 ∧ zin 1 127 a1 ∧ zin 0 9 a2) ↔ (zin 1 (2 ^ n - 1) a1 ∧ zin 0 9 a2) := by
  have h128 : 2 ^ n ≤ 128 := zp2 (n := 7) hn
  constructor
  · rintro ⟨⟨j, rfl, hj⟩, h1, h2⟩
    obtain ⟨q1, q2⟩ := zin_nI h1 (by omega) (by omega)
    exact ⟨⟨j, rfl, q1, by omega⟩, h2⟩
  · rintro ⟨⟨j, rfl, h1, h3⟩, h2⟩
    exact ⟨⟨j, rfl, by omega⟩, ⟨j, rfl, h1, by omega⟩, h2⟩
theorem zRo_c (h : cRw sRo F F') : ∀ k j, k < 27 → F' k j = F k j := fun k j q => h k j (decide_eq_false (by omega))
theorem ab_part (h : zRl N F G) (hc : zR2 x (zin 0 3 a1 ∧ zin 0 3 a2 ∧ zin 0 9 a3) (N 0 < 7) (cM F F') (n' = (nI (N 0)).toInt64 ∧ cI (N 0 + 1) (N 2) (N 1) (N 3) (N 4) F' ∧ cM (fset (fset (fset (fset (fset F 12 3 (nI 0)) 2 (N 0) a1) 3 (N 0) a2) 4 (N 0) a3) 1 5 (nI (N 0 + 1))) F')) (hr : rAddR 0 7 14 (zin 0 3 a1 ∧ zin 0 3 a2 ∧ zin 0 9 a3) (fun fe => fe 0 = a1 ∧ fe 1 = a2 ∧ fe 2 = a3) N G b N' G') : zRl N' F' G' ∧ x = G' 0 0 ∧ (x = nI 0 → n' = b.toInt64) := by
  obtain ⟨hx, h9⟩ := zR2.both hc hr Iff.rfl Iff.rfl
  rcases h9 with ⟨n0, p, rfl, q⟩ | ⟨rfl, g9, hlt, ⟨rfl, hI, hz⟩, rfl, rfl, md, fe, ⟨f0, f1, f2⟩, hm⟩
  · exact ⟨h.mv p q, hx, fun e => absurd e n0⟩
  · obtain ⟨c0, c2, c1, c3, c4⟩ := h.1.bnd
    obtain ⟨m, hm1, hm2, hm3⟩ := h.2.1.2.1
    obtain ⟨w, hw1, hw2, hw3⟩ := h.2.1.2.2
    have hm : rM (zNN N 0) (fset (frow (fset G 1 0 md) (14 + N 0) fe) 0 11 (nI 0)) G' := hm
    have hfe : zFe (zNN N 0) (fset (fset (fset (fset (fset F 12 3 (nI 0)) 2 (N 0) a1) 3 (N 0) a2) 4 (N 0) a3) 1 5 (nI (N 0 + 1))) (fset (frow (fset G 1 0 md) (14 + N 0) fe) 0 11 (nI 0)) := by
      refine ⟨fun k j k' j' q => ?_, ?_, ?_⟩
      · rcases (show (k = 0 ∧ j = 8 ∧ k' = 0 ∧ j' = 9) ∨ (k = 0 ∧ j = 5 ∧ k' = 0 ∧ j' = 6) ∨ (k = 0 ∧ j = 6 ∧ k' = 0 ∧ j' = 7) ∨ (k = 0 ∧ j = 7 ∧ k' = 0 ∧ j' = 8) ∨ (2 ≤ k ∧ k ≤ 4 ∧ j < N 0 + 1 ∧ k' = 14 + j ∧ j' = k - 2) ∨ (8 ≤ k ∧ k ≤ 10 ∧ j < N 1 ∧ k' = 21 + j ∧ j' = k - 8) ∨ (5 ≤ k ∧ k ≤ 6 ∧ j < N 2 ∧ k' = 26 + j ∧ j' = k - 5) ∨ (19 ≤ k ∧ k ≤ 21 ∧ j < N 3 ∧ k' = 32 + j ∧ j' = k - 19) ∨ (24 ≤ k ∧ k ≤ 26 ∧ j < N 4 ∧ k' = 38 + j ∧ j' = k - 24) ∨ (k = 11 ∧ j < N 1 ∧ k' = 21 + j ∧ j' = 4) from q) with ⟨rfl, rfl, rfl, rfl⟩ | ⟨rfl, rfl, rfl, rfl⟩ | ⟨rfl, rfl, rfl, rfl⟩ | ⟨rfl, rfl, rfl, rfl⟩ | ⟨lo, hi, hj, rfl, rfl⟩ | ⟨lo, hi, hj, rfl, rfl⟩ | ⟨lo, hi, hj, rfl, rfl⟩ | ⟨lo, hi, hj, rfl, rfl⟩ | ⟨lo, hi, hj, rfl, rfl⟩ | ⟨rfl, hj, rfl, rfl⟩
        · rw [fset_ne (by omega), fset_ne (by omega), fset_ne (by omega), fset_ne (by omega), fset_ne (by omega), fset_ne (by omega), frow_ne (by omega), fset_ne (by omega)]
          exact h.2.1.1 _ _ _ _ (Or.inl ⟨rfl, rfl, rfl, rfl⟩)
        · rw [fset_ne (by omega), fset_ne (by omega), fset_ne (by omega), fset_ne (by omega), fset_ne (by omega), fset_ne (by omega), frow_ne (by omega), fset_ne (by omega)]
          exact h.2.1.1 _ _ _ _ (Or.inr (Or.inl ⟨rfl, rfl, rfl, rfl⟩))
        · rw [fset_ne (by omega), fset_ne (by omega), fset_ne (by omega), fset_ne (by omega), fset_ne (by omega), fset_ne (by omega), frow_ne (by omega), fset_ne (by omega)]
          exact h.2.1.1 _ _ _ _ (Or.inr (Or.inr (Or.inl ⟨rfl, rfl, rfl, rfl⟩)))
        · rw [fset_ne (by omega), fset_ne (by omega), fset_ne (by omega), fset_ne (by omega), fset_ne (by omega), fset_ne (by omega), frow_ne (by omega), fset_ne (by omega)]
          exact h.2.1.1 _ _ _ _ (Or.inr (Or.inr (Or.inr (Or.inl ⟨rfl, rfl, rfl, rfl⟩))))
        · by_cases e : j = N 0
          · subst e
            rcases (show k = 2 ∨ k = 3 ∨ k = 4 by omega) with rfl | rfl | rfl
            · repeat first | rw [fset_eq] | rw [fset_ne (by omega)] | rw [frow_eq] | rw [frow_ne (by omega)]
              exact f0.symm
            · repeat first | rw [fset_eq] | rw [fset_ne (by omega)] | rw [frow_eq] | rw [frow_ne (by omega)]
              exact f1.symm
            · repeat first | rw [fset_eq] | rw [fset_ne (by omega)] | rw [frow_eq] | rw [frow_ne (by omega)]
              exact f2.symm
          · rw [fset_ne (by omega), fset_ne (by omega), fset_ne (by omega), fset_ne (by omega), fset_ne (by omega), fset_ne (by omega), frow_ne (by omega), fset_ne (by omega)]
            exact h.2.1.1 _ _ _ _ (Or.inr (Or.inr (Or.inr (Or.inr (Or.inl ⟨lo, hi, by omega, rfl, rfl⟩)))))
        · rw [fset_ne (by omega), fset_ne (by omega), fset_ne (by omega), fset_ne (by omega), fset_ne (by omega), fset_ne (by omega), frow_ne (by omega), fset_ne (by omega)]
          exact h.2.1.1 _ _ _ _ (Or.inr (Or.inr (Or.inr (Or.inr (Or.inr (Or.inl ⟨lo, hi, by omega, rfl, rfl⟩))))))
        · rw [fset_ne (by omega), fset_ne (by omega), fset_ne (by omega), fset_ne (by omega), fset_ne (by omega), fset_ne (by omega), frow_ne (by omega), fset_ne (by omega)]
          exact h.2.1.1 _ _ _ _ (Or.inr (Or.inr (Or.inr (Or.inr (Or.inr (Or.inr (Or.inl ⟨lo, hi, by omega, rfl, rfl⟩)))))))
        · rw [fset_ne (by omega), fset_ne (by omega), fset_ne (by omega), fset_ne (by omega), fset_ne (by omega), fset_ne (by omega), frow_ne (by omega), fset_ne (by omega)]
          exact h.2.1.1 _ _ _ _ (Or.inr (Or.inr (Or.inr (Or.inr (Or.inr (Or.inr (Or.inr (Or.inl ⟨lo, hi, by omega, rfl, rfl⟩))))))))
        · rw [fset_ne (by omega), fset_ne (by omega), fset_ne (by omega), fset_ne (by omega), fset_ne (by omega), fset_ne (by omega), frow_ne (by omega), fset_ne (by omega)]
          exact h.2.1.1 _ _ _ _ (Or.inr (Or.inr (Or.inr (Or.inr (Or.inr (Or.inr (Or.inr (Or.inr (Or.inl ⟨lo, hi, by omega, rfl, rfl⟩)))))))))
        · rw [fset_ne (by omega), fset_ne (by omega), fset_ne (by omega), fset_ne (by omega), fset_ne (by omega), fset_ne (by omega), frow_ne (by omega), fset_ne (by omega)]
          exact h.2.1.1 _ _ _ _ (Or.inr (Or.inr (Or.inr (Or.inr (Or.inr (Or.inr (Or.inr (Or.inr (Or.inr (⟨rfl, by omega, rfl, rfl⟩))))))))))
      · refine ⟨m, hm1, ?_, fun p hp => ?_⟩
        · repeat first | rw [fset_eq] | rw [fset_ne (by omega)] | rw [frow_eq] | rw [frow_ne (by omega)]
          exact hm2
        · have hp : p < N 1 := hp
          dsimp only
          repeat first | rw [fset_eq] | rw [fset_ne (by omega)] | rw [frow_eq] | rw [frow_ne (by omega)]
          exact hm3 p hp
      · refine ⟨w, hw1, ?_, fun p hp => ?_⟩
        · repeat first | rw [fset_eq] | rw [fset_ne (by omega)] | rw [frow_eq] | rw [frow_ne (by omega)]
          exact hw2
        · have hp : p < N 3 := hp
          dsimp only
          repeat first | rw [fset_eq] | rw [fset_ne (by omega)] | rw [frow_eq] | rw [frow_ne (by omega)]
          exact hw3 p hp
    have hvo : zVo (zNN N 0) (fset (fset (fset (fset (fset F 12 3 (nI 0)) 2 (N 0) a1) 3 (N 0) a2) 4 (N 0) a3) 1 5 (nI (N 0 + 1))) := by
      refine ⟨fun p hp => ?_, fun p hp => ?_, fun p hp => ?_, fun p hp h5 => ?_⟩
      · have hp : p < N 0 + 1 := hp
        by_cases e : p = N 0
        · subst e
          obtain ⟨j, rfl, -, hj⟩ := g9.1
          refine ⟨j, by omega, ?_⟩
          repeat first | rw [fset_eq] | rw [fset_ne (by omega)] | rw [frow_eq] | rw [frow_ne (by omega)]
        · repeat first | rw [fset_eq] | rw [fset_ne (by omega)] | rw [frow_eq] | rw [frow_ne (by omega)]
          exact h.2.2.1.1 p (by omega)
      · have hp : p < N 1 := hp
        repeat first | rw [fset_eq] | rw [fset_ne (by omega)] | rw [frow_eq] | rw [frow_ne (by omega)]
        exact h.2.2.1.2.1 p hp
      · have hp : p < N 4 := hp
        rw [fset_ne (by omega), fset_ne (by omega), fset_ne (by omega), fset_ne (by omega), fset_ne (by omega), fset_ne (by omega), fset_ne (by omega), fset_ne (by omega), fset_ne (by omega), fset_ne (by omega)]
        exact h.2.2.1.2.2.1 p hp
      · have hp : N 1 ≤ p := hp
        rw [fset_ne (by omega), fset_ne (by omega), fset_ne (by omega), fset_ne (by omega), fset_ne (by omega)]
        exact h.2.2.1.2.2.2 p (by omega) h5
    exact ⟨⟨hI, zFe.mv (N := zNN N 0) hI.bnd hfe hz hm, zVo.mv (N := zNN N 0) hvo hz, hz.2 (Or.inl (by rw [fset_ne (by omega), fset_ne (by omega), fset_ne (by omega), fset_ne (by omega), fset_eq]; exact nI_0)), hm.2 (Or.inl (fset_eq.trans nI_0))⟩, hx, fun _ => rfl⟩
theorem ab_player (h : zRl N F G) (hc : zR2 x (zlt (2 ^ 4) a1 ∧ zin 1 9 a2 ∧ zin 1 5 a3) (N 1 < 5) (cM F F') (n' = (nI (N 1)).toInt64 ∧ cI (N 0) (N 2) (N 1 + 1) (N 3) (N 4) F' ∧ cM (fset (fset (fset (fset (fset F 12 3 (nI 0)) 8 (N 1) a1) 9 (N 1) a2) 10 (N 1) a3) 7 4 (nI (N 1 + 1))) F')) (hr : rAddR 1 5 21 (zin 0 15 a1 ∧ zin 1 9 a2 ∧ zin 1 5 a3) (fun fe => fe 0 = a1 ∧ fe 1 = a2 ∧ fe 2 = a3 ∧ fe 3 = nI 0 ∧ fe 4 = nI 0) N G b N' G') : zRl N' F' G' ∧ x = G' 0 0 ∧ (x = nI 0 → n' = b.toInt64) := by
  obtain ⟨hx, h9⟩ := zR2.both hc hr (and_congr (zlt_zin (n := 2 ^ 4) (by decide)) Iff.rfl) Iff.rfl
  rcases h9 with ⟨n0, p, rfl, q⟩ | ⟨rfl, g9, hlt, ⟨rfl, hI, hz⟩, rfl, rfl, md, fe, ⟨f0, f1, f2, f3, f4⟩, hm⟩
  · exact ⟨h.mv p q, hx, fun e => absurd e n0⟩
  · obtain ⟨c0, c2, c1, c3, c4⟩ := h.1.bnd
    obtain ⟨m, hm1, hm2, hm3⟩ := h.2.1.2.1
    obtain ⟨w, hw1, hw2, hw3⟩ := h.2.1.2.2
    have hm : rM (zNN N 1) (fset (frow (fset G 2 0 md) (21 + N 1) fe) 0 11 (nI 0)) G' := hm
    have hfe : zFe (zNN N 1) (fset (fset (fset (fset (fset F 12 3 (nI 0)) 8 (N 1) a1) 9 (N 1) a2) 10 (N 1) a3) 7 4 (nI (N 1 + 1))) (fset (frow (fset G 2 0 md) (21 + N 1) fe) 0 11 (nI 0)) := by
      refine ⟨fun k j k' j' q => ?_, ?_, ?_⟩
      · rcases (show (k = 0 ∧ j = 8 ∧ k' = 0 ∧ j' = 9) ∨ (k = 0 ∧ j = 5 ∧ k' = 0 ∧ j' = 6) ∨ (k = 0 ∧ j = 6 ∧ k' = 0 ∧ j' = 7) ∨ (k = 0 ∧ j = 7 ∧ k' = 0 ∧ j' = 8) ∨ (2 ≤ k ∧ k ≤ 4 ∧ j < N 0 ∧ k' = 14 + j ∧ j' = k - 2) ∨ (8 ≤ k ∧ k ≤ 10 ∧ j < N 1 + 1 ∧ k' = 21 + j ∧ j' = k - 8) ∨ (5 ≤ k ∧ k ≤ 6 ∧ j < N 2 ∧ k' = 26 + j ∧ j' = k - 5) ∨ (19 ≤ k ∧ k ≤ 21 ∧ j < N 3 ∧ k' = 32 + j ∧ j' = k - 19) ∨ (24 ≤ k ∧ k ≤ 26 ∧ j < N 4 ∧ k' = 38 + j ∧ j' = k - 24) ∨ (k = 11 ∧ j < N 1 + 1 ∧ k' = 21 + j ∧ j' = 4) from q) with ⟨rfl, rfl, rfl, rfl⟩ | ⟨rfl, rfl, rfl, rfl⟩ | ⟨rfl, rfl, rfl, rfl⟩ | ⟨rfl, rfl, rfl, rfl⟩ | ⟨lo, hi, hj, rfl, rfl⟩ | ⟨lo, hi, hj, rfl, rfl⟩ | ⟨lo, hi, hj, rfl, rfl⟩ | ⟨lo, hi, hj, rfl, rfl⟩ | ⟨lo, hi, hj, rfl, rfl⟩ | ⟨rfl, hj, rfl, rfl⟩
        · rw [fset_ne (by omega), fset_ne (by omega), fset_ne (by omega), fset_ne (by omega), fset_ne (by omega), fset_ne (by omega), frow_ne (by omega), fset_ne (by omega)]
          exact h.2.1.1 _ _ _ _ (Or.inl ⟨rfl, rfl, rfl, rfl⟩)
        · rw [fset_ne (by omega), fset_ne (by omega), fset_ne (by omega), fset_ne (by omega), fset_ne (by omega), fset_ne (by omega), frow_ne (by omega), fset_ne (by omega)]
          exact h.2.1.1 _ _ _ _ (Or.inr (Or.inl ⟨rfl, rfl, rfl, rfl⟩))
        · rw [fset_ne (by omega), fset_ne (by omega), fset_ne (by omega), fset_ne (by omega), fset_ne (by omega), fset_ne (by omega), frow_ne (by omega), fset_ne (by omega)]
          exact h.2.1.1 _ _ _ _ (Or.inr (Or.inr (Or.inl ⟨rfl, rfl, rfl, rfl⟩)))
        · rw [fset_ne (by omega), fset_ne (by omega), fset_ne (by omega), fset_ne (by omega), fset_ne (by omega), fset_ne (by omega), frow_ne (by omega), fset_ne (by omega)]
          exact h.2.1.1 _ _ _ _ (Or.inr (Or.inr (Or.inr (Or.inl ⟨rfl, rfl, rfl, rfl⟩))))
        · rw [fset_ne (by omega), fset_ne (by omega), fset_ne (by omega), fset_ne (by omega), fset_ne (by omega), fset_ne (by omega), frow_ne (by omega), fset_ne (by omega)]
          exact h.2.1.1 _ _ _ _ (Or.inr (Or.inr (Or.inr (Or.inr (Or.inl ⟨lo, hi, by omega, rfl, rfl⟩)))))
        · by_cases e : j = N 1
          · subst e
            rcases (show k = 8 ∨ k = 9 ∨ k = 10 by omega) with rfl | rfl | rfl
            · repeat first | rw [fset_eq] | rw [fset_ne (by omega)] | rw [frow_eq] | rw [frow_ne (by omega)]
              exact f0.symm
            · repeat first | rw [fset_eq] | rw [fset_ne (by omega)] | rw [frow_eq] | rw [frow_ne (by omega)]
              exact f1.symm
            · repeat first | rw [fset_eq] | rw [fset_ne (by omega)] | rw [frow_eq] | rw [frow_ne (by omega)]
              exact f2.symm
          · rw [fset_ne (by omega), fset_ne (by omega), fset_ne (by omega), fset_ne (by omega), fset_ne (by omega), fset_ne (by omega), frow_ne (by omega), fset_ne (by omega)]
            exact h.2.1.1 _ _ _ _ (Or.inr (Or.inr (Or.inr (Or.inr (Or.inr (Or.inl ⟨lo, hi, by omega, rfl, rfl⟩))))))
        · rw [fset_ne (by omega), fset_ne (by omega), fset_ne (by omega), fset_ne (by omega), fset_ne (by omega), fset_ne (by omega), frow_ne (by omega), fset_ne (by omega)]
          exact h.2.1.1 _ _ _ _ (Or.inr (Or.inr (Or.inr (Or.inr (Or.inr (Or.inr (Or.inl ⟨lo, hi, by omega, rfl, rfl⟩)))))))
        · rw [fset_ne (by omega), fset_ne (by omega), fset_ne (by omega), fset_ne (by omega), fset_ne (by omega), fset_ne (by omega), frow_ne (by omega), fset_ne (by omega)]
          exact h.2.1.1 _ _ _ _ (Or.inr (Or.inr (Or.inr (Or.inr (Or.inr (Or.inr (Or.inr (Or.inl ⟨lo, hi, by omega, rfl, rfl⟩))))))))
        · rw [fset_ne (by omega), fset_ne (by omega), fset_ne (by omega), fset_ne (by omega), fset_ne (by omega), fset_ne (by omega), frow_ne (by omega), fset_ne (by omega)]
          exact h.2.1.1 _ _ _ _ (Or.inr (Or.inr (Or.inr (Or.inr (Or.inr (Or.inr (Or.inr (Or.inr (Or.inl ⟨lo, hi, by omega, rfl, rfl⟩)))))))))
        · by_cases e : j = N 1
          · subst e
            repeat first | rw [fset_eq] | rw [fset_ne (by omega)] | rw [frow_eq] | rw [frow_ne (by omega)]
            rw [f4]
            exact h.2.2.1.2.2.2 (N 1) (Nat.le_refl _) (by omega)
          · rw [fset_ne (by omega), fset_ne (by omega), fset_ne (by omega), fset_ne (by omega), fset_ne (by omega), fset_ne (by omega), frow_ne (by omega), fset_ne (by omega)]
            exact h.2.1.1 _ _ _ _ (Or.inr (Or.inr (Or.inr (Or.inr (Or.inr (Or.inr (Or.inr (Or.inr (Or.inr (⟨rfl, by omega, rfl, rfl⟩))))))))))
      · refine ⟨m, Nat.lt_of_lt_of_le hm1 (Nat.pow_le_pow_right (by decide) (Nat.le_succ _)), ?_, fun p hp => ?_⟩
        · repeat first | rw [fset_eq] | rw [fset_ne (by omega)] | rw [frow_eq] | rw [frow_ne (by omega)]
          exact hm2
        · have hp : p < N 1 + 1 := hp
          dsimp only
          by_cases e : p = N 1
          · subst e
            rw [fset_ne (by omega), frow_eq, f3, Nat.testBit_lt_two_pow hm1]
            decide
          · repeat first | rw [fset_eq] | rw [fset_ne (by omega)] | rw [frow_eq] | rw [frow_ne (by omega)]
            exact hm3 p (by omega)
      · refine ⟨w, hw1, ?_, fun p hp => ?_⟩
        · repeat first | rw [fset_eq] | rw [fset_ne (by omega)] | rw [frow_eq] | rw [frow_ne (by omega)]
          exact hw2
        · have hp : p < N 3 := hp
          dsimp only
          repeat first | rw [fset_eq] | rw [fset_ne (by omega)] | rw [frow_eq] | rw [frow_ne (by omega)]
          exact hw3 p hp
    have hvo : zVo (zNN N 1) (fset (fset (fset (fset (fset F 12 3 (nI 0)) 8 (N 1) a1) 9 (N 1) a2) 10 (N 1) a3) 7 4 (nI (N 1 + 1))) := by
      refine ⟨fun p hp => ?_, fun p hp => ?_, fun p hp => ?_, fun p hp h5 => ?_⟩
      · have hp : p < N 0 := hp
        repeat first | rw [fset_eq] | rw [fset_ne (by omega)] | rw [frow_eq] | rw [frow_ne (by omega)]
        exact h.2.2.1.1 p hp
      · have hp : p < N 1 + 1 := hp
        by_cases e : p = N 1
        · subst e
          obtain ⟨j, rfl, hj⟩ := g9.1
          refine ⟨j, by omega, ?_⟩
          repeat first | rw [fset_eq] | rw [fset_ne (by omega)] | rw [frow_eq] | rw [frow_ne (by omega)]
        · repeat first | rw [fset_eq] | rw [fset_ne (by omega)] | rw [frow_eq] | rw [frow_ne (by omega)]
          exact h.2.2.1.2.1 p (by omega)
      · have hp : p < N 4 := hp
        rw [fset_ne (by omega), fset_ne (by omega), fset_ne (by omega), fset_ne (by omega), fset_ne (by omega), fset_ne (by omega), fset_ne (by omega), fset_ne (by omega), fset_ne (by omega), fset_ne (by omega)]
        exact h.2.2.1.2.2.1 p hp
      · have hp : N 1 + 1 ≤ p := hp
        rw [fset_ne (by omega), fset_ne (by omega), fset_ne (by omega), fset_ne (by omega), fset_ne (by omega)]
        exact h.2.2.1.2.2.2 p (by omega) h5
    exact ⟨⟨hI, zFe.mv (N := zNN N 1) hI.bnd hfe hz hm, zVo.mv (N := zNN N 1) hvo hz, hz.2 (Or.inl (by rw [fset_ne (by omega), fset_ne (by omega), fset_ne (by omega), fset_ne (by omega), fset_eq]; exact nI_0)), hm.2 (Or.inl (fset_eq.trans nI_0))⟩, hx, fun _ => rfl⟩
theorem ab_scene (h : zRl N F G) (hc : zR2 x (zlt (2 ^ N 0) a1 ∧ zin 1 127 a1 ∧ zin 0 9 a2) (N 2 < 6) (cM F F') (n' = (nI (N 2)).toInt64 ∧ cI (N 0) (N 2 + 1) (N 1) (N 3) (N 4) F' ∧ cM (fset (fset (fset (fset F 12 3 (nI 0)) 5 (N 2) a1) 6 (N 2) a2) 1 6 (nI (N 2 + 1))) F')) (hr : rAddR 2 6 26 (zin 1 (2 ^ N 0 - 1) a1 ∧ zin 0 9 a2) (fun fe => fe 0 = a1 ∧ fe 1 = a2) N G b N' G') : zRl N' F' G' ∧ x = G' 0 0 ∧ (x = nI 0 → n' = b.toInt64) := by
  obtain ⟨hx, h9⟩ := zR2.both hc hr (zsc h.1.bnd.1) Iff.rfl
  rcases h9 with ⟨n0, p, rfl, q⟩ | ⟨rfl, g9, hlt, ⟨rfl, hI, hz⟩, rfl, rfl, md, fe, ⟨f0, f1⟩, hm⟩
  · exact ⟨h.mv p q, hx, fun e => absurd e n0⟩
  · obtain ⟨c0, c2, c1, c3, c4⟩ := h.1.bnd
    obtain ⟨m, hm1, hm2, hm3⟩ := h.2.1.2.1
    obtain ⟨w, hw1, hw2, hw3⟩ := h.2.1.2.2
    have hm : rM (zNN N 2) (fset (frow (fset G 3 0 md) (26 + N 2) fe) 0 11 (nI 0)) G' := hm
    have hfe : zFe (zNN N 2) (fset (fset (fset (fset F 12 3 (nI 0)) 5 (N 2) a1) 6 (N 2) a2) 1 6 (nI (N 2 + 1))) (fset (frow (fset G 3 0 md) (26 + N 2) fe) 0 11 (nI 0)) := by
      refine ⟨fun k j k' j' q => ?_, ?_, ?_⟩
      · rcases (show (k = 0 ∧ j = 8 ∧ k' = 0 ∧ j' = 9) ∨ (k = 0 ∧ j = 5 ∧ k' = 0 ∧ j' = 6) ∨ (k = 0 ∧ j = 6 ∧ k' = 0 ∧ j' = 7) ∨ (k = 0 ∧ j = 7 ∧ k' = 0 ∧ j' = 8) ∨ (2 ≤ k ∧ k ≤ 4 ∧ j < N 0 ∧ k' = 14 + j ∧ j' = k - 2) ∨ (8 ≤ k ∧ k ≤ 10 ∧ j < N 1 ∧ k' = 21 + j ∧ j' = k - 8) ∨ (5 ≤ k ∧ k ≤ 6 ∧ j < N 2 + 1 ∧ k' = 26 + j ∧ j' = k - 5) ∨ (19 ≤ k ∧ k ≤ 21 ∧ j < N 3 ∧ k' = 32 + j ∧ j' = k - 19) ∨ (24 ≤ k ∧ k ≤ 26 ∧ j < N 4 ∧ k' = 38 + j ∧ j' = k - 24) ∨ (k = 11 ∧ j < N 1 ∧ k' = 21 + j ∧ j' = 4) from q) with ⟨rfl, rfl, rfl, rfl⟩ | ⟨rfl, rfl, rfl, rfl⟩ | ⟨rfl, rfl, rfl, rfl⟩ | ⟨rfl, rfl, rfl, rfl⟩ | ⟨lo, hi, hj, rfl, rfl⟩ | ⟨lo, hi, hj, rfl, rfl⟩ | ⟨lo, hi, hj, rfl, rfl⟩ | ⟨lo, hi, hj, rfl, rfl⟩ | ⟨lo, hi, hj, rfl, rfl⟩ | ⟨rfl, hj, rfl, rfl⟩
        · rw [fset_ne (by omega), fset_ne (by omega), fset_ne (by omega), fset_ne (by omega), fset_ne (by omega), frow_ne (by omega), fset_ne (by omega)]
          exact h.2.1.1 _ _ _ _ (Or.inl ⟨rfl, rfl, rfl, rfl⟩)
        · rw [fset_ne (by omega), fset_ne (by omega), fset_ne (by omega), fset_ne (by omega), fset_ne (by omega), frow_ne (by omega), fset_ne (by omega)]
          exact h.2.1.1 _ _ _ _ (Or.inr (Or.inl ⟨rfl, rfl, rfl, rfl⟩))
        · rw [fset_ne (by omega), fset_ne (by omega), fset_ne (by omega), fset_ne (by omega), fset_ne (by omega), frow_ne (by omega), fset_ne (by omega)]
          exact h.2.1.1 _ _ _ _ (Or.inr (Or.inr (Or.inl ⟨rfl, rfl, rfl, rfl⟩)))
        · rw [fset_ne (by omega), fset_ne (by omega), fset_ne (by omega), fset_ne (by omega), fset_ne (by omega), frow_ne (by omega), fset_ne (by omega)]
          exact h.2.1.1 _ _ _ _ (Or.inr (Or.inr (Or.inr (Or.inl ⟨rfl, rfl, rfl, rfl⟩))))
        · rw [fset_ne (by omega), fset_ne (by omega), fset_ne (by omega), fset_ne (by omega), fset_ne (by omega), frow_ne (by omega), fset_ne (by omega)]
          exact h.2.1.1 _ _ _ _ (Or.inr (Or.inr (Or.inr (Or.inr (Or.inl ⟨lo, hi, by omega, rfl, rfl⟩)))))
        · rw [fset_ne (by omega), fset_ne (by omega), fset_ne (by omega), fset_ne (by omega), fset_ne (by omega), frow_ne (by omega), fset_ne (by omega)]
          exact h.2.1.1 _ _ _ _ (Or.inr (Or.inr (Or.inr (Or.inr (Or.inr (Or.inl ⟨lo, hi, by omega, rfl, rfl⟩))))))
        · by_cases e : j = N 2
          · subst e
            rcases (show k = 5 ∨ k = 6 by omega) with rfl | rfl
            · repeat first | rw [fset_eq] | rw [fset_ne (by omega)] | rw [frow_eq] | rw [frow_ne (by omega)]
              exact f0.symm
            · repeat first | rw [fset_eq] | rw [fset_ne (by omega)] | rw [frow_eq] | rw [frow_ne (by omega)]
              exact f1.symm
          · rw [fset_ne (by omega), fset_ne (by omega), fset_ne (by omega), fset_ne (by omega), fset_ne (by omega), frow_ne (by omega), fset_ne (by omega)]
            exact h.2.1.1 _ _ _ _ (Or.inr (Or.inr (Or.inr (Or.inr (Or.inr (Or.inr (Or.inl ⟨lo, hi, by omega, rfl, rfl⟩)))))))
        · rw [fset_ne (by omega), fset_ne (by omega), fset_ne (by omega), fset_ne (by omega), fset_ne (by omega), frow_ne (by omega), fset_ne (by omega)]
          exact h.2.1.1 _ _ _ _ (Or.inr (Or.inr (Or.inr (Or.inr (Or.inr (Or.inr (Or.inr (Or.inl ⟨lo, hi, by omega, rfl, rfl⟩))))))))
        · rw [fset_ne (by omega), fset_ne (by omega), fset_ne (by omega), fset_ne (by omega), fset_ne (by omega), frow_ne (by omega), fset_ne (by omega)]
          exact h.2.1.1 _ _ _ _ (Or.inr (Or.inr (Or.inr (Or.inr (Or.inr (Or.inr (Or.inr (Or.inr (Or.inl ⟨lo, hi, by omega, rfl, rfl⟩)))))))))
        · rw [fset_ne (by omega), fset_ne (by omega), fset_ne (by omega), fset_ne (by omega), fset_ne (by omega), frow_ne (by omega), fset_ne (by omega)]
          exact h.2.1.1 _ _ _ _ (Or.inr (Or.inr (Or.inr (Or.inr (Or.inr (Or.inr (Or.inr (Or.inr (Or.inr (⟨rfl, by omega, rfl, rfl⟩))))))))))
      · refine ⟨m, hm1, ?_, fun p hp => ?_⟩
        · repeat first | rw [fset_eq] | rw [fset_ne (by omega)] | rw [frow_eq] | rw [frow_ne (by omega)]
          exact hm2
        · have hp : p < N 1 := hp
          dsimp only
          repeat first | rw [fset_eq] | rw [fset_ne (by omega)] | rw [frow_eq] | rw [frow_ne (by omega)]
          exact hm3 p hp
      · refine ⟨w, hw1, ?_, fun p hp => ?_⟩
        · repeat first | rw [fset_eq] | rw [fset_ne (by omega)] | rw [frow_eq] | rw [frow_ne (by omega)]
          exact hw2
        · have hp : p < N 3 := hp
          dsimp only
          repeat first | rw [fset_eq] | rw [fset_ne (by omega)] | rw [frow_eq] | rw [frow_ne (by omega)]
          exact hw3 p hp
    have hvo : zVo (zNN N 2) (fset (fset (fset (fset F 12 3 (nI 0)) 5 (N 2) a1) 6 (N 2) a2) 1 6 (nI (N 2 + 1))) := by
      refine ⟨fun p hp => ?_, fun p hp => ?_, fun p hp => ?_, fun p hp h5 => ?_⟩
      · have hp : p < N 0 := hp
        repeat first | rw [fset_eq] | rw [fset_ne (by omega)] | rw [frow_eq] | rw [frow_ne (by omega)]
        exact h.2.2.1.1 p hp
      · have hp : p < N 1 := hp
        repeat first | rw [fset_eq] | rw [fset_ne (by omega)] | rw [frow_eq] | rw [frow_ne (by omega)]
        exact h.2.2.1.2.1 p hp
      · have hp : p < N 4 := hp
        rw [fset_ne (by omega), fset_ne (by omega), fset_ne (by omega), fset_ne (by omega), fset_ne (by omega), fset_ne (by omega), fset_ne (by omega), fset_ne (by omega)]
        exact h.2.2.1.2.2.1 p hp
      · have hp : N 1 ≤ p := hp
        rw [fset_ne (by omega), fset_ne (by omega), fset_ne (by omega), fset_ne (by omega)]
        exact h.2.2.1.2.2.2 p (by omega) h5
    exact ⟨⟨hI, zFe.mv (N := zNN N 2) hI.bnd hfe hz hm, zVo.mv (N := zNN N 2) hvo hz, hz.2 (Or.inl (by rw [fset_ne (by omega), fset_ne (by omega), fset_ne (by omega), fset_eq]; exact nI_0)), hm.2 (Or.inl (fset_eq.trans nI_0))⟩, hx, fun _ => rfl⟩
theorem ab_coat (h : zRl N F G) (hc : zR2 x (zin 0 3 a1 ∧ zin 1 9 a2 ∧ zin 1 99 a3) (N 3 < 6) (cM F F') (n' = (nI (N 3)).toInt64 ∧ cI (N 0) (N 2) (N 1) (N 3 + 1) (N 4) F' ∧ cM (fset (fset (fset (fset F 19 (N 3) a1) 20 (N 3) a2) 21 (N 3) a3) 18 3 (nI (N 3 + 1))) F')) (hr : rAddR 3 6 32 (zin 0 3 a1 ∧ zin 1 9 a2 ∧ zin 1 99 a3) (fun fe => fe 0 = a1 ∧ fe 1 = a2 ∧ fe 2 = a3 ∧ fe 3 = nI 0) N G b N' G') : zRl N' F' G' ∧ x = G' 0 0 ∧ (x = nI 0 → n' = b.toInt64) := by
  obtain ⟨hx, h9⟩ := zR2.both hc hr Iff.rfl Iff.rfl
  rcases h9 with ⟨n0, p, rfl, q⟩ | ⟨rfl, g9, hlt, ⟨rfl, hI, hz⟩, rfl, rfl, md, fe, ⟨f0, f1, f2, f3⟩, hm⟩
  · exact ⟨h.mv p q, hx, fun e => absurd e n0⟩
  · obtain ⟨c0, c2, c1, c3, c4⟩ := h.1.bnd
    obtain ⟨m, hm1, hm2, hm3⟩ := h.2.1.2.1
    obtain ⟨w, hw1, hw2, hw3⟩ := h.2.1.2.2
    have hm : rM (zNN N 3) (frow (fset G 4 0 md) (32 + N 3) fe) G' := hm
    have hfe : zFe (zNN N 3) (fset (fset (fset (fset F 19 (N 3) a1) 20 (N 3) a2) 21 (N 3) a3) 18 3 (nI (N 3 + 1))) (frow (fset G 4 0 md) (32 + N 3) fe) := by
      refine ⟨fun k j k' j' q => ?_, ?_, ?_⟩
      · rcases (show (k = 0 ∧ j = 8 ∧ k' = 0 ∧ j' = 9) ∨ (k = 0 ∧ j = 5 ∧ k' = 0 ∧ j' = 6) ∨ (k = 0 ∧ j = 6 ∧ k' = 0 ∧ j' = 7) ∨ (k = 0 ∧ j = 7 ∧ k' = 0 ∧ j' = 8) ∨ (2 ≤ k ∧ k ≤ 4 ∧ j < N 0 ∧ k' = 14 + j ∧ j' = k - 2) ∨ (8 ≤ k ∧ k ≤ 10 ∧ j < N 1 ∧ k' = 21 + j ∧ j' = k - 8) ∨ (5 ≤ k ∧ k ≤ 6 ∧ j < N 2 ∧ k' = 26 + j ∧ j' = k - 5) ∨ (19 ≤ k ∧ k ≤ 21 ∧ j < N 3 + 1 ∧ k' = 32 + j ∧ j' = k - 19) ∨ (24 ≤ k ∧ k ≤ 26 ∧ j < N 4 ∧ k' = 38 + j ∧ j' = k - 24) ∨ (k = 11 ∧ j < N 1 ∧ k' = 21 + j ∧ j' = 4) from q) with ⟨rfl, rfl, rfl, rfl⟩ | ⟨rfl, rfl, rfl, rfl⟩ | ⟨rfl, rfl, rfl, rfl⟩ | ⟨rfl, rfl, rfl, rfl⟩ | ⟨lo, hi, hj, rfl, rfl⟩ | ⟨lo, hi, hj, rfl, rfl⟩ | ⟨lo, hi, hj, rfl, rfl⟩ | ⟨lo, hi, hj, rfl, rfl⟩ | ⟨lo, hi, hj, rfl, rfl⟩ | ⟨rfl, hj, rfl, rfl⟩
        · rw [fset_ne (by omega), fset_ne (by omega), fset_ne (by omega), fset_ne (by omega), frow_ne (by omega), fset_ne (by omega)]
          exact h.2.1.1 _ _ _ _ (Or.inl ⟨rfl, rfl, rfl, rfl⟩)
        · rw [fset_ne (by omega), fset_ne (by omega), fset_ne (by omega), fset_ne (by omega), frow_ne (by omega), fset_ne (by omega)]
          exact h.2.1.1 _ _ _ _ (Or.inr (Or.inl ⟨rfl, rfl, rfl, rfl⟩))
        · rw [fset_ne (by omega), fset_ne (by omega), fset_ne (by omega), fset_ne (by omega), frow_ne (by omega), fset_ne (by omega)]
          exact h.2.1.1 _ _ _ _ (Or.inr (Or.inr (Or.inl ⟨rfl, rfl, rfl, rfl⟩)))
        · rw [fset_ne (by omega), fset_ne (by omega), fset_ne (by omega), fset_ne (by omega), frow_ne (by omega), fset_ne (by omega)]
          exact h.2.1.1 _ _ _ _ (Or.inr (Or.inr (Or.inr (Or.inl ⟨rfl, rfl, rfl, rfl⟩))))
        · rw [fset_ne (by omega), fset_ne (by omega), fset_ne (by omega), fset_ne (by omega), frow_ne (by omega), fset_ne (by omega)]
          exact h.2.1.1 _ _ _ _ (Or.inr (Or.inr (Or.inr (Or.inr (Or.inl ⟨lo, hi, by omega, rfl, rfl⟩)))))
        · rw [fset_ne (by omega), fset_ne (by omega), fset_ne (by omega), fset_ne (by omega), frow_ne (by omega), fset_ne (by omega)]
          exact h.2.1.1 _ _ _ _ (Or.inr (Or.inr (Or.inr (Or.inr (Or.inr (Or.inl ⟨lo, hi, by omega, rfl, rfl⟩))))))
        · rw [fset_ne (by omega), fset_ne (by omega), fset_ne (by omega), fset_ne (by omega), frow_ne (by omega), fset_ne (by omega)]
          exact h.2.1.1 _ _ _ _ (Or.inr (Or.inr (Or.inr (Or.inr (Or.inr (Or.inr (Or.inl ⟨lo, hi, by omega, rfl, rfl⟩)))))))
        · by_cases e : j = N 3
          · subst e
            rcases (show k = 19 ∨ k = 20 ∨ k = 21 by omega) with rfl | rfl | rfl
            · repeat first | rw [fset_eq] | rw [fset_ne (by omega)] | rw [frow_eq] | rw [frow_ne (by omega)]
              exact f0.symm
            · repeat first | rw [fset_eq] | rw [fset_ne (by omega)] | rw [frow_eq] | rw [frow_ne (by omega)]
              exact f1.symm
            · repeat first | rw [fset_eq] | rw [fset_ne (by omega)] | rw [frow_eq] | rw [frow_ne (by omega)]
              exact f2.symm
          · rw [fset_ne (by omega), fset_ne (by omega), fset_ne (by omega), fset_ne (by omega), frow_ne (by omega), fset_ne (by omega)]
            exact h.2.1.1 _ _ _ _ (Or.inr (Or.inr (Or.inr (Or.inr (Or.inr (Or.inr (Or.inr (Or.inl ⟨lo, hi, by omega, rfl, rfl⟩))))))))
        · rw [fset_ne (by omega), fset_ne (by omega), fset_ne (by omega), fset_ne (by omega), frow_ne (by omega), fset_ne (by omega)]
          exact h.2.1.1 _ _ _ _ (Or.inr (Or.inr (Or.inr (Or.inr (Or.inr (Or.inr (Or.inr (Or.inr (Or.inl ⟨lo, hi, by omega, rfl, rfl⟩)))))))))
        · rw [fset_ne (by omega), fset_ne (by omega), fset_ne (by omega), fset_ne (by omega), frow_ne (by omega), fset_ne (by omega)]
          exact h.2.1.1 _ _ _ _ (Or.inr (Or.inr (Or.inr (Or.inr (Or.inr (Or.inr (Or.inr (Or.inr (Or.inr (⟨rfl, by omega, rfl, rfl⟩))))))))))
      · refine ⟨m, hm1, ?_, fun p hp => ?_⟩
        · repeat first | rw [fset_eq] | rw [fset_ne (by omega)] | rw [frow_eq] | rw [frow_ne (by omega)]
          exact hm2
        · have hp : p < N 1 := hp
          dsimp only
          repeat first | rw [fset_eq] | rw [fset_ne (by omega)] | rw [frow_eq] | rw [frow_ne (by omega)]
          exact hm3 p hp
      · refine ⟨w, Nat.lt_of_lt_of_le hw1 (Nat.pow_le_pow_right (by decide) (Nat.le_succ _)), ?_, fun p hp => ?_⟩
        · repeat first | rw [fset_eq] | rw [fset_ne (by omega)] | rw [frow_eq] | rw [frow_ne (by omega)]
          exact hw2
        · have hp : p < N 3 + 1 := hp
          dsimp only
          by_cases e : p = N 3
          · subst e
            rw [frow_eq, f3, Nat.testBit_lt_two_pow hw1]
            decide
          · repeat first | rw [fset_eq] | rw [fset_ne (by omega)] | rw [frow_eq] | rw [frow_ne (by omega)]
            exact hw3 p (by omega)
    have hvo : zVo (zNN N 3) (fset (fset (fset (fset F 19 (N 3) a1) 20 (N 3) a2) 21 (N 3) a3) 18 3 (nI (N 3 + 1))) := by
      refine ⟨fun p hp => ?_, fun p hp => ?_, fun p hp => ?_, fun p hp h5 => ?_⟩
      · have hp : p < N 0 := hp
        repeat first | rw [fset_eq] | rw [fset_ne (by omega)] | rw [frow_eq] | rw [frow_ne (by omega)]
        exact h.2.2.1.1 p hp
      · have hp : p < N 1 := hp
        repeat first | rw [fset_eq] | rw [fset_ne (by omega)] | rw [frow_eq] | rw [frow_ne (by omega)]
        exact h.2.2.1.2.1 p hp
      · have hp : p < N 4 := hp
        rw [fset_ne (by omega), fset_ne (by omega), fset_ne (by omega), fset_ne (by omega), fset_ne (by omega), fset_ne (by omega), fset_ne (by omega), fset_ne (by omega)]
        exact h.2.2.1.2.2.1 p hp
      · have hp : N 1 ≤ p := hp
        rw [fset_ne (by omega), fset_ne (by omega), fset_ne (by omega), fset_ne (by omega)]
        exact h.2.2.1.2.2.2 p (by omega) h5
    exact ⟨⟨hI, zFe.mv (N := zNN N 3) hI.bnd hfe hz hm, zVo.mv (N := zNN N 3) hvo hz, hz.2 (h.2.2.2.1.mv fun k j q => by unfold cRl at q; rw [fset_ne (by omega), fset_ne (by omega), fset_ne (by omega), fset_ne (by omega)]), hm.2 (rKn.mv (N := N) (fun k j q => by rw [frow_ne (by omega), fset_ne (by omega)]) h.2.2.2.2)⟩, hx, fun _ => rfl⟩
theorem ab_town (h : zRl N F G) (hc : zR2 x (zin 0 99 a1 ∧ zin 0 99 a2 ∧ zin 0 999 a3) (N 4 < 5) (cM F F') (n' = (nI (N 4)).toInt64 ∧ cI (N 0) (N 2) (N 1) (N 3) (N 4 + 1) F' ∧ cRw sRo (fset (fset (fset (fset F 24 (N 4) a1) 25 (N 4) a2) 26 (N 4) a3) 23 4 (nI (N 4 + 1))) F')) (hr : rAddR 4 5 38 (zin 0 99 a1 ∧ zin 0 99 a2 ∧ zin 0 999 a3) (fun fe => fe 0 = a1 ∧ fe 1 = a2 ∧ fe 2 = a3) N G b N' G') : zRl N' F' G' ∧ x = G' 0 0 ∧ (x = nI 0 → n' = b.toInt64) := by
  obtain ⟨hx, h9⟩ := zR2.both hc hr Iff.rfl Iff.rfl
  rcases h9 with ⟨n0, p, rfl, q⟩ | ⟨rfl, g9, hlt, ⟨rfl, hI, hz⟩, rfl, rfl, md, fe, ⟨f0, f1, f2⟩, hm⟩
  · exact ⟨h.mv p q, hx, fun e => absurd e n0⟩
  · obtain ⟨c0, c2, c1, c3, c4⟩ := h.1.bnd
    obtain ⟨m, hm1, hm2, hm3⟩ := h.2.1.2.1
    obtain ⟨w, hw1, hw2, hw3⟩ := h.2.1.2.2
    have hm : rM (zNN N 4) (frow (fset G 5 0 md) (38 + N 4) fe) G' := hm
    have hfe : zFe (zNN N 4) (fset (fset (fset (fset F 24 (N 4) a1) 25 (N 4) a2) 26 (N 4) a3) 23 4 (nI (N 4 + 1))) (frow (fset G 5 0 md) (38 + N 4) fe) := by
      refine ⟨fun k j k' j' q => ?_, ?_, ?_⟩
      · rcases (show (k = 0 ∧ j = 8 ∧ k' = 0 ∧ j' = 9) ∨ (k = 0 ∧ j = 5 ∧ k' = 0 ∧ j' = 6) ∨ (k = 0 ∧ j = 6 ∧ k' = 0 ∧ j' = 7) ∨ (k = 0 ∧ j = 7 ∧ k' = 0 ∧ j' = 8) ∨ (2 ≤ k ∧ k ≤ 4 ∧ j < N 0 ∧ k' = 14 + j ∧ j' = k - 2) ∨ (8 ≤ k ∧ k ≤ 10 ∧ j < N 1 ∧ k' = 21 + j ∧ j' = k - 8) ∨ (5 ≤ k ∧ k ≤ 6 ∧ j < N 2 ∧ k' = 26 + j ∧ j' = k - 5) ∨ (19 ≤ k ∧ k ≤ 21 ∧ j < N 3 ∧ k' = 32 + j ∧ j' = k - 19) ∨ (24 ≤ k ∧ k ≤ 26 ∧ j < N 4 + 1 ∧ k' = 38 + j ∧ j' = k - 24) ∨ (k = 11 ∧ j < N 1 ∧ k' = 21 + j ∧ j' = 4) from q) with ⟨rfl, rfl, rfl, rfl⟩ | ⟨rfl, rfl, rfl, rfl⟩ | ⟨rfl, rfl, rfl, rfl⟩ | ⟨rfl, rfl, rfl, rfl⟩ | ⟨lo, hi, hj, rfl, rfl⟩ | ⟨lo, hi, hj, rfl, rfl⟩ | ⟨lo, hi, hj, rfl, rfl⟩ | ⟨lo, hi, hj, rfl, rfl⟩ | ⟨lo, hi, hj, rfl, rfl⟩ | ⟨rfl, hj, rfl, rfl⟩
        · rw [fset_ne (by omega), fset_ne (by omega), fset_ne (by omega), fset_ne (by omega), frow_ne (by omega), fset_ne (by omega)]
          exact h.2.1.1 _ _ _ _ (Or.inl ⟨rfl, rfl, rfl, rfl⟩)
        · rw [fset_ne (by omega), fset_ne (by omega), fset_ne (by omega), fset_ne (by omega), frow_ne (by omega), fset_ne (by omega)]
          exact h.2.1.1 _ _ _ _ (Or.inr (Or.inl ⟨rfl, rfl, rfl, rfl⟩))
        · rw [fset_ne (by omega), fset_ne (by omega), fset_ne (by omega), fset_ne (by omega), frow_ne (by omega), fset_ne (by omega)]
          exact h.2.1.1 _ _ _ _ (Or.inr (Or.inr (Or.inl ⟨rfl, rfl, rfl, rfl⟩)))
        · rw [fset_ne (by omega), fset_ne (by omega), fset_ne (by omega), fset_ne (by omega), frow_ne (by omega), fset_ne (by omega)]
          exact h.2.1.1 _ _ _ _ (Or.inr (Or.inr (Or.inr (Or.inl ⟨rfl, rfl, rfl, rfl⟩))))
        · rw [fset_ne (by omega), fset_ne (by omega), fset_ne (by omega), fset_ne (by omega), frow_ne (by omega), fset_ne (by omega)]
          exact h.2.1.1 _ _ _ _ (Or.inr (Or.inr (Or.inr (Or.inr (Or.inl ⟨lo, hi, by omega, rfl, rfl⟩)))))
        · rw [fset_ne (by omega), fset_ne (by omega), fset_ne (by omega), fset_ne (by omega), frow_ne (by omega), fset_ne (by omega)]
          exact h.2.1.1 _ _ _ _ (Or.inr (Or.inr (Or.inr (Or.inr (Or.inr (Or.inl ⟨lo, hi, by omega, rfl, rfl⟩))))))
        · rw [fset_ne (by omega), fset_ne (by omega), fset_ne (by omega), fset_ne (by omega), frow_ne (by omega), fset_ne (by omega)]
          exact h.2.1.1 _ _ _ _ (Or.inr (Or.inr (Or.inr (Or.inr (Or.inr (Or.inr (Or.inl ⟨lo, hi, by omega, rfl, rfl⟩)))))))
        · rw [fset_ne (by omega), fset_ne (by omega), fset_ne (by omega), fset_ne (by omega), frow_ne (by omega), fset_ne (by omega)]
          exact h.2.1.1 _ _ _ _ (Or.inr (Or.inr (Or.inr (Or.inr (Or.inr (Or.inr (Or.inr (Or.inl ⟨lo, hi, by omega, rfl, rfl⟩))))))))
        · by_cases e : j = N 4
          · subst e
            rcases (show k = 24 ∨ k = 25 ∨ k = 26 by omega) with rfl | rfl | rfl
            · repeat first | rw [fset_eq] | rw [fset_ne (by omega)] | rw [frow_eq] | rw [frow_ne (by omega)]
              exact f0.symm
            · repeat first | rw [fset_eq] | rw [fset_ne (by omega)] | rw [frow_eq] | rw [frow_ne (by omega)]
              exact f1.symm
            · repeat first | rw [fset_eq] | rw [fset_ne (by omega)] | rw [frow_eq] | rw [frow_ne (by omega)]
              exact f2.symm
          · rw [fset_ne (by omega), fset_ne (by omega), fset_ne (by omega), fset_ne (by omega), frow_ne (by omega), fset_ne (by omega)]
            exact h.2.1.1 _ _ _ _ (Or.inr (Or.inr (Or.inr (Or.inr (Or.inr (Or.inr (Or.inr (Or.inr (Or.inl ⟨lo, hi, by omega, rfl, rfl⟩)))))))))
        · rw [fset_ne (by omega), fset_ne (by omega), fset_ne (by omega), fset_ne (by omega), frow_ne (by omega), fset_ne (by omega)]
          exact h.2.1.1 _ _ _ _ (Or.inr (Or.inr (Or.inr (Or.inr (Or.inr (Or.inr (Or.inr (Or.inr (Or.inr (⟨rfl, by omega, rfl, rfl⟩))))))))))
      · refine ⟨m, hm1, ?_, fun p hp => ?_⟩
        · repeat first | rw [fset_eq] | rw [fset_ne (by omega)] | rw [frow_eq] | rw [frow_ne (by omega)]
          exact hm2
        · have hp : p < N 1 := hp
          dsimp only
          repeat first | rw [fset_eq] | rw [fset_ne (by omega)] | rw [frow_eq] | rw [frow_ne (by omega)]
          exact hm3 p hp
      · refine ⟨w, hw1, ?_, fun p hp => ?_⟩
        · repeat first | rw [fset_eq] | rw [fset_ne (by omega)] | rw [frow_eq] | rw [frow_ne (by omega)]
          exact hw2
        · have hp : p < N 3 := hp
          dsimp only
          repeat first | rw [fset_eq] | rw [fset_ne (by omega)] | rw [frow_eq] | rw [frow_ne (by omega)]
          exact hw3 p hp
    have hvo : zVo (zNN N 4) (fset (fset (fset (fset F 24 (N 4) a1) 25 (N 4) a2) 26 (N 4) a3) 23 4 (nI (N 4 + 1))) := by
      refine ⟨fun p hp => ?_, fun p hp => ?_, fun p hp => ?_, fun p hp h5 => ?_⟩
      · have hp : p < N 0 := hp
        repeat first | rw [fset_eq] | rw [fset_ne (by omega)] | rw [frow_eq] | rw [frow_ne (by omega)]
        exact h.2.2.1.1 p hp
      · have hp : p < N 1 := hp
        repeat first | rw [fset_eq] | rw [fset_ne (by omega)] | rw [frow_eq] | rw [frow_ne (by omega)]
        exact h.2.2.1.2.1 p hp
      · have hp : p < N 4 + 1 := hp
        by_cases e : p = N 4
        · subst e
          obtain ⟨x9, rfl, -, hx9⟩ := g9.1
          obtain ⟨y9, rfl, -, hy9⟩ := g9.2.1
          refine ⟨x9, y9, by omega, by omega, ?_, ?_⟩ <;> repeat first | rw [fset_eq] | rw [fset_ne (by omega)] | rw [frow_eq] | rw [frow_ne (by omega)]
        · rw [fset_ne (by omega), fset_ne (by omega), fset_ne (by omega), fset_ne (by omega), fset_ne (by omega), fset_ne (by omega), fset_ne (by omega), fset_ne (by omega)]
          exact h.2.2.1.2.2.1 p (by omega)
      · have hp : N 1 ≤ p := hp
        rw [fset_ne (by omega), fset_ne (by omega), fset_ne (by omega), fset_ne (by omega)]
        exact h.2.2.1.2.2.2 p (by omega) h5
    have o9 := zRo_c hz
    have hfe' : zFe (zNN N 4) F' (frow (fset G 5 0 md) (38 + N 4) fe) := by
      refine ⟨fun k j k' j' q => ?_, ?_, ?_⟩
      · rw [o9 k j (by rcases (show (k = 0 ∧ j = 8 ∧ k' = 0 ∧ j' = 9) ∨ (k = 0 ∧ j = 5 ∧ k' = 0 ∧ j' = 6) ∨ (k = 0 ∧ j = 6 ∧ k' = 0 ∧ j' = 7) ∨ (k = 0 ∧ j = 7 ∧ k' = 0 ∧ j' = 8) ∨ (2 ≤ k ∧ k ≤ 4 ∧ j < N 0 ∧ k' = 14 + j ∧ j' = k - 2) ∨ (8 ≤ k ∧ k ≤ 10 ∧ j < N 1 ∧ k' = 21 + j ∧ j' = k - 8) ∨ (5 ≤ k ∧ k ≤ 6 ∧ j < N 2 ∧ k' = 26 + j ∧ j' = k - 5) ∨ (19 ≤ k ∧ k ≤ 21 ∧ j < N 3 ∧ k' = 32 + j ∧ j' = k - 19) ∨ (24 ≤ k ∧ k ≤ 26 ∧ j < N 4 + 1 ∧ k' = 38 + j ∧ j' = k - 24) ∨ (k = 11 ∧ j < N 1 ∧ k' = 21 + j ∧ j' = 4) from q) with ⟨rfl, rfl, rfl, rfl⟩ | ⟨rfl, rfl, rfl, rfl⟩ | ⟨rfl, rfl, rfl, rfl⟩ | ⟨rfl, rfl, rfl, rfl⟩ | ⟨lo, hi, hj, rfl, rfl⟩ | ⟨lo, hi, hj, rfl, rfl⟩ | ⟨lo, hi, hj, rfl, rfl⟩ | ⟨lo, hi, hj, rfl, rfl⟩ | ⟨lo, hi, hj, rfl, rfl⟩ | ⟨rfl, hj, rfl, rfl⟩ <;> omega)]; exact hfe.1 k j k' j' q
      · have z := hfe.2.1; unfold zSk at z ⊢; rw [o9 7 5 (by decide)]; exact z
      · have z := hfe.2.2; unfold zPw at z ⊢; rw [o9 18 4 (by decide)]; exact z
    exact ⟨⟨hI, zFe.mv (N := zNN N 4) hI.bnd hfe' cM.rfl' hm, hvo.cg (fun k j q => o9 k j (by omega)), (h.2.2.2.1.mv fun k j q => by unfold cRl at q; rw [zRo_c hz k j (by omega), fset_ne (by omega), fset_ne (by omega), fset_ne (by omega), fset_ne (by omega)]), hm.2 (rKn.mv (N := N) (fun k j q => by rw [frow_ne (by omega), fset_ne (by omega)]) h.2.2.2.2)⟩, hx, fun _ => rfl⟩
theorem ab_pause (h : zRl N F G) (hc : zR2 x (zlt (N 2) a1) (zin 0 9 a2) (cM F F') (∃ s : Nat, a1 = nI s ∧ s < N 2 ∧ n' = (F 6 s).toInt64 ∧ cM (fset (fset F 12 3 (nI 0)) 6 s a2) F')) (hr : zR2 (G' 0 0) (zlt (N 2) a1) (zin 0 9 a2) (rM N G G') (∃ s : Nat, a1 = nI s ∧ s < N 2 ∧ b = G (26 + s) 1 ∧ rM N (fset (fset G (26 + s) 1 a2) 0 11 (nI 0)) G')) : zRl N F' G' ∧ x = G' 0 0 ∧ (x = nI 0 → n' = b.toInt64) := by
  obtain ⟨hx, h9⟩ := zR2.both hc hr Iff.rfl Iff.rfl
  obtain ⟨c0, c2, c1, c3, c4⟩ := h.1.bnd
  rcases h9 with ⟨n0, p, q⟩ | ⟨rfl, -, -, ⟨s, es, ls, rfl, hz⟩, s', es', ls', rfl, hm⟩
  · exact ⟨h.mv p q, hx, fun e => absurd e n0⟩
  · have : s' = s := (nI_eq (by omega) (by omega)).mp (es'.symm.trans es)
    subst this
    have hfe : zFe N (fset (fset F 12 3 (nI 0)) 6 s' a2) (fset (fset G (26 + s') 1 a2) 0 11 (nI 0)) := by
      refine ⟨fun k j k' j' q => ?_, ?_, ?_⟩
      · rcases (show (k = 0 ∧ j = 8 ∧ k' = 0 ∧ j' = 9) ∨ (k = 0 ∧ j = 5 ∧ k' = 0 ∧ j' = 6) ∨ (k = 0 ∧ j = 6 ∧ k' = 0 ∧ j' = 7) ∨ (k = 0 ∧ j = 7 ∧ k' = 0 ∧ j' = 8) ∨ (2 ≤ k ∧ k ≤ 4 ∧ j < N 0 ∧ k' = 14 + j ∧ j' = k - 2) ∨ (8 ≤ k ∧ k ≤ 10 ∧ j < N 1 ∧ k' = 21 + j ∧ j' = k - 8) ∨ (5 ≤ k ∧ k ≤ 6 ∧ j < N 2 ∧ k' = 26 + j ∧ j' = k - 5) ∨ (19 ≤ k ∧ k ≤ 21 ∧ j < N 3 ∧ k' = 32 + j ∧ j' = k - 19) ∨ (24 ≤ k ∧ k ≤ 26 ∧ j < N 4 ∧ k' = 38 + j ∧ j' = k - 24) ∨ (k = 11 ∧ j < N 1 ∧ k' = 21 + j ∧ j' = 4) from q) with ⟨rfl, rfl, rfl, rfl⟩ | ⟨rfl, rfl, rfl, rfl⟩ | ⟨rfl, rfl, rfl, rfl⟩ | ⟨rfl, rfl, rfl, rfl⟩ | ⟨lo, hi, hj, rfl, rfl⟩ | ⟨lo, hi, hj, rfl, rfl⟩ | ⟨lo, hi, hj, rfl, rfl⟩ | ⟨lo, hi, hj, rfl, rfl⟩ | ⟨lo, hi, hj, rfl, rfl⟩ | ⟨rfl, hj, rfl, rfl⟩
        · rw [fset_ne (by omega), fset_ne (by omega), fset_ne (by omega), fset_ne (by omega)]
          exact h.2.1.1 _ _ _ _ (Or.inl ⟨rfl, rfl, rfl, rfl⟩)
        · rw [fset_ne (by omega), fset_ne (by omega), fset_ne (by omega), fset_ne (by omega)]
          exact h.2.1.1 _ _ _ _ (Or.inr (Or.inl ⟨rfl, rfl, rfl, rfl⟩))
        · rw [fset_ne (by omega), fset_ne (by omega), fset_ne (by omega), fset_ne (by omega)]
          exact h.2.1.1 _ _ _ _ (Or.inr (Or.inr (Or.inl ⟨rfl, rfl, rfl, rfl⟩)))
        · rw [fset_ne (by omega), fset_ne (by omega), fset_ne (by omega), fset_ne (by omega)]
          exact h.2.1.1 _ _ _ _ (Or.inr (Or.inr (Or.inr (Or.inl ⟨rfl, rfl, rfl, rfl⟩))))
        · rw [fset_ne (by omega), fset_ne (by omega), fset_ne (by omega), fset_ne (by omega)]
          exact h.2.1.1 _ _ _ _ (Or.inr (Or.inr (Or.inr (Or.inr (Or.inl ⟨lo, hi, by omega, rfl, rfl⟩)))))
        · rw [fset_ne (by omega), fset_ne (by omega), fset_ne (by omega), fset_ne (by omega)]
          exact h.2.1.1 _ _ _ _ (Or.inr (Or.inr (Or.inr (Or.inr (Or.inr (Or.inl ⟨lo, hi, by omega, rfl, rfl⟩))))))
        · by_cases e : k = 6 ∧ j = s'
          · obtain ⟨rfl, rfl⟩ := e
            rw [fset_eq, fset_ne (by omega), fset_eq]
          · rw [fset_ne (by omega), fset_ne (by omega), fset_ne (by omega), fset_ne (by omega)]
            exact h.2.1.1 _ _ _ _ (Or.inr (Or.inr (Or.inr (Or.inr (Or.inr (Or.inr (Or.inl ⟨lo, hi, by omega, rfl, rfl⟩)))))))
        · rw [fset_ne (by omega), fset_ne (by omega), fset_ne (by omega), fset_ne (by omega)]
          exact h.2.1.1 _ _ _ _ (Or.inr (Or.inr (Or.inr (Or.inr (Or.inr (Or.inr (Or.inr (Or.inl ⟨lo, hi, by omega, rfl, rfl⟩))))))))
        · rw [fset_ne (by omega), fset_ne (by omega), fset_ne (by omega), fset_ne (by omega)]
          exact h.2.1.1 _ _ _ _ (Or.inr (Or.inr (Or.inr (Or.inr (Or.inr (Or.inr (Or.inr (Or.inr (Or.inl ⟨lo, hi, by omega, rfl, rfl⟩)))))))))
        · rw [fset_ne (by omega), fset_ne (by omega), fset_ne (by omega), fset_ne (by omega)]
          exact h.2.1.1 _ _ _ _ (Or.inr (Or.inr (Or.inr (Or.inr (Or.inr (Or.inr (Or.inr (Or.inr (Or.inr (⟨rfl, by omega, rfl, rfl⟩))))))))))
      · have z := h.2.1.2.1; unfold zSk at z ⊢; rw [fset_ne (by omega), fset_ne (by omega)]; exact z.cg fun p hp => by rw [fset_ne (by omega), fset_ne (by omega)]
      · have z := h.2.1.2.2; unfold zPw at z ⊢; rw [fset_ne (by omega), fset_ne (by omega)]; exact z.cg fun p hp => by rw [fset_ne (by omega), fset_ne (by omega)]
    have hvo : zVo N (fset (fset F 12 3 (nI 0)) 6 s' a2) := h.2.2.1.cg fun k j q => by rw [fset_ne (by omega), fset_ne (by omega)]
    refine ⟨⟨((h.1.st (F' := fset F 12 3 (nI 0)) rfl rfl).st (F' := (fset (fset F 12 3 (nI 0)) 6 s' a2)) rfl rfl).mvM hz, zFe.mv h.1.bnd hfe hz hm, hvo.mv hz, hz.2 (Or.inl (by rw [fset_ne (by omega), fset_eq]; exact nI_0)), hm.2 (Or.inl (fset_eq.trans nI_0))⟩, hx, fun _ => congrArg Int32.toInt64 (h.2.1.1 6 s' (26 + s') 1 (Or.inr (Or.inr (Or.inr (Or.inr (Or.inr (Or.inr (Or.inl ⟨by omega, by omega, ls, rfl, rfl⟩))))))))⟩
/-- how many of the first are not in a set -/
def zwm (m : Nat) : Nat → Nat
  | 0 => 0
  | n + 1 => zwm m n + (if m.testBit n = true then 0 else 1)
theorem zwm_ok : ∀ n, n < 6 → ∀ m, m < 32 → m < 2 ^ n → nI n - zbc (nI m) = nI (zwm m n) := by decide +kernel
theorem zsk_a : ∀ m, m < 64 → ∀ p, p < 6 → zsk (nI m) p 0 = nI (m &&& (63 ^^^ 2 ^ p)) := by decide +kernel
theorem zsk_b : ∀ m, m < 64 → ∀ p, p < 6 → ∀ q, q < 6 → (m &&& (63 ^^^ 2 ^ p)).testBit q = (q != p && m.testBit q) := by decide +kernel
theorem zsk_c : ∀ m, m < 64 → ∀ p, p < 6 → zsk (nI m) p 1 = nI (m ||| 2 ^ p) := by decide +kernel
theorem zsk_d : ∀ m, m < 64 → ∀ p, p < 6 → ∀ q, q < 6 → (m ||| 2 ^ p).testBit q = (q == p || m.testBit q) := by decide +kernel
theorem zwl_m {m : Nat} (n : Nat) (h : ∀ p, p < n → (m.testBit p = true ↔ G (21 + p) 3 = nI 1)) (h01 : ∀ p, p < n → G (21 + p) 3 = 0 ∨ G (21 + p) 3 = 1) : zwl G n = zwm m n := by
  induction n with
  | zero => rfl
  | succ n ih =>
    show zwl G n + _ = zwm m n + _
    rw [ih (fun p hp => h p (by omega)) (fun p hp => h01 p (by omega))]
    have h1 := h n (Nat.lt_succ_self n)
    rcases h01 n (Nat.lt_succ_self n) with e | e
    · rw [if_pos e, if_neg (fun q => by have := h1.mp q; rw [e] at this; exact absurd this (by decide))]
    · rw [if_neg (by rw [e]; decide), if_pos (h1.mpr e)]
/-- a bit is set, or taken away -/
theorem zBi_set {n s : Nat} {y : Int32} {P : Nat → Int32} (hn : n ≤ 6) (h : zBi n y (fun p => P p = nI 1)) (ha2 : a2 = 0 ∨ a2 = 1) (ls : s < n) : zBi n (zsk y s a2) (fun p => (if p = s then a2 else P p) = nI 1) := by
  obtain ⟨m, hm1, hm2, hm3⟩ := h
  have m64 : m < 64 := Nat.lt_of_lt_of_le hm1 (zp2 (n := 6) hn)
  rw [hm2]
  rcases ha2 with rfl | rfl
  · refine ⟨_, Nat.lt_of_le_of_lt Nat.and_le_left hm1, zsk_a m m64 s (by omega), fun p hp => ?_⟩
    have h3 : m.testBit p = true ↔ P p = nI 1 := hm3 p hp
    dsimp only
    rw [zsk_b m m64 s (by omega) p (by omega)]
    by_cases e : p = s
    · rw [if_pos e, e]
      simp
      decide
    · rw [if_neg e, ← h3]
      simp [e]
  · refine ⟨_, zor hm1 ls, zsk_c m m64 s (by omega), fun p hp => ?_⟩
    have h3 : m.testBit p = true ↔ P p = nI 1 := hm3 p hp
    dsimp only
    rw [zsk_d m m64 s (by omega) p (by omega)]
    by_cases e : p = s
    · rw [if_pos e, e]
      simp
      decide
    · rw [if_neg e, ← h3]
      simp [e]
theorem fset_if {G : Nat → Nat → Int32} {c s p : Nat} {v : Int32} : fset G (c + s) 3 v (c + p) 3 = if p = s then v else G (c + p) 3 := by
  by_cases e : p = s
  · rw [if_pos e, e, fset_eq]
  · rw [if_neg e, fset_ne (by omega)]
/-- one falls sick, or is well again -/
theorem zFe_sk {s : Nat} (c : N 0 ≤ 7 ∧ N 2 ≤ 6 ∧ N 1 ≤ 5 ∧ N 3 ≤ 6 ∧ N 4 ≤ 5) (h : zFe N F G) (ha2 : a2 = 0 ∨ a2 = 1) (ls : s < N 1) : zFe N (fset F 7 5 (zsk (F 7 5) s a2)) (fset G (21 + s) 3 a2) := by
  obtain ⟨c0, c2, c1, c3, c4⟩ := c
  refine ⟨fun k j k' j' q => ?_, ?_, ?_⟩
  · rcases (show (k = 0 ∧ j = 8 ∧ k' = 0 ∧ j' = 9) ∨ (k = 0 ∧ j = 5 ∧ k' = 0 ∧ j' = 6) ∨ (k = 0 ∧ j = 6 ∧ k' = 0 ∧ j' = 7) ∨ (k = 0 ∧ j = 7 ∧ k' = 0 ∧ j' = 8) ∨ (2 ≤ k ∧ k ≤ 4 ∧ j < N 0 ∧ k' = 14 + j ∧ j' = k - 2) ∨ (8 ≤ k ∧ k ≤ 10 ∧ j < N 1 ∧ k' = 21 + j ∧ j' = k - 8) ∨ (5 ≤ k ∧ k ≤ 6 ∧ j < N 2 ∧ k' = 26 + j ∧ j' = k - 5) ∨ (19 ≤ k ∧ k ≤ 21 ∧ j < N 3 ∧ k' = 32 + j ∧ j' = k - 19) ∨ (24 ≤ k ∧ k ≤ 26 ∧ j < N 4 ∧ k' = 38 + j ∧ j' = k - 24) ∨ (k = 11 ∧ j < N 1 ∧ k' = 21 + j ∧ j' = 4) from q) with ⟨rfl, rfl, rfl, rfl⟩ | ⟨rfl, rfl, rfl, rfl⟩ | ⟨rfl, rfl, rfl, rfl⟩ | ⟨rfl, rfl, rfl, rfl⟩ | ⟨lo, hi, hj, rfl, rfl⟩ | ⟨lo, hi, hj, rfl, rfl⟩ | ⟨lo, hi, hj, rfl, rfl⟩ | ⟨lo, hi, hj, rfl, rfl⟩ | ⟨lo, hi, hj, rfl, rfl⟩ | ⟨rfl, hj, rfl, rfl⟩
    · rw [fset_ne (by omega), fset_ne (by omega)]
      exact h.1 _ _ _ _ (Or.inl ⟨rfl, rfl, rfl, rfl⟩)
    · rw [fset_ne (by omega), fset_ne (by omega)]
      exact h.1 _ _ _ _ (Or.inr (Or.inl ⟨rfl, rfl, rfl, rfl⟩))
    · rw [fset_ne (by omega), fset_ne (by omega)]
      exact h.1 _ _ _ _ (Or.inr (Or.inr (Or.inl ⟨rfl, rfl, rfl, rfl⟩)))
    · rw [fset_ne (by omega), fset_ne (by omega)]
      exact h.1 _ _ _ _ (Or.inr (Or.inr (Or.inr (Or.inl ⟨rfl, rfl, rfl, rfl⟩))))
    · rw [fset_ne (by omega), fset_ne (by omega)]
      exact h.1 _ _ _ _ (Or.inr (Or.inr (Or.inr (Or.inr (Or.inl ⟨lo, hi, by omega, rfl, rfl⟩)))))
    · rw [fset_ne (by omega), fset_ne (by omega)]
      exact h.1 _ _ _ _ (Or.inr (Or.inr (Or.inr (Or.inr (Or.inr (Or.inl ⟨lo, hi, by omega, rfl, rfl⟩))))))
    · rw [fset_ne (by omega), fset_ne (by omega)]
      exact h.1 _ _ _ _ (Or.inr (Or.inr (Or.inr (Or.inr (Or.inr (Or.inr (Or.inl ⟨lo, hi, by omega, rfl, rfl⟩)))))))
    · rw [fset_ne (by omega), fset_ne (by omega)]
      exact h.1 _ _ _ _ (Or.inr (Or.inr (Or.inr (Or.inr (Or.inr (Or.inr (Or.inr (Or.inl ⟨lo, hi, by omega, rfl, rfl⟩))))))))
    · rw [fset_ne (by omega), fset_ne (by omega)]
      exact h.1 _ _ _ _ (Or.inr (Or.inr (Or.inr (Or.inr (Or.inr (Or.inr (Or.inr (Or.inr (Or.inl ⟨lo, hi, by omega, rfl, rfl⟩)))))))))
    · rw [fset_ne (by omega), fset_ne (by omega)]
      exact h.1 _ _ _ _ (Or.inr (Or.inr (Or.inr (Or.inr (Or.inr (Or.inr (Or.inr (Or.inr (Or.inr (⟨rfl, by omega, rfl, rfl⟩))))))))))
  · have z := zBi_set (s := s) (P := fun p => G (21 + p) 3) (by omega) h.2.1 ha2 ls
    unfold zSk
    rw [fset_eq]
    exact z.cg fun p hp => by rw [fset_if]
  · have z := h.2.2; unfold zPw at z ⊢; rw [fset_ne (by omega)]; exact z.cg fun p hp => by rw [fset_ne (by omega)]
theorem ab_sick (h : zRl N F G) (ha2 : a2 = 0 ∨ a2 = 1) (hI' : rI N G') (hc : zR2 x (zlt (N 1) a1) True (cM F F') (∃ p : Nat, a1 = nI p ∧ p < N 1 ∧ n' = (nI (N 1) - zbc (F' 7 5)).toInt64 ∧ cM (fset (fset F 12 3 (nI 0)) 7 5 (zsk (F 7 5) p a2)) F')) (hr : zR2 (G' 0 0) (zlt (N 1) a1) True (rM N G G') (∃ p : Nat, a1 = nI p ∧ p < N 1 ∧ b = nI (zwl G' (N 1)) ∧ rM N (fset (fset G (21 + p) 3 a2) 0 11 (nI 0)) G')) : zRl N F' G' ∧ x = G' 0 0 ∧ (x = nI 0 → n' = b.toInt64) := by
  obtain ⟨hx, h9⟩ := zR2.both hc hr Iff.rfl Iff.rfl
  obtain ⟨c0, c2, c1, c3, c4⟩ := h.1.bnd
  rcases h9 with ⟨n0, p, q⟩ | ⟨rfl, -, -, ⟨s, es, ls, rfl, hz⟩, s', es', ls', rfl, hm⟩
  · exact ⟨h.mv p q, hx, fun e => absurd e n0⟩
  · have : s' = s := (nI_eq (by omega) (by omega)).mp (es'.symm.trans es)
    subst this
    have hf0 := zFe_sk h.1.bnd h.2.1 ha2 ls
    have hfe : zFe N (fset (fset F 12 3 (nI 0)) 7 5 (zsk (F 7 5) s' a2)) (fset (fset G (21 + s') 3 a2) 0 11 (nI 0)) := by
      have e1 : ∀ k j, k ≠ 12 → fset (fset F 12 3 (nI 0)) 7 5 (zsk (F 7 5) s' a2) k j = fset F 7 5 (zsk (F 7 5) s' a2) k j := fun k j q => by
        by_cases e : k = 7 ∧ j = 5
        · obtain ⟨rfl, rfl⟩ := e; rw [fset_eq, fset_eq]
        · rw [fset_ne (by omega), fset_ne (by omega), fset_ne (by omega)]
      refine ⟨fun k j k' j' q => ?_, ?_, ?_⟩
      · rw [e1 k j (by rcases (show (k = 0 ∧ j = 8 ∧ k' = 0 ∧ j' = 9) ∨ (k = 0 ∧ j = 5 ∧ k' = 0 ∧ j' = 6) ∨ (k = 0 ∧ j = 6 ∧ k' = 0 ∧ j' = 7) ∨ (k = 0 ∧ j = 7 ∧ k' = 0 ∧ j' = 8) ∨ (2 ≤ k ∧ k ≤ 4 ∧ j < N 0 ∧ k' = 14 + j ∧ j' = k - 2) ∨ (8 ≤ k ∧ k ≤ 10 ∧ j < N 1 ∧ k' = 21 + j ∧ j' = k - 8) ∨ (5 ≤ k ∧ k ≤ 6 ∧ j < N 2 ∧ k' = 26 + j ∧ j' = k - 5) ∨ (19 ≤ k ∧ k ≤ 21 ∧ j < N 3 ∧ k' = 32 + j ∧ j' = k - 19) ∨ (24 ≤ k ∧ k ≤ 26 ∧ j < N 4 ∧ k' = 38 + j ∧ j' = k - 24) ∨ (k = 11 ∧ j < N 1 ∧ k' = 21 + j ∧ j' = 4) from q) with ⟨rfl, rfl, rfl, rfl⟩ | ⟨rfl, rfl, rfl, rfl⟩ | ⟨rfl, rfl, rfl, rfl⟩ | ⟨rfl, rfl, rfl, rfl⟩ | ⟨lo, hi, hj, rfl, rfl⟩ | ⟨lo, hi, hj, rfl, rfl⟩ | ⟨lo, hi, hj, rfl, rfl⟩ | ⟨lo, hi, hj, rfl, rfl⟩ | ⟨lo, hi, hj, rfl, rfl⟩ | ⟨rfl, hj, rfl, rfl⟩ <;> omega), fset_ne (k := 0) (j := 11) (k' := k') (j' := j') (by rcases (show (k = 0 ∧ j = 8 ∧ k' = 0 ∧ j' = 9) ∨ (k = 0 ∧ j = 5 ∧ k' = 0 ∧ j' = 6) ∨ (k = 0 ∧ j = 6 ∧ k' = 0 ∧ j' = 7) ∨ (k = 0 ∧ j = 7 ∧ k' = 0 ∧ j' = 8) ∨ (2 ≤ k ∧ k ≤ 4 ∧ j < N 0 ∧ k' = 14 + j ∧ j' = k - 2) ∨ (8 ≤ k ∧ k ≤ 10 ∧ j < N 1 ∧ k' = 21 + j ∧ j' = k - 8) ∨ (5 ≤ k ∧ k ≤ 6 ∧ j < N 2 ∧ k' = 26 + j ∧ j' = k - 5) ∨ (19 ≤ k ∧ k ≤ 21 ∧ j < N 3 ∧ k' = 32 + j ∧ j' = k - 19) ∨ (24 ≤ k ∧ k ≤ 26 ∧ j < N 4 ∧ k' = 38 + j ∧ j' = k - 24) ∨ (k = 11 ∧ j < N 1 ∧ k' = 21 + j ∧ j' = 4) from q) with ⟨rfl, rfl, rfl, rfl⟩ | ⟨rfl, rfl, rfl, rfl⟩ | ⟨rfl, rfl, rfl, rfl⟩ | ⟨rfl, rfl, rfl, rfl⟩ | ⟨lo, hi, hj, rfl, rfl⟩ | ⟨lo, hi, hj, rfl, rfl⟩ | ⟨lo, hi, hj, rfl, rfl⟩ | ⟨lo, hi, hj, rfl, rfl⟩ | ⟨lo, hi, hj, rfl, rfl⟩ | ⟨rfl, hj, rfl, rfl⟩ <;> omega)]; exact hf0.1 k j k' j' q
      · have z := hf0.2.1; unfold zSk at z ⊢; rw [e1 7 5 (by decide)]; exact z.cg fun p hp => by rw [fset_ne (k := 0) (by omega)]
      · have z := hf0.2.2; unfold zPw at z ⊢; rw [e1 18 4 (by decide)]; exact z.cg fun p hp => by rw [fset_ne (k := 0) (by omega)]
    have hvo : zVo N (fset (fset F 12 3 (nI 0)) 7 5 (zsk (F 7 5) s' a2)) := h.2.2.1.cg fun k j q => by rw [fset_ne (by omega), fset_ne (by omega)]
    have hR : zRl N F' G' := ⟨((h.1.st (F' := fset F 12 3 (nI 0)) rfl rfl).st (F' := (fset (fset F 12 3 (nI 0)) 7 5 (zsk (F 7 5) s' a2))) rfl rfl).mvM hz, zFe.mv h.1.bnd hfe hz hm, hvo.mv hz, hz.2 (Or.inl (by rw [fset_ne (by omega), fset_eq]; exact nI_0)), hm.2 (Or.inl (fset_eq.trans nI_0))⟩
    refine ⟨hR, hx, fun _ => congrArg Int32.toInt64 ?_⟩
    obtain ⟨m2, j1, j2, j3⟩ := hR.2.1.2.1
    rw [j2, zwm_ok (N 1) (by omega) m2 (Nat.lt_of_lt_of_le j1 (zp2 (n := 5) c1)) j1, zwl_m (N 1) j3 (fun p hp => hI'.sick p hp)]
theorem ab_knock (h : zRl N F G) (hI : cI (N 0) (N 2) (N 1) (N 3) (N 4) F') (hz : F' = fset F 0 8 (F 0 8 + nI 1)) (hm : rM N (fset G 0 9 (G 0 9 + nI 1)) G') : zRl N F' G' := by
  subst hz
  obtain ⟨c0, c2, c1, c3, c4⟩ := h.1.bnd
  have hfe : zFe N (fset F 0 8 (F 0 8 + nI 1)) (fset G 0 9 (G 0 9 + nI 1)) := by
    refine ⟨fun k j k' j' q => ?_, ?_, ?_⟩
    · rcases (show (k = 0 ∧ j = 8 ∧ k' = 0 ∧ j' = 9) ∨ (k = 0 ∧ j = 5 ∧ k' = 0 ∧ j' = 6) ∨ (k = 0 ∧ j = 6 ∧ k' = 0 ∧ j' = 7) ∨ (k = 0 ∧ j = 7 ∧ k' = 0 ∧ j' = 8) ∨ (2 ≤ k ∧ k ≤ 4 ∧ j < N 0 ∧ k' = 14 + j ∧ j' = k - 2) ∨ (8 ≤ k ∧ k ≤ 10 ∧ j < N 1 ∧ k' = 21 + j ∧ j' = k - 8) ∨ (5 ≤ k ∧ k ≤ 6 ∧ j < N 2 ∧ k' = 26 + j ∧ j' = k - 5) ∨ (19 ≤ k ∧ k ≤ 21 ∧ j < N 3 ∧ k' = 32 + j ∧ j' = k - 19) ∨ (24 ≤ k ∧ k ≤ 26 ∧ j < N 4 ∧ k' = 38 + j ∧ j' = k - 24) ∨ (k = 11 ∧ j < N 1 ∧ k' = 21 + j ∧ j' = 4) from q) with ⟨rfl, rfl, rfl, rfl⟩ | ⟨rfl, rfl, rfl, rfl⟩ | ⟨rfl, rfl, rfl, rfl⟩ | ⟨rfl, rfl, rfl, rfl⟩ | ⟨lo, hi, hj, rfl, rfl⟩ | ⟨lo, hi, hj, rfl, rfl⟩ | ⟨lo, hi, hj, rfl, rfl⟩ | ⟨lo, hi, hj, rfl, rfl⟩ | ⟨lo, hi, hj, rfl, rfl⟩ | ⟨rfl, hj, rfl, rfl⟩
      · rw [fset_eq, fset_eq, h.2.1.1 0 8 0 9 (Or.inl ⟨rfl, rfl, rfl, rfl⟩)]
      · rw [fset_ne (by omega), fset_ne (by omega)]
        exact h.2.1.1 _ _ _ _ (Or.inr (Or.inl ⟨rfl, rfl, rfl, rfl⟩))
      · rw [fset_ne (by omega), fset_ne (by omega)]
        exact h.2.1.1 _ _ _ _ (Or.inr (Or.inr (Or.inl ⟨rfl, rfl, rfl, rfl⟩)))
      · rw [fset_ne (by omega), fset_ne (by omega)]
        exact h.2.1.1 _ _ _ _ (Or.inr (Or.inr (Or.inr (Or.inl ⟨rfl, rfl, rfl, rfl⟩))))
      · rw [fset_ne (by omega), fset_ne (by omega)]
        exact h.2.1.1 _ _ _ _ (Or.inr (Or.inr (Or.inr (Or.inr (Or.inl ⟨lo, hi, by omega, rfl, rfl⟩)))))
      · rw [fset_ne (by omega), fset_ne (by omega)]
        exact h.2.1.1 _ _ _ _ (Or.inr (Or.inr (Or.inr (Or.inr (Or.inr (Or.inl ⟨lo, hi, by omega, rfl, rfl⟩))))))
      · rw [fset_ne (by omega), fset_ne (by omega)]
        exact h.2.1.1 _ _ _ _ (Or.inr (Or.inr (Or.inr (Or.inr (Or.inr (Or.inr (Or.inl ⟨lo, hi, by omega, rfl, rfl⟩)))))))
      · rw [fset_ne (by omega), fset_ne (by omega)]
        exact h.2.1.1 _ _ _ _ (Or.inr (Or.inr (Or.inr (Or.inr (Or.inr (Or.inr (Or.inr (Or.inl ⟨lo, hi, by omega, rfl, rfl⟩))))))))
      · rw [fset_ne (by omega), fset_ne (by omega)]
        exact h.2.1.1 _ _ _ _ (Or.inr (Or.inr (Or.inr (Or.inr (Or.inr (Or.inr (Or.inr (Or.inr (Or.inl ⟨lo, hi, by omega, rfl, rfl⟩)))))))))
      · rw [fset_ne (by omega), fset_ne (by omega)]
        exact h.2.1.1 _ _ _ _ (Or.inr (Or.inr (Or.inr (Or.inr (Or.inr (Or.inr (Or.inr (Or.inr (Or.inr (⟨rfl, by omega, rfl, rfl⟩))))))))))
    · have z := h.2.1.2.1; unfold zSk at z ⊢; rw [fset_ne (by omega)]; exact z.cg fun p hp => by rw [fset_ne (by omega)]
    · have z := h.2.1.2.2; unfold zPw at z ⊢; rw [fset_ne (by omega)]; exact z.cg fun p hp => by rw [fset_ne (by omega)]
  exact ⟨hI, zFe.mv h.1.bnd hfe cM.rfl' hm, h.2.2.1.cg (fun k j q => by rw [fset_ne (by omega)]), h.2.2.2.1.mv (fun k j q => by unfold cRl at q; rw [fset_ne (by omega)]), hm.2 (h.2.2.2.2.mv fun k j q => by rw [fset_ne (by omega)])⟩
/-! ===== casts on both sides ===== -/
theorem zRl.bd (h : zRl N F G) (hI : rI N G) : cBd (N 0) (N 2) (N 1) F := ⟨h.2.2.1.1, h.2.2.1.2.1, fun s hs => by
  obtain ⟨m, hm, em⟩ := hI.sp s hs
  exact ⟨m, hm, (h.2.1.1 5 s (26 + s) 0 (Or.inr (Or.inr (Or.inr (Or.inr (Or.inr (Or.inr (Or.inl ⟨by omega, by omega, hs, rfl, rfl⟩)))))))).trans em⟩⟩
theorem zRl.sick (h : zRl N F G) (hI : rI N G) {i : Nat} (hi : i < N 1) : ¬ zIn (F 7 5) (nI i) ↔ G (21 + i) 3 = 0 := by
  obtain ⟨c0, c2, c1, c3, c4⟩ := h.1.bnd
  obtain ⟨m, hm1, hm2, hm3⟩ := h.2.1.2.1
  have m32 : m < 32 := Nat.lt_of_lt_of_le hm1 (zp2 (n := 5) c1)
  have h3 : m.testBit i = true ↔ G (21 + i) 3 = nI 1 := hm3 i hi
  rw [hm2, zIn_nat (by omega) (by omega), h3]
  rcases hI.sick i hi with e | e
  · rw [e]
    exact ⟨fun _ => rfl, fun _ => by decide⟩
  · rw [e]
    exact ⟨fun q => absurd rfl q, fun q => absurd q (by decide)⟩
/-- what is told, on both sides -/
theorem zFe.t (h : zFe N F G) : (∀ s, s < N 2 → F 5 s = rSp G s) ∧ (∀ s, s < N 2 → F 6 s = rPa G s) ∧ (∀ p, p < N 0 → F 4 p = rCh G p) ∧ (∀ p, p < N 0 → F 2 p = G (14 + p) 0) ∧ (∀ p, p < N 0 → F 3 p = G (14 + p) 1) ∧ (∀ i, i < N 1 → F 8 i = G (21 + i) 0) ∧ (∀ i, i < N 1 → F 9 i = G (21 + i) 1) ∧ (∀ i, i < N 1 → F 10 i = G (21 + i) 2) :=
  ⟨fun s hs => h.1 5 s (26 + s) 0 (Or.inr (Or.inr (Or.inr (Or.inr (Or.inr (Or.inr (Or.inl ⟨by omega, by omega, hs, rfl, rfl⟩))))))), fun s hs => h.1 6 s (26 + s) 1 (Or.inr (Or.inr (Or.inr (Or.inr (Or.inr (Or.inr (Or.inl ⟨by omega, by omega, hs, rfl, rfl⟩))))))), fun s hs => h.1 4 s (14 + s) 2 (Or.inr (Or.inr (Or.inr (Or.inr (Or.inl ⟨by omega, by omega, hs, rfl, rfl⟩))))), fun s hs => h.1 2 s (14 + s) 0 (Or.inr (Or.inr (Or.inr (Or.inr (Or.inl ⟨by omega, by omega, hs, rfl, rfl⟩))))), fun s hs => h.1 3 s (14 + s) 1 (Or.inr (Or.inr (Or.inr (Or.inr (Or.inl ⟨by omega, by omega, hs, rfl, rfl⟩))))), fun s hs => h.1 8 s (21 + s) 0 (Or.inr (Or.inr (Or.inr (Or.inr (Or.inr (Or.inl ⟨by omega, by omega, hs, rfl, rfl⟩)))))), fun s hs => h.1 9 s (21 + s) 1 (Or.inr (Or.inr (Or.inr (Or.inr (Or.inr (Or.inl ⟨by omega, by omega, hs, rfl, rfl⟩)))))), fun s hs => h.1 10 s (21 + s) 2 (Or.inr (Or.inr (Or.inr (Or.inr (Or.inr (Or.inl ⟨by omega, by omega, hs, rfl, rfl⟩))))))⟩
theorem pm_iff (hf : zFe N F G) (hs : ∀ i, i < N 1 → (¬ zIn (F 7 5) (nI i) ↔ G (21 + i) 3 = 0)) {i p : Nat} (hp : p < N 0) : mPm F (N 1) i p ↔ (i < N 1 ∧ zPl G i p) := by
  obtain ⟨-, -, -, e2, -, e8, -⟩ := hf.t
  unfold mPm zPl
  refine and_congr_right fun hi => ?_
  rw [hs i hi, e8 i hi, e2 p hp]
theorem zFC_R0 (hf : zFe N F G) (hs : ∀ i, i < N 1 → (¬ zIn (F 7 5) (nI i) ↔ G (21 + i) 3 = 0)) (hB : cBd (N 0) (N 2) (N 1) F) (b0 : N 0 ≤ 7) (hI : rI N G) {a : Int32} {k : Nat} : zFC (N 0) (N 2) (N 1) F a k ↔ zFR N G a k := by
  obtain ⟨e5, e6, e4, -⟩ := hf.t
  have ed : ∀ p, mDu (F 5) a (N 2) p ↔ mDu (rSp G) a (N 2) p := fun p => ⟨mDu_cg e5, mDu_cg (fun s hs => (e5 s hs).symm)⟩
  constructor
  · exact mFit_cgP ed (fun i p hp q => (pm_iff hf hs (du_lt b0 hB hp)).mp q) (fun p q => mCl_cg (fun s hs => (e5 s hs).symm) (fun s hs => (e4 s hs).symm) (fun s hs => (e6 s hs).symm))
  · exact mFit_cgP (fun p => (ed p).symm) (fun i p hp q => (pm_iff hf hs (rDu_lt hI hp)).mpr q) (fun p q => mCl_cg e5 e4 e6)
theorem zFC_R (h : zRl N F G) (hI : rI N G) {a : Int32} {k : Nat} : zFC (N 0) (N 2) (N 1) F a k ↔ zFR N G a k := zFC_R0 h.2.1 (fun i hi => h.sick hI hi) (h.bd hI) h.1.bnd.1 hI
theorem zsk_or {y : Int32} {p : Nat} : zsk y p 1 = y ||| nI (2 ^ p) := by
  unfold zsk
  rw [if_neg (by decide)]
theorem ab_would (h : zRl N F G) (hI : rI N G) (hc : zR2 x (zlt (2 ^ N 2) a1) True (cM F F') (∃ y : Int32, n' = y.toInt64 ∧ mFew (zFC (N 0) (N 2) (N 1) F (nI (2 ^ N 2 - 1) &&& (a1 ^^^ (-1)))) y ∧ cM F F')) (hr : zR2 (G' 0 0) (zin 0 (2 ^ N 2 - 1) a1) True (rM N G G') (mFew (zFR N G (nI (2 ^ N 2 - 1) &&& (a1 ^^^ (-1)))) b ∧ rM N G G')) : zRl N F' G' ∧ x = G' 0 0 ∧ (x = nI 0 → n' = b.toInt64) := by
  obtain ⟨hx, h9⟩ := zR2.both hc hr (zlt_zin Nat.one_le_two_pow) Iff.rfl
  rcases h9 with ⟨n0, p, q⟩ | ⟨rfl, -, -, ⟨y, rfl, hf, p⟩, hg, q⟩
  · exact ⟨h.mv p q, hx, fun e => absurd e n0⟩
  · exact ⟨h.mv p q, hx, fun _ => congrArg Int32.toInt64 (mFew_uniq (fun _ _ hab => mFit_mono hab) hf (mFew_cg (fun k => (zFC_R h hI).symm) hg))⟩
theorem ab_without (h : zRl N F G) (hI : rI N G) (hc : zR2 x (zlt (N 1) a1) True (cM F F') (∃ p : Nat, a1 = nI p ∧ p < N 1 ∧ ∃ y : Int32, n' = y.toInt64 ∧ mFew (zFC (N 0) (N 2) (N 1) (fset F 7 5 (F 7 5 ||| nI (2 ^ p))) (nI (2 ^ N 2 - 1))) y ∧ cM F F')) (hr : zR2 (G' 0 0) (zlt (N 1) a1) True (rM N G G') (∃ p : Nat, a1 = nI p ∧ p < N 1 ∧ mFew (zFR N (fset G (21 + p) 3 (nI 1)) (nI (2 ^ N 2 - 1))) b ∧ rM N G G')) : zRl N F' G' ∧ x = G' 0 0 ∧ (x = nI 0 → n' = b.toInt64) := by
  obtain ⟨c0, c2, c1, c3, c4⟩ := h.1.bnd
  obtain ⟨hx, h9⟩ := zR2.both hc hr Iff.rfl Iff.rfl
  rcases h9 with ⟨n0, p, q⟩ | ⟨rfl, -, -, ⟨s, es, ls, y, rfl, hf, p⟩, s', es', ls', hg, q⟩
  · exact ⟨h.mv p q, hx, fun e => absurd e n0⟩
  · have : s' = s := (nI_eq (by omega) (by omega)).mp (es'.symm.trans es)
    subst this
    have hf0 := zFe_sk (a2 := 1) h.1.bnd h.2.1 (Or.inr rfl) ls
    rw [zsk_or] at hf0
    have hJ : rI N (fset G (21 + s') 3 1) := hI.sk rfl (Or.inr rfl)
    have hs : ∀ i, i < N 1 → (¬ zIn (fset F 7 5 (F 7 5 ||| nI (2 ^ s')) 7 5) (nI i) ↔ fset G (21 + s') 3 1 (21 + i) 3 = 0) := fun i hi => by
      obtain ⟨m, hm1, hm2, hm3⟩ := hf0.2.1
      have m32 : m < 32 := Nat.lt_of_lt_of_le hm1 (zp2 (n := 5) c1)
      have h3 : m.testBit i = true ↔ fset G (21 + s') 3 1 (21 + i) 3 = nI 1 := hm3 i hi
      rw [hm2, zIn_nat (by omega) (by omega), h3]
      rcases hJ.sick i hi with e | e
      · rw [e]
        exact ⟨fun _ => rfl, fun _ => by decide⟩
      · rw [e]
        exact ⟨fun q => absurd rfl q, fun q => absurd q (by decide)⟩
    have hB : cBd (N 0) (N 2) (N 1) (fset F 7 5 (F 7 5 ||| nI (2 ^ s'))) := (h.bd hI).mvM fun k j q => fset_ne (by omega)
    exact ⟨h.mv p q, hx, fun _ => congrArg Int32.toInt64 (mFew_uniq (fun _ _ hab => mFit_mono hab) hf (mFew_cg (fun k => (zFC_R0 hf0 hs hB c0 hJ).symm) hg))⟩
theorem cI.cast_ {nP nS nA nC nT : Nat} {F F' : Nat → Nat → Int32} (h : cI nP nS nA nC nT F) (e : F' = F) : cI nP nS nA nC nT F' := by
  rw [e]
  exact h
/-! ===== casts, purses, towns on both sides ===== -/
theorem zR2.bothC {c d : Int32} {G1 G2 P Q H1 H2 P' Q' : Prop} (h : zR2 c G1 G2 P Q) (h' : zR2 d H1 H2 P' Q') (e1 : G1 ↔ H1) (e2 : G1 → (G2 ↔ H2)) : c = d ∧ ((c ≠ nI 0 ∧ P ∧ P') ∨ (c = nI 0 ∧ G1 ∧ G2 ∧ Q ∧ Q')) := by
  have n10 : nI 1 ≠ nI 0 := by decide
  have n20 : nI 2 ≠ nI 0 := by decide
  rcases h with ⟨a, b, c1⟩ | ⟨a, b, c1, d1⟩ | ⟨a, b, c1, d1⟩ <;> rcases h' with ⟨a', b', c1'⟩ | ⟨a', b', c1', d1'⟩ | ⟨a', b', c1', d1'⟩
  · exact ⟨a.trans a'.symm, Or.inl ⟨fun e => n10 (a.symm.trans e), c1, c1'⟩⟩
  · exact absurd (e1.mpr b') b
  · exact absurd (e1.mpr b') b
  · exact absurd (e1.mp b) b'
  · exact ⟨a.trans a'.symm, Or.inl ⟨fun e => n20 (a.symm.trans e), d1, d1'⟩⟩
  · exact absurd ((e2 b).mpr c1') c1
  · exact absurd (e1.mp b) b'
  · exact absurd ((e2 b).mp c1) c1'
  · exact ⟨a.trans a'.symm, Or.inr ⟨a, b, c1, d1, d1'⟩⟩
theorem zRl.pawn (h : zRl N F G) {c : Nat} (hc : c < N 3) : zIn (F 18 4) (nI c) ↔ ¬ G (32 + c) 3 = 0 := by
  obtain ⟨c0, c2, c1, c3, c4⟩ := h.1.bnd
  obtain ⟨m, hm1, hm2, hm3⟩ := h.2.1.2.2
  have m64 : m < 64 := Nat.lt_of_lt_of_le hm1 (zp2 (n := 6) c3)
  have h3 : m.testBit c = true ↔ ¬ G (32 + c) 3 = 0 := hm3 c hc
  rw [hm2, zIn_nat (by omega) (by omega), h3]
theorem zRl.dui (h : zRl N F G) {p : Nat} : cDu (N 2) F p ↔ rDu N G p := ⟨mDu_cg h.2.1.t.1, mDu_cg fun s hs => (h.2.1.t.1 s hs).symm⟩
theorem zRl.du (h : zRl N F G) : cDu (N 2) F = rDu N G := funext fun p => propext ⟨mDu_cg h.2.1.t.1, mDu_cg fun s hs => (h.2.1.t.1 s hs).symm⟩
theorem zRl.cl (h : zRl N F G) {p q : Nat} : mCl (F 5) (F 4) (F 6) (N 0) (nI (2 ^ N 2 - 1)) (N 2) p q ↔ mCl (rSp G) (rCh G) (rPa G) (N 0) (nI (2 ^ N 2 - 1)) (N 2) p q := by
  obtain ⟨e5, e6, e4, -⟩ := h.2.1.t
  exact ⟨mCl_cg (fun s hs => (e5 s hs)) (fun s hs => (e4 s hs)) (fun s hs => (e6 s hs)), mCl_cg (fun s hs => (e5 s hs).symm) (fun s hs => (e4 s hs).symm) (fun s hs => (e6 s hs).symm)⟩
theorem zRl.pm (h : zRl N F G) (hI : rI N G) {i p : Nat} (hp : p < N 0) : mPm F (N 1) i p ↔ (i < N 1 ∧ zPl G i p) := pm_iff h.2.1 (fun i hi => h.sick hI hi) hp
theorem zRl.bs (h : zRl N F G) (hI : rI N G) {y : Int32} {g : Nat → Nat} (hb : cBs (N 0) (N 2) (N 1) F y g) : rBs N G y g := mBst_cg (fun p => h.dui) (fun i p hp => h.pm hI (rDu_lt hI (h.dui.mp hp))) (fun p q => h.cl) hb
theorem zRl.bsm (h : zRl N F G) (hI : rI N G) {y : Int32} {g : Nat → Nat} (hb : rBs N G y g) : cBs (N 0) (N 2) (N 1) F y g := mBst_cg (fun p => h.dui.symm) (fun i p hp => (h.pm hI (rDu_lt hI hp)).symm) (fun p q => h.cl.symm) hb
theorem rDu7 {N : Nat → Nat} {G : Nat → Nat → Int32} : ∀ p, rDu N G p → p < 7 := fun _ h => h.1
theorem cPt_R (h : zRl N F G) (hI : rI N G) {p w : Nat} {y z : Int32} (hp : p < N 0) (h1 : cPt (N 0) (N 2) (N 1) F p w y) (h2 : rPt N G p w z) : y = z := by
  obtain ⟨e5, e6, e4, e2, e3, -⟩ := h.2.1.t
  rcases h1 with ⟨rfl, q⟩ | ⟨rfl, q⟩ | ⟨rfl, q⟩ | ⟨rfl, q⟩ | ⟨rfl, q⟩ | ⟨rfl, q⟩ | ⟨rfl, b, g, q1, q2⟩ <;> rcases h2 with ⟨w, r⟩ | ⟨w, r⟩ | ⟨w, r⟩ | ⟨w, r⟩ | ⟨w, r⟩ | ⟨w, r⟩ | ⟨w, b', g', r1, r2⟩ <;> first | exact absurd w (by decide) | skip
  · exact q.trans ((e2 p hp).trans r.symm)
  · exact q.trans ((e3 p hp).trans r.symm)
  · exact q.trans ((e4 p hp).trans r.symm)
  · exact zMk_uniq q (r.cg fun s => and_congr_right fun hs => by rw [e5 s hs]; exact Iff.rfl)
  · exact zMk_uniq q (r.cg fun s => h.cl.symm)
  · exact zMk_uniq q (r.cg fun i => (h.pm hI hp).symm)
  · rw [h.du] at q2
    exact cRo_uniq rDu7 (h.bs hI q1) r1 q2 r2
theorem cPl_R (h : zRl N F G) (hI : rI N G) {p w : Nat} {y z : Int32} (hp : p < N 1) (h1 : cPl (N 0) (N 2) (N 1) F p w y) (h2 : rPl N G p w z) : y = z := by
  obtain ⟨-, -, -, -, -, e8, e9, e10⟩ := h.2.1.t
  rcases h1 with ⟨rfl, q⟩ | ⟨rfl, q⟩ | ⟨rfl, q⟩ | ⟨rfl, q⟩ | ⟨rfl, b, g, q1, q2⟩ | ⟨rfl, q⟩ <;> rcases h2 with ⟨w, r⟩ | ⟨w, r⟩ | ⟨w, r⟩ | ⟨w, r⟩ | ⟨w, b', g', r1, r2⟩ | ⟨w, r⟩ <;> first | exact absurd w (by decide) | skip
  · exact q.trans ((e8 p hp).trans r.symm)
  · exact q.trans ((e9 p hp).trans r.symm)
  · exact q.trans ((e10 p hp).trans r.symm)
  · have k := h.sick hI hp
    rcases q with ⟨a, rfl⟩ | ⟨a, rfl⟩ <;> rcases r with ⟨b, rfl⟩ | ⟨b, rfl⟩
    · rfl
    · exact absurd a (k.mpr b)
    · exact absurd (k.mp a) b
    · rfl
  · rw [h.du] at q2
    obtain ⟨e, u⟩ := mBst_uniq rDu7 (h.bs hI q1) r1
    subst e
    exact zMk_uniq q2 (r2.cg fun q => and_congr_right fun hn => and_congr_right fun hd => by rw [u hn q hd])
  · exact q.trans ((h.2.1.1 11 p (21 + p) 4 (Or.inr (Or.inr (Or.inr (Or.inr (Or.inr (Or.inr (Or.inr (Or.inr (Or.inr (⟨rfl, by omega, rfl, rfl⟩))))))))))).trans r.symm)
theorem cCt_R (h : zRl N F G) {p w : Nat} {y z : Int32} (hp : p < N 3) (h1 : cCt F p w y) (h2 : rCt G p w z) : y = z := by
  rcases h1 with ⟨rfl, q⟩ | ⟨rfl, q⟩ | ⟨rfl, q⟩ | ⟨rfl, q⟩ <;> rcases h2 with ⟨w, r⟩ | ⟨w, r⟩ | ⟨w, r⟩ | ⟨w, r⟩ <;> first | exact absurd w (by decide) | skip
  · exact q.trans ((h.2.1.1 19 p (32 + p) 0 (Or.inr (Or.inr (Or.inr (Or.inr (Or.inr (Or.inr (Or.inr (Or.inl ⟨by omega, by omega, hp, rfl, rfl⟩))))))))).trans r.symm)
  · exact q.trans ((h.2.1.1 20 p (32 + p) 1 (Or.inr (Or.inr (Or.inr (Or.inr (Or.inr (Or.inr (Or.inr (Or.inl ⟨by omega, by omega, hp, rfl, rfl⟩))))))))).trans r.symm)
  · exact q.trans ((h.2.1.1 21 p (32 + p) 2 (Or.inr (Or.inr (Or.inr (Or.inr (Or.inr (Or.inr (Or.inr (Or.inl ⟨by omega, by omega, hp, rfl, rfl⟩))))))))).trans r.symm)
  · have k := h.pawn hp
    rcases q with ⟨a, rfl⟩ | ⟨a, rfl⟩ <;> rcases r with ⟨b, rfl⟩ | ⟨b, rfl⟩
    · rfl
    · exact absurd b (k.mp a)
    · exact absurd (k.mpr b) a
    · rfl
theorem zab_n : ∀ x, x < 100 → zab (nI x - nI 0) = nI x := by decide +kernel
theorem cTn_R (h : zRl N F G) {p w : Nat} {y z : Int32} (hp : p < N 4) (h1 : cTn F p w y) (h2 : rTn G p w z) : y = z := by
  have e0 := h.2.1.1 24 p (38 + p) 0 (Or.inr (Or.inr (Or.inr (Or.inr (Or.inr (Or.inr (Or.inr (Or.inr (Or.inl ⟨by omega, by omega, hp, rfl, rfl⟩)))))))))
  have e1 := h.2.1.1 25 p (38 + p) 1 (Or.inr (Or.inr (Or.inr (Or.inr (Or.inr (Or.inr (Or.inr (Or.inr (Or.inl ⟨by omega, by omega, hp, rfl, rfl⟩)))))))))
  rcases h1 with ⟨rfl, q⟩ | ⟨rfl, q⟩ | ⟨rfl, q⟩ | ⟨rfl, q⟩ <;> rcases h2 with ⟨w, r⟩ | ⟨w, r⟩ | ⟨w, r⟩ | ⟨w, r⟩ <;> first | exact absurd w (by decide) | skip
  · exact q.trans (e0.trans r.symm)
  · exact q.trans (e1.trans r.symm)
  · exact q.trans ((h.2.1.1 26 p (38 + p) 2 (Or.inr (Or.inr (Or.inr (Or.inr (Or.inr (Or.inr (Or.inr (Or.inr (Or.inl ⟨by omega, by omega, hp, rfl, rfl⟩)))))))))).trans r.symm)
  · obtain ⟨a, b, ha, hb, f1, f2⟩ := h.2.2.1.2.2.1 p hp
    rw [q, r]
    unfold zml
    rw [← e0, ← e1, f1, f2, zab_n a ha, zab_n b hb]
theorem cSh_R (h : zRl N F G) (hI : rI N G) {p : Nat} {y z am : Int32} (hp : p < N 1) (h1 : cSh (N 0) (N 2) (N 1) F am p y) (h2 : rSh N G am p z) : y = z := by
  obtain ⟨-, -, -, -, -, -, -, e10⟩ := h.2.1.t
  obtain ⟨b, g, q1, q2⟩ := h1
  obtain ⟨b', g', r1, r2⟩ := h2
  rw [q2, r2, h.du]
  exact zPo_cg hp e10 (fun i _ => zAc_uniq rDu7 (h.bs hI q1) r1)
theorem zNi_R (h : zRl N F G) (hI : rI N G) : zNi (N 0) (N 2) (N 1) F ↔ rNi N G := by
  constructor
  · rintro ⟨b, g, q1, q2⟩
    rw [h.du] at q2
    exact ⟨b, g, h.bs hI q1, (mBst_act rDu7 (h.bs hI q1)).mp q2⟩
  · rintro ⟨b, g, q1, q2⟩
    refine ⟨b, g, h.bsm hI q1, ?_⟩
    rw [h.du]
    exact (mBst_act rDu7 q1).mpr q2
theorem ab_ofPart (h : zRl N F G) (hI : rI N G) (hc : zR2 x (zlt (N 0) a1) (zin 0 6 a2) (cM F F') (∃ p w : Nat, a1 = nI p ∧ p < N 0 ∧ a2 = nI w ∧ w ≤ 6 ∧ ∃ y : Int32, n' = y.toInt64 ∧ cPt (N 0) (N 2) (N 1) F p w y ∧ cM F F')) (hr : zR2 (G' 0 0) (zlt (N 0) a1) (zin 0 6 a2) (rM N G G') (∃ p w : Nat, a1 = nI p ∧ p < N 0 ∧ a2 = nI w ∧ w ≤ 6 ∧ rPt N G p w b ∧ rM N G G')) : zRl N F' G' ∧ x = G' 0 0 ∧ (x = nI 0 → n' = b.toInt64) := by
  obtain ⟨c0, c2, c1, c3, c4⟩ := h.1.bnd
  obtain ⟨hx, h9⟩ := zR2.both hc hr Iff.rfl Iff.rfl
  rcases h9 with ⟨n0, p, q⟩ | ⟨rfl, -, -, ⟨p, w, ep, lp, ew, lw, y, rfl, hf, hm⟩, p', w', ep', lp', ew', lw', hg, q⟩
  · exact ⟨h.mv p q, hx, fun e => absurd e n0⟩
  · have e1 : p' = p := (nI_eq (by omega) (by omega)).mp (ep'.symm.trans ep)
    have e2 : w' = w := (nI_eq (by omega) (by omega)).mp (ew'.symm.trans ew)
    subst e1
    subst e2
    exact ⟨h.mv hm q, hx, fun _ => congrArg Int32.toInt64 (cPt_R h hI lp hf hg)⟩
theorem ab_ofPlayer (h : zRl N F G) (hI : rI N G) (hc : zR2 x (zlt (N 1) a1) (zin 0 5 a2) (cM F F') (∃ p w : Nat, a1 = nI p ∧ p < N 1 ∧ a2 = nI w ∧ w ≤ 5 ∧ ∃ y : Int32, n' = y.toInt64 ∧ cPl (N 0) (N 2) (N 1) F p w y ∧ cM F F')) (hr : zR2 (G' 0 0) (zlt (N 1) a1) (zin 0 5 a2) (rM N G G') (∃ p w : Nat, a1 = nI p ∧ p < N 1 ∧ a2 = nI w ∧ w ≤ 5 ∧ rPl N G p w b ∧ rM N G G')) : zRl N F' G' ∧ x = G' 0 0 ∧ (x = nI 0 → n' = b.toInt64) := by
  obtain ⟨c0, c2, c1, c3, c4⟩ := h.1.bnd
  obtain ⟨hx, h9⟩ := zR2.both hc hr Iff.rfl Iff.rfl
  rcases h9 with ⟨n0, p, q⟩ | ⟨rfl, -, -, ⟨p, w, ep, lp, ew, lw, y, rfl, hf, hm⟩, p', w', ep', lp', ew', lw', hg, q⟩
  · exact ⟨h.mv p q, hx, fun e => absurd e n0⟩
  · have e1 : p' = p := (nI_eq (by omega) (by omega)).mp (ep'.symm.trans ep)
    have e2 : w' = w := (nI_eq (by omega) (by omega)).mp (ew'.symm.trans ew)
    subst e1
    subst e2
    exact ⟨h.mv hm q, hx, fun _ => congrArg Int32.toInt64 (cPl_R h hI lp hf hg)⟩
theorem ab_ofCoat (h : zRl N F G) (hI : rI N G) (hc : zR2 x (zlt (N 3) a1) (zin 0 3 a2) (cM F F') (∃ p w : Nat, a1 = nI p ∧ p < N 3 ∧ a2 = nI w ∧ w ≤ 3 ∧ ∃ y : Int32, n' = y.toInt64 ∧ cCt F p w y ∧ cM F F')) (hr : zR2 (G' 0 0) (zlt (N 3) a1) (zin 0 3 a2) (rM N G G') (∃ p w : Nat, a1 = nI p ∧ p < N 3 ∧ a2 = nI w ∧ w ≤ 3 ∧ rCt G p w b ∧ rM N G G')) : zRl N F' G' ∧ x = G' 0 0 ∧ (x = nI 0 → n' = b.toInt64) := by
  obtain ⟨c0, c2, c1, c3, c4⟩ := h.1.bnd
  obtain ⟨hx, h9⟩ := zR2.both hc hr Iff.rfl Iff.rfl
  rcases h9 with ⟨n0, p, q⟩ | ⟨rfl, -, -, ⟨p, w, ep, lp, ew, lw, y, rfl, hf, hm⟩, p', w', ep', lp', ew', lw', hg, q⟩
  · exact ⟨h.mv p q, hx, fun e => absurd e n0⟩
  · have e1 : p' = p := (nI_eq (by omega) (by omega)).mp (ep'.symm.trans ep)
    have e2 : w' = w := (nI_eq (by omega) (by omega)).mp (ew'.symm.trans ew)
    subst e1
    subst e2
    exact ⟨h.mv hm q, hx, fun _ => congrArg Int32.toInt64 (cCt_R h lp hf hg)⟩
theorem ab_ofTown (h : zRl N F G) (hI : rI N G) (hc : zR2 x (zlt (N 4) a1) (zin 0 3 a2) (cM F F') (∃ p w : Nat, a1 = nI p ∧ p < N 4 ∧ a2 = nI w ∧ w ≤ 3 ∧ ∃ y : Int32, n' = y.toInt64 ∧ cTn F p w y ∧ cM F F')) (hr : zR2 (G' 0 0) (zlt (N 4) a1) (zin 0 3 a2) (rM N G G') (∃ p w : Nat, a1 = nI p ∧ p < N 4 ∧ a2 = nI w ∧ w ≤ 3 ∧ rTn G p w b ∧ rM N G G')) : zRl N F' G' ∧ x = G' 0 0 ∧ (x = nI 0 → n' = b.toInt64) := by
  obtain ⟨c0, c2, c1, c3, c4⟩ := h.1.bnd
  obtain ⟨hx, h9⟩ := zR2.both hc hr Iff.rfl Iff.rfl
  rcases h9 with ⟨n0, p, q⟩ | ⟨rfl, -, -, ⟨p, w, ep, lp, ew, lw, y, rfl, hf, hm⟩, p', w', ep', lp', ew', lw', hg, q⟩
  · exact ⟨h.mv p q, hx, fun e => absurd e n0⟩
  · have e1 : p' = p := (nI_eq (by omega) (by omega)).mp (ep'.symm.trans ep)
    have e2 : w' = w := (nI_eq (by omega) (by omega)).mp (ew'.symm.trans ew)
    subst e1
    subst e2
    exact ⟨h.mv hm q, hx, fun _ => congrArg Int32.toInt64 (cTn_R h lp hf hg)⟩
theorem ab_shareOf (h : zRl N F G) (hI : rI N G) (hc : zR2 x (zlt (N 1) a2) (zin 0 9999 a1) (cM F F') (∃ p : Nat, a2 = nI p ∧ p < N 1 ∧ ∃ y : Int32, n' = y.toInt64 ∧ cSh (N 0) (N 2) (N 1) F a1 p y ∧ cM F F')) (hr : zR2 (G' 0 0) (zlt (N 1) a2) (zin 0 9999 a1) (rM N G G') (∃ p : Nat, a2 = nI p ∧ p < N 1 ∧ rSh N G a1 p b ∧ rM N G G')) : zRl N F' G' ∧ x = G' 0 0 ∧ (x = nI 0 → n' = b.toInt64) := by
  obtain ⟨c0, c2, c1, c3, c4⟩ := h.1.bnd
  obtain ⟨hx, h9⟩ := zR2.both hc hr Iff.rfl Iff.rfl
  rcases h9 with ⟨n0, p, q⟩ | ⟨rfl, -, -, ⟨p, ep, lp, y, rfl, hf, hm⟩, p', ep', lp', hg, q⟩
  · exact ⟨h.mv p q, hx, fun e => absurd e n0⟩
  · have e1 : p' = p := (nI_eq (by omega) (by omega)).mp (ep'.symm.trans ep)
    subst e1
    exact ⟨h.mv hm q, hx, fun _ => congrArg Int32.toInt64 (cSh_R h hI lp hf hg)⟩
theorem zBi_pw {n s : Nat} {y v : Int32} {Q : Nat → Int32} (hn : n ≤ 6) (h : zBi n y (fun p => ¬ Q p = 0)) (hv : v = 0 ∨ v = 1) (ls : s < n) : zBi n (zsk y s v) (fun p => ¬ (if p = s then v else Q p) = 0) := by
  have h' : zBi n y (fun p => (if Q p = 0 then (0 : Int32) else 1) = nI 1) := h.cg fun p _ => by
    by_cases e : Q p = 0
    · simp only [e]
      decide
    · rw [if_neg e]
      exact ⟨fun _ => by decide, fun _ => e⟩
  refine (zBi_set (P := fun p => if Q p = 0 then (0 : Int32) else 1) hn h' hv ls).cg fun p _ => ?_
  by_cases e : p = s
  · rw [if_pos e, if_pos e]
    rcases hv with rfl | rfl <;> decide
  · rw [if_neg e, if_neg e]
    by_cases e : Q p = 0
    · simp only [e]
      decide
    · rw [if_neg e]
      exact ⟨fun _ => e, fun _ => by decide⟩
theorem zsk_0 {y : Int32} {p : Nat} : zsk y p 0 = y &&& (nI (2 ^ p) ^^^ (-1)) := by
  unfold zsk
  rw [if_pos rfl]
theorem zFe_pawn {c p : Nat} (bn : N 0 ≤ 7 ∧ N 2 ≤ 6 ∧ N 1 ≤ 5 ∧ N 3 ≤ 6 ∧ N 4 ≤ 5) (h : zFe N F G) (hc : c < N 3) (hp : p < N 1) : zFe N (cPw F c p) (rPw G c p) := by
  obtain ⟨c0, c2, c1, c3, c4⟩ := bn
  have f2 := h.1 21 c (32 + c) 2 (Or.inr (Or.inr (Or.inr (Or.inr (Or.inr (Or.inr (Or.inr (Or.inl ⟨by omega, by omega, hc, rfl, rfl⟩))))))))
  have f4 := h.1 11 p (21 + p) 4 (Or.inr (Or.inr (Or.inr (Or.inr (Or.inr (Or.inr (Or.inr (Or.inr (Or.inr (⟨rfl, hp, rfl, rfl⟩))))))))))
  unfold cPw rPw
  refine ⟨fun k j k' j' q => ?_, ?_, ?_⟩
  · rcases (show (k = 0 ∧ j = 8 ∧ k' = 0 ∧ j' = 9) ∨ (k = 0 ∧ j = 5 ∧ k' = 0 ∧ j' = 6) ∨ (k = 0 ∧ j = 6 ∧ k' = 0 ∧ j' = 7) ∨ (k = 0 ∧ j = 7 ∧ k' = 0 ∧ j' = 8) ∨ (2 ≤ k ∧ k ≤ 4 ∧ j < N 0 ∧ k' = 14 + j ∧ j' = k - 2) ∨ (8 ≤ k ∧ k ≤ 10 ∧ j < N 1 ∧ k' = 21 + j ∧ j' = k - 8) ∨ (5 ≤ k ∧ k ≤ 6 ∧ j < N 2 ∧ k' = 26 + j ∧ j' = k - 5) ∨ (19 ≤ k ∧ k ≤ 21 ∧ j < N 3 ∧ k' = 32 + j ∧ j' = k - 19) ∨ (24 ≤ k ∧ k ≤ 26 ∧ j < N 4 ∧ k' = 38 + j ∧ j' = k - 24) ∨ (k = 11 ∧ j < N 1 ∧ k' = 21 + j ∧ j' = 4) from q) with ⟨rfl, rfl, rfl, rfl⟩ | ⟨rfl, rfl, rfl, rfl⟩ | ⟨rfl, rfl, rfl, rfl⟩ | ⟨rfl, rfl, rfl, rfl⟩ | ⟨lo, hi, hj, rfl, rfl⟩ | ⟨lo, hi, hj, rfl, rfl⟩ | ⟨lo, hi, hj, rfl, rfl⟩ | ⟨lo, hi, hj, rfl, rfl⟩ | ⟨lo, hi, hj, rfl, rfl⟩ | ⟨rfl, hj, rfl, rfl⟩
    · rw [fset_ne (by omega), fset_ne (by omega), fset_ne (by omega), fset_ne (by omega), fset_ne (by omega), fset_ne (by omega)]
      exact h.1 _ _ _ _ (Or.inl ⟨rfl, rfl, rfl, rfl⟩)
    · rw [fset_ne (by omega), fset_eq, fset_ne (by omega), fset_eq, h.1 0 5 0 6 (Or.inr (Or.inl ⟨rfl, rfl, rfl, rfl⟩)), f2]
    · rw [fset_ne (by omega), fset_ne (by omega), fset_ne (by omega), fset_ne (by omega), fset_ne (by omega), fset_ne (by omega)]
      exact h.1 _ _ _ _ (Or.inr (Or.inr (Or.inl ⟨rfl, rfl, rfl, rfl⟩)))
    · rw [fset_ne (by omega), fset_ne (by omega), fset_ne (by omega), fset_ne (by omega), fset_ne (by omega), fset_ne (by omega)]
      exact h.1 _ _ _ _ (Or.inr (Or.inr (Or.inr (Or.inl ⟨rfl, rfl, rfl, rfl⟩))))
    · rw [fset_ne (by omega), fset_ne (by omega), fset_ne (by omega), fset_ne (by omega), fset_ne (by omega), fset_ne (by omega)]
      exact h.1 _ _ _ _ (Or.inr (Or.inr (Or.inr (Or.inr (Or.inl ⟨lo, hi, by omega, rfl, rfl⟩)))))
    · rw [fset_ne (by omega), fset_ne (by omega), fset_ne (by omega), fset_ne (by omega), fset_ne (by omega), fset_ne (by omega)]
      exact h.1 _ _ _ _ (Or.inr (Or.inr (Or.inr (Or.inr (Or.inr (Or.inl ⟨lo, hi, by omega, rfl, rfl⟩))))))
    · rw [fset_ne (by omega), fset_ne (by omega), fset_ne (by omega), fset_ne (by omega), fset_ne (by omega), fset_ne (by omega)]
      exact h.1 _ _ _ _ (Or.inr (Or.inr (Or.inr (Or.inr (Or.inr (Or.inr (Or.inl ⟨lo, hi, by omega, rfl, rfl⟩)))))))
    · rw [fset_ne (by omega), fset_ne (by omega), fset_ne (by omega), fset_ne (by omega), fset_ne (by omega), fset_ne (by omega)]
      exact h.1 _ _ _ _ (Or.inr (Or.inr (Or.inr (Or.inr (Or.inr (Or.inr (Or.inr (Or.inl ⟨lo, hi, by omega, rfl, rfl⟩))))))))
    · rw [fset_ne (by omega), fset_ne (by omega), fset_ne (by omega), fset_ne (by omega), fset_ne (by omega), fset_ne (by omega)]
      exact h.1 _ _ _ _ (Or.inr (Or.inr (Or.inr (Or.inr (Or.inr (Or.inr (Or.inr (Or.inr (Or.inl ⟨lo, hi, by omega, rfl, rfl⟩)))))))))
    · by_cases e : j = p
      · subst e
        rw [fset_eq, fset_eq, f4, f2]
      · rw [fset_ne (by omega), fset_ne (by omega), fset_ne (by omega), fset_ne (by omega), fset_ne (by omega), fset_ne (by omega)]
        exact h.1 _ _ _ _ (Or.inr (Or.inr (Or.inr (Or.inr (Or.inr (Or.inr (Or.inr (Or.inr (Or.inr (⟨rfl, by omega, rfl, rfl⟩))))))))))
  · have z := h.2.1; unfold zSk at z ⊢; rw [fset_ne (by omega), fset_ne (by omega), fset_ne (by omega)]; exact z.cg fun p hp => by rw [fset_ne (by omega), fset_ne (by omega), fset_ne (by omega)]
  · have z := zBi_pw (s := c) (v := 1) (Q := fun p => G (32 + p) 3) c3 h.2.2 (by decide) hc
    rw [zsk_or] at z
    unfold zPw
    rw [fset_ne (by omega), fset_ne (by omega), fset_eq]
    exact z.cg fun q hq => by rw [fset_ne (by omega), fset_ne (by omega), fset_if]; exact Iff.rfl
theorem zRl_pawn {c p : Nat} (h : zRl N F G) (hc : c < N 3) (hp : p < N 1) (hm : rM N (rPw G c p) G') : zRl N (cPw F c p) G' := by
  obtain ⟨c0, c2, c1, c3, c4⟩ := h.1.bnd
  have hf := zFe_pawn h.1.bnd h.2.1 hc hp
  have o : ∀ k j, ¬ (k = 18 ∧ j = 4) → ¬ (k = 0 ∧ j = 5) → k ≠ 11 → cPw F c p k j = F k j := fun k j q1 q2 q3 => by unfold cPw; rw [fset_ne (by omega), fset_ne (by omega), fset_ne (by omega)]
  have o' : ∀ k j, ¬ (k = 32 + c ∧ j = 3) → ¬ (k = 0 ∧ j = 6) → ¬ (k = 21 + p ∧ j = 4) → rPw G c p k j = G k j := fun k j q1 q2 q3 => by unfold rPw; rw [fset_ne (by omega), fset_ne (by omega), fset_ne (by omega)]
  have hI : cI (N 0) (N 2) (N 1) (N 3) (N 4) (cPw F c p) := ((h.1.st (F' := fset F 18 4 _) rfl rfl).st (F' := fset (fset F 18 4 _) 0 5 _) rfl rfl).mv11 (cRw.rfl'.set rfl rfl)
  refine ⟨hI, zFe.mv h.1.bnd hf cM.rfl' hm, ⟨fun q hq => by rw [o 2 q (by omega) (by omega) (by omega)]; exact h.2.2.1.1 q hq, fun q hq => by rw [o 8 q (by omega) (by omega) (by omega)]; exact h.2.2.1.2.1 q hq, fun q hq => by rw [o 24 q (by omega) (by omega) (by omega), o 25 q (by omega) (by omega) (by omega)]; exact h.2.2.1.2.2.1 q hq, fun q hq h5 => ?_⟩, h.2.2.2.1.mv (fun k j q => by unfold cRl at q; exact o k j (by omega) (by omega) (by omega)), hm.2 (h.2.2.2.2.mv fun k j q => o' k j (by omega) (by omega) (by omega))⟩
  unfold cPw
  rw [fset_ne (by omega), fset_ne (by omega), fset_ne (by omega)]
  exact h.2.2.1.2.2.2 q hq h5
theorem zFe_redeem {c p : Nat} (bn : N 0 ≤ 7 ∧ N 2 ≤ 6 ∧ N 1 ≤ 5 ∧ N 3 ≤ 6 ∧ N 4 ≤ 5) (h : zFe N F G) (hc : c < N 3) (hp : p < N 1) : zFe N (cRd F c p) (rRd G c p) := by
  obtain ⟨c0, c2, c1, c3, c4⟩ := bn
  have f2 := h.1 21 c (32 + c) 2 (Or.inr (Or.inr (Or.inr (Or.inr (Or.inr (Or.inr (Or.inr (Or.inl ⟨by omega, by omega, hc, rfl, rfl⟩))))))))
  have f4 := h.1 11 p (21 + p) 4 (Or.inr (Or.inr (Or.inr (Or.inr (Or.inr (Or.inr (Or.inr (Or.inr (Or.inr (⟨rfl, hp, rfl, rfl⟩))))))))))
  have fc : zCo F c = rCo G c := by unfold zCo rCo; rw [f2]
  unfold cRd rRd
  refine ⟨fun k j k' j' q => ?_, ?_, ?_⟩
  · rcases (show (k = 0 ∧ j = 8 ∧ k' = 0 ∧ j' = 9) ∨ (k = 0 ∧ j = 5 ∧ k' = 0 ∧ j' = 6) ∨ (k = 0 ∧ j = 6 ∧ k' = 0 ∧ j' = 7) ∨ (k = 0 ∧ j = 7 ∧ k' = 0 ∧ j' = 8) ∨ (2 ≤ k ∧ k ≤ 4 ∧ j < N 0 ∧ k' = 14 + j ∧ j' = k - 2) ∨ (8 ≤ k ∧ k ≤ 10 ∧ j < N 1 ∧ k' = 21 + j ∧ j' = k - 8) ∨ (5 ≤ k ∧ k ≤ 6 ∧ j < N 2 ∧ k' = 26 + j ∧ j' = k - 5) ∨ (19 ≤ k ∧ k ≤ 21 ∧ j < N 3 ∧ k' = 32 + j ∧ j' = k - 19) ∨ (24 ≤ k ∧ k ≤ 26 ∧ j < N 4 ∧ k' = 38 + j ∧ j' = k - 24) ∨ (k = 11 ∧ j < N 1 ∧ k' = 21 + j ∧ j' = 4) from q) with ⟨rfl, rfl, rfl, rfl⟩ | ⟨rfl, rfl, rfl, rfl⟩ | ⟨rfl, rfl, rfl, rfl⟩ | ⟨rfl, rfl, rfl, rfl⟩ | ⟨lo, hi, hj, rfl, rfl⟩ | ⟨lo, hi, hj, rfl, rfl⟩ | ⟨lo, hi, hj, rfl, rfl⟩ | ⟨lo, hi, hj, rfl, rfl⟩ | ⟨lo, hi, hj, rfl, rfl⟩ | ⟨rfl, hj, rfl, rfl⟩
    · rw [fset_ne (by omega), fset_ne (by omega), fset_ne (by omega), fset_ne (by omega), fset_ne (by omega), fset_ne (by omega)]
      exact h.1 _ _ _ _ (Or.inl ⟨rfl, rfl, rfl, rfl⟩)
    · rw [fset_ne (by omega), fset_ne (by omega), fset_ne (by omega), fset_ne (by omega), fset_ne (by omega), fset_ne (by omega)]
      exact h.1 _ _ _ _ (Or.inr (Or.inl ⟨rfl, rfl, rfl, rfl⟩))
    · rw [fset_ne (by omega), fset_eq, fset_ne (by omega), fset_eq, h.1 0 6 0 7 (Or.inr (Or.inr (Or.inl ⟨rfl, rfl, rfl, rfl⟩))), fc]
    · rw [fset_ne (by omega), fset_ne (by omega), fset_ne (by omega), fset_ne (by omega), fset_ne (by omega), fset_ne (by omega)]
      exact h.1 _ _ _ _ (Or.inr (Or.inr (Or.inr (Or.inl ⟨rfl, rfl, rfl, rfl⟩))))
    · rw [fset_ne (by omega), fset_ne (by omega), fset_ne (by omega), fset_ne (by omega), fset_ne (by omega), fset_ne (by omega)]
      exact h.1 _ _ _ _ (Or.inr (Or.inr (Or.inr (Or.inr (Or.inl ⟨lo, hi, by omega, rfl, rfl⟩)))))
    · rw [fset_ne (by omega), fset_ne (by omega), fset_ne (by omega), fset_ne (by omega), fset_ne (by omega), fset_ne (by omega)]
      exact h.1 _ _ _ _ (Or.inr (Or.inr (Or.inr (Or.inr (Or.inr (Or.inl ⟨lo, hi, by omega, rfl, rfl⟩))))))
    · rw [fset_ne (by omega), fset_ne (by omega), fset_ne (by omega), fset_ne (by omega), fset_ne (by omega), fset_ne (by omega)]
      exact h.1 _ _ _ _ (Or.inr (Or.inr (Or.inr (Or.inr (Or.inr (Or.inr (Or.inl ⟨lo, hi, by omega, rfl, rfl⟩)))))))
    · rw [fset_ne (by omega), fset_ne (by omega), fset_ne (by omega), fset_ne (by omega), fset_ne (by omega), fset_ne (by omega)]
      exact h.1 _ _ _ _ (Or.inr (Or.inr (Or.inr (Or.inr (Or.inr (Or.inr (Or.inr (Or.inl ⟨lo, hi, by omega, rfl, rfl⟩))))))))
    · rw [fset_ne (by omega), fset_ne (by omega), fset_ne (by omega), fset_ne (by omega), fset_ne (by omega), fset_ne (by omega)]
      exact h.1 _ _ _ _ (Or.inr (Or.inr (Or.inr (Or.inr (Or.inr (Or.inr (Or.inr (Or.inr (Or.inl ⟨lo, hi, by omega, rfl, rfl⟩)))))))))
    · by_cases e : j = p
      · subst e
        rw [fset_eq, fset_eq, f4, fc]
      · rw [fset_ne (by omega), fset_ne (by omega), fset_ne (by omega), fset_ne (by omega), fset_ne (by omega), fset_ne (by omega)]
        exact h.1 _ _ _ _ (Or.inr (Or.inr (Or.inr (Or.inr (Or.inr (Or.inr (Or.inr (Or.inr (Or.inr (⟨rfl, by omega, rfl, rfl⟩))))))))))
  · have z := h.2.1; unfold zSk at z ⊢; rw [fset_ne (by omega), fset_ne (by omega), fset_ne (by omega)]; exact z.cg fun p hp => by rw [fset_ne (by omega), fset_ne (by omega), fset_ne (by omega)]
  · have z := zBi_pw (s := c) (v := 0) (Q := fun p => G (32 + p) 3) c3 h.2.2 (by decide) hc
    rw [zsk_0] at z
    unfold zPw
    rw [fset_ne (by omega), fset_ne (by omega), fset_eq]
    exact z.cg fun q hq => by rw [fset_ne (by omega), fset_ne (by omega), fset_if]; exact Iff.rfl
theorem zRl_redeem {c p : Nat} (h : zRl N F G) (hc : c < N 3) (hp : p < N 1) (hm : rM N (rRd G c p) G') : zRl N (cRd F c p) G' := by
  obtain ⟨c0, c2, c1, c3, c4⟩ := h.1.bnd
  have hf := zFe_redeem h.1.bnd h.2.1 hc hp
  have o : ∀ k j, ¬ (k = 18 ∧ j = 4) → ¬ (k = 0 ∧ j = 6) → k ≠ 11 → cRd F c p k j = F k j := fun k j q1 q2 q3 => by unfold cRd; rw [fset_ne (by omega), fset_ne (by omega), fset_ne (by omega)]
  have o' : ∀ k j, ¬ (k = 32 + c ∧ j = 3) → ¬ (k = 0 ∧ j = 7) → ¬ (k = 21 + p ∧ j = 4) → rRd G c p k j = G k j := fun k j q1 q2 q3 => by unfold rRd; rw [fset_ne (by omega), fset_ne (by omega), fset_ne (by omega)]
  have hI : cI (N 0) (N 2) (N 1) (N 3) (N 4) (cRd F c p) := ((h.1.st (F' := fset F 18 4 _) rfl rfl).st (F' := fset (fset F 18 4 _) 0 6 _) rfl rfl).mv11 (cRw.rfl'.set rfl rfl)
  refine ⟨hI, zFe.mv h.1.bnd hf cM.rfl' hm, ⟨fun q hq => by rw [o 2 q (by omega) (by omega) (by omega)]; exact h.2.2.1.1 q hq, fun q hq => by rw [o 8 q (by omega) (by omega) (by omega)]; exact h.2.2.1.2.1 q hq, fun q hq => by rw [o 24 q (by omega) (by omega) (by omega), o 25 q (by omega) (by omega) (by omega)]; exact h.2.2.1.2.2.1 q hq, fun q hq h5 => ?_⟩, h.2.2.2.1.mv (fun k j q => by unfold cRl at q; exact o k j (by omega) (by omega) (by omega)), hm.2 (h.2.2.2.2.mv fun k j q => o' k j (by omega) (by omega) (by omega))⟩
  unfold cRd
  rw [fset_ne (by omega), fset_ne (by omega), fset_ne (by omega)]
  exact h.2.2.1.2.2.2 q hq h5
theorem ab_pawn (h : zRl N F G) (hI : rI N G) (hc : zR2 x (zlt (N 3) a1 ∧ zlt (N 1) a2) (¬ zIn (F 18 4) a1) (cM F F') (∃ c p : Nat, a1 = nI c ∧ c < N 3 ∧ a2 = nI p ∧ p < N 1 ∧ n' = (F 11 p + F 21 c).toInt64 ∧ F' = cPw F c p)) (hr : zR2 (G' 0 0) (zlt (N 3) a1 ∧ zlt (N 1) a2) (rNp G a1) (rM N G G') (∃ c p : Nat, a1 = nI c ∧ c < N 3 ∧ a2 = nI p ∧ p < N 1 ∧ b = G (21 + p) 4 + G (32 + c) 2 ∧ rM N (rPw G c p) G')) : zRl N F' G' ∧ x = G' 0 0 ∧ (x = nI 0 → n' = b.toInt64) := by
  obtain ⟨c0, c2, c1, c3, c4⟩ := h.1.bnd
  obtain ⟨hx, h9⟩ := zR2.bothC hc hr Iff.rfl (by
    rintro ⟨⟨c, rfl, lc⟩, -⟩
    rw [h.pawn lc, Classical.not_not]
    constructor
    · exact fun z => ⟨c, by omega, rfl, z⟩
    · rintro ⟨c', l', e', z⟩
      rw [show c = c' from (nI_eq (by omega) (by omega)).mp e']
      exact z)
  rcases h9 with ⟨n0, p, q⟩ | ⟨rfl, -, -, ⟨c, p, ec, lc, ep, lp, rfl, hf⟩, c', p', ec', lc', ep', lp', rfl, q⟩
  · exact ⟨h.mv p q, hx, fun e => absurd e n0⟩
  · have e1 : c' = c := (nI_eq (by omega) (by omega)).mp (ec'.symm.trans ec)
    have e2 : p' = p := (nI_eq (by omega) (by omega)).mp (ep'.symm.trans ep)
    subst e1
    subst e2
    rw [hf]
    exact ⟨zRl_pawn h lc lp q, hx, fun _ => by rw [h.2.1.1 11 p' (21 + p') 4 (Or.inr (Or.inr (Or.inr (Or.inr (Or.inr (Or.inr (Or.inr (Or.inr (Or.inr (⟨rfl, by omega, rfl, rfl⟩)))))))))), h.2.1.1 21 c' (32 + c') 2 (Or.inr (Or.inr (Or.inr (Or.inr (Or.inr (Or.inr (Or.inr (Or.inl ⟨by omega, by omega, by omega, rfl, rfl⟩))))))))]⟩
theorem ab_redeem (h : zRl N F G) (hI : rI N G) (hc : zR2 x (zlt (N 3) a1 ∧ zlt (N 1) a2) (zRd F a1 a2) (cM F F') (∃ c p : Nat, a1 = nI c ∧ c < N 3 ∧ a2 = nI p ∧ p < N 1 ∧ n' = (F 11 p - zCo F c).toInt64 ∧ F' = cRd F c p)) (hr : zR2 (G' 0 0) (zlt (N 3) a1 ∧ zlt (N 1) a2) (rNr G a1 a2) (rM N G G') (∃ c p : Nat, a1 = nI c ∧ c < N 3 ∧ a2 = nI p ∧ p < N 1 ∧ b = G (21 + p) 4 - rCo G c ∧ rM N (rRd G c p) G')) : zRl N F' G' ∧ x = G' 0 0 ∧ (x = nI 0 → n' = b.toInt64) := by
  obtain ⟨c0, c2, c1, c3, c4⟩ := h.1.bnd
  have co : ∀ c, c < N 3 → zCo F c = rCo G c := fun c' lc => by
    unfold zCo rCo
    rw [h.2.1.1 21 c' (32 + c') 2 (Or.inr (Or.inr (Or.inr (Or.inr (Or.inr (Or.inr (Or.inr (Or.inl ⟨by omega, by omega, by omega, rfl, rfl⟩))))))))]
  obtain ⟨hx, h9⟩ := zR2.bothC hc hr Iff.rfl (by
    rintro ⟨⟨c, rfl, lc⟩, p, rfl, lp⟩
    constructor
    · rintro ⟨c', p', l1, l2, e1, e2, z1, z2⟩
      obtain rfl : c = c' := (nI_eq (by omega) (by omega)).mp e1
      obtain rfl : p = p' := (nI_eq (by omega) (by omega)).mp e2
      rw [co c lc, h.2.1.1 11 p (21 + p) 4 (Or.inr (Or.inr (Or.inr (Or.inr (Or.inr (Or.inr (Or.inr (Or.inr (Or.inr (⟨rfl, by omega, rfl, rfl⟩))))))))))] at z2
      exact ⟨c, p, l1, l2, rfl, rfl, (h.pawn lc).mp z1, z2⟩
    · rintro ⟨c', p', l1, l2, e1, e2, z1, z2⟩
      obtain rfl : c = c' := (nI_eq (by omega) (by omega)).mp e1
      obtain rfl : p = p' := (nI_eq (by omega) (by omega)).mp e2
      rw [← co c lc, ← h.2.1.1 11 p (21 + p) 4 (Or.inr (Or.inr (Or.inr (Or.inr (Or.inr (Or.inr (Or.inr (Or.inr (Or.inr (⟨rfl, by omega, rfl, rfl⟩))))))))))] at z2
      exact ⟨c, p, l1, l2, rfl, rfl, (h.pawn lc).mpr z1, z2⟩)
  rcases h9 with ⟨n0, p, q⟩ | ⟨rfl, -, -, ⟨c, p, ec, lc, ep, lp, rfl, hf⟩, c', p', ec', lc', ep', lp', rfl, q⟩
  · exact ⟨h.mv p q, hx, fun e => absurd e n0⟩
  · have e1 : c' = c := (nI_eq (by omega) (by omega)).mp (ec'.symm.trans ec)
    have e2 : p' = p := (nI_eq (by omega) (by omega)).mp (ep'.symm.trans ep)
    subst e1
    subst e2
    rw [hf]
    exact ⟨zRl_redeem h lc lp q, hx, fun _ => by rw [h.2.1.1 11 p' (21 + p') 4 (Or.inr (Or.inr (Or.inr (Or.inr (Or.inr (Or.inr (Or.inr (Or.inr (Or.inr (⟨rfl, by omega, rfl, rfl⟩)))))))))), co c' lc]⟩
theorem zRl_night {p : Nat} (h : zRl N F G) (hI : rI N G) (hp : p < N 4) (hc : cNi (N 0) (N 2) (N 1) F p F') (hr : rNt N G p G') : zRl N F' G' := by
  obtain ⟨c0, c2, c1, c3, c4⟩ := h.1.bnd
  obtain ⟨-, -, -, -, -, -, -, e10⟩ := h.2.1.t
  obtain ⟨b, g, q1, F1, F2, hM, hW, hq, hq', hF⟩ := hc
  obtain ⟨b', g', r1, G2, ho, hk, hg, hG⟩ := hr
  have et := h.2.1.1 26 p (38 + p) 2 (Or.inr (Or.inr (Or.inr (Or.inr (Or.inr (Or.inr (Or.inr (Or.inr (Or.inl ⟨by omega, by omega, hp, rfl, rfl⟩)))))))))
  have o : ∀ k j, scM k j = false → k ≠ 11 → F2 k j = F k j := fun k j z1 z2 => (hW k j (by simp [s11, z2])).trans (hM.1 k j z1)
  have oF : ∀ k j, scM k j = false → k ≠ 11 → ¬ (k = 0 ∧ j = 5) → ¬ (k = 0 ∧ j = 7) → ¬ (k = 26 ∧ j = p) → F' k j = F k j := fun k j z1 z2 z3 z4 z5 => by rw [hF, fset_ne (by omega), fset_ne (by omega), fset_ne (by omega)]; exact o k j z1 z2
  have oG : ∀ k j, ¬ (k = 0 ∧ j = 6) → ¬ (k = 0 ∧ j = 8) → ¬ (k = 38 + p ∧ j = 2) → G' k j = G2 k j := fun k j z3 z4 z5 => by rw [hG, fset_ne (by omega), fset_ne (by omega), fset_ne (by omega)]
  have pu : ∀ q, q < N 1 → F' 11 q = G' (21 + q) 4 := fun q lq => by
    rw [hF, fset_ne (by omega), fset_ne (by omega), fset_ne (by omega), hq q lq, oG (21 + q) 4 (by omega) (by omega) (by omega), hg q lq, ← et, h.2.1.1 11 q (21 + q) 4 (Or.inr (Or.inr (Or.inr (Or.inr (Or.inr (Or.inr (Or.inr (Or.inr (Or.inr (⟨rfl, by omega, rfl, rfl⟩)))))))))), h.du]
    exact congrArg _ (zPo_cg lq e10 (fun i _ => zAc_uniq rDu7 (h.bs hI q1) r1))
  have hCI : cI (N 0) (N 2) (N 1) (N 3) (N 4) F' := (((((h.1.mvM hM).mv11 hW).st (F' := fset F2 0 5 _) rfl rfl).st (F' := fset (fset F2 0 5 _) 0 7 _) rfl rfl).st (F' := fset (fset (fset F2 0 5 _) 0 7 _) 26 p _) rfl (decide_eq_false (by omega))).cast_ hF
  refine ⟨hCI, ⟨fun k j k' j' q => ?_, ?_, ?_⟩, ⟨fun q hq => by rw [oF 2 q (scM_f (by omega)) (by omega) (by omega) (by omega) (by omega)]; exact h.2.2.1.1 q hq, fun q hq => by rw [oF 8 q (scM_f (by omega)) (by omega) (by omega) (by omega) (by omega)]; exact h.2.2.1.2.1 q hq, fun q hq => by rw [oF 24 q (scM_f (by omega)) (by omega) (by omega) (by omega) (by omega), oF 25 q (scM_f (by omega)) (by omega) (by omega) (by omega) (by omega)]; exact h.2.2.1.2.2.1 q hq, fun q hq h5 => ?_⟩, ?_, ?_⟩
  · rcases (show (k = 0 ∧ j = 8 ∧ k' = 0 ∧ j' = 9) ∨ (k = 0 ∧ j = 5 ∧ k' = 0 ∧ j' = 6) ∨ (k = 0 ∧ j = 6 ∧ k' = 0 ∧ j' = 7) ∨ (k = 0 ∧ j = 7 ∧ k' = 0 ∧ j' = 8) ∨ (2 ≤ k ∧ k ≤ 4 ∧ j < N 0 ∧ k' = 14 + j ∧ j' = k - 2) ∨ (8 ≤ k ∧ k ≤ 10 ∧ j < N 1 ∧ k' = 21 + j ∧ j' = k - 8) ∨ (5 ≤ k ∧ k ≤ 6 ∧ j < N 2 ∧ k' = 26 + j ∧ j' = k - 5) ∨ (19 ≤ k ∧ k ≤ 21 ∧ j < N 3 ∧ k' = 32 + j ∧ j' = k - 19) ∨ (24 ≤ k ∧ k ≤ 26 ∧ j < N 4 ∧ k' = 38 + j ∧ j' = k - 24) ∨ (k = 11 ∧ j < N 1 ∧ k' = 21 + j ∧ j' = 4) from q) with ⟨rfl, rfl, rfl, rfl⟩ | ⟨rfl, rfl, rfl, rfl⟩ | ⟨rfl, rfl, rfl, rfl⟩ | ⟨rfl, rfl, rfl, rfl⟩ | ⟨lo, hi, hj, rfl, rfl⟩ | ⟨lo, hi, hj, rfl, rfl⟩ | ⟨lo, hi, hj, rfl, rfl⟩ | ⟨lo, hi, hj, rfl, rfl⟩ | ⟨lo, hi, hj, rfl, rfl⟩ | ⟨rfl, hj, rfl, rfl⟩
    · rw [oF 0 8 rfl (by omega) (by omega) (by omega) (by omega), oG 0 9 (by omega) (by omega) (by omega), ho 0 9 (by omega)]; exact h.2.1.1 _ _ _ _ (Or.inl ⟨rfl, rfl, rfl, rfl⟩)
    · rw [hF, hG, fset_ne (by omega), fset_ne (by omega), fset_eq, fset_ne (by omega), fset_ne (by omega), fset_eq, et, h.2.1.1 0 5 0 6 (Or.inr (Or.inl ⟨rfl, rfl, rfl, rfl⟩))]
    · rw [oF 0 6 rfl (by omega) (by omega) (by omega) (by omega), oG 0 7 (by omega) (by omega) (by omega), ho 0 7 (by omega)]; exact h.2.1.1 _ _ _ _ (Or.inr (Or.inr (Or.inl ⟨rfl, rfl, rfl, rfl⟩)))
    · rw [hF, hG, fset_ne (by omega), fset_eq, fset_eq, h.2.1.1 0 7 0 8 (Or.inr (Or.inr (Or.inr (Or.inl ⟨rfl, rfl, rfl, rfl⟩))))]
    · rw [oF k j (scM_f (by omega)) (by omega) (by omega) (by omega) (by omega), oG (14 + j) (k - 2) (by omega) (by omega) (by omega), ho (14 + j) (k - 2) (by omega)]; exact h.2.1.1 _ _ _ _ (Or.inr (Or.inr (Or.inr (Or.inr (Or.inl ⟨lo, hi, by omega, rfl, rfl⟩)))))
    · rw [oF k j (scM_f (by omega)) (by omega) (by omega) (by omega) (by omega), oG (21 + j) (k - 8) (by omega) (by omega) (by omega), ho (21 + j) (k - 8) (by omega)]; exact h.2.1.1 _ _ _ _ (Or.inr (Or.inr (Or.inr (Or.inr (Or.inr (Or.inl ⟨lo, hi, by omega, rfl, rfl⟩))))))
    · rw [oF k j (scM_f (by omega)) (by omega) (by omega) (by omega) (by omega), oG (26 + j) (k - 5) (by omega) (by omega) (by omega), ho (26 + j) (k - 5) (by omega)]; exact h.2.1.1 _ _ _ _ (Or.inr (Or.inr (Or.inr (Or.inr (Or.inr (Or.inr (Or.inl ⟨lo, hi, by omega, rfl, rfl⟩)))))))
    · rw [oF k j (scM_f (by omega)) (by omega) (by omega) (by omega) (by omega), oG (32 + j) (k - 19) (by omega) (by omega) (by omega), ho (32 + j) (k - 19) (by omega)]; exact h.2.1.1 _ _ _ _ (Or.inr (Or.inr (Or.inr (Or.inr (Or.inr (Or.inr (Or.inr (Or.inl ⟨lo, hi, by omega, rfl, rfl⟩))))))))
    · by_cases e : k = 26 ∧ j = p
      · obtain ⟨rfl, rfl⟩ := e; rw [hF, hG, fset_eq, fset_ne (by omega), fset_eq, et]
      · rw [oF k j (scM_f (by omega)) (by omega) (by omega) (by omega) (by omega), oG (38 + j) (k - 24) (by omega) (by omega) (by omega), ho (38 + j) (k - 24) (by omega)]; exact h.2.1.1 _ _ _ _ (Or.inr (Or.inr (Or.inr (Or.inr (Or.inr (Or.inr (Or.inr (Or.inr (Or.inl ⟨lo, hi, by omega, rfl, rfl⟩)))))))))
    · exact pu j hj
  · have z := h.2.1.2.1; unfold zSk at z ⊢; rw [oF 7 5 rfl (by omega) (by omega) (by omega) (by omega)]; exact z.cg fun q hq => by rw [oG (21 + q) 3 (by omega) (by omega) (by omega), ho (21 + q) 3 (by omega)]
  · have z := h.2.1.2.2; unfold zPw at z ⊢; rw [oF 18 4 rfl (by omega) (by omega) (by omega) (by omega)]; exact z.cg fun q hq => by rw [oG (32 + q) 3 (by omega) (by omega) (by omega), ho (32 + q) 3 (by omega)]
  · rw [hF, fset_ne (by omega), fset_ne (by omega), fset_ne (by omega), hq' q hq]
    exact h.2.2.1.2.2.2 q hq h5
  · refine (hM.2 h.2.2.2.1).mv fun k j q => ?_
    unfold cRl at q
    rw [hF, fset_ne (by omega), fset_ne (by omega), fset_ne (by omega)]
    exact hW k j (by simp [s11]; omega)
  · exact hk.mv fun k j q => oG k j (by omega) (by omega) (by omega)
theorem ab_night (h : zRl N F G) (hI : rI N G) (hc : zR2 x (zlt (N 4) a1) (zNi (N 0) (N 2) (N 1) F) (cM F F') (∃ p : Nat, a1 = nI p ∧ p < N 4 ∧ n' = (F 26 p).toInt64 ∧ cNi (N 0) (N 2) (N 1) F p F')) (hr : zR2 (G' 0 0) (zlt (N 4) a1) (rNi N G) (rM N G G') (∃ p : Nat, a1 = nI p ∧ p < N 4 ∧ b = G (38 + p) 2 ∧ rNt N G p G')) : zRl N F' G' ∧ x = G' 0 0 ∧ (x = nI 0 → n' = b.toInt64) := by
  obtain ⟨c0, c2, c1, c3, c4⟩ := h.1.bnd
  obtain ⟨hx, h9⟩ := zR2.both hc hr Iff.rfl (zNi_R h hI)
  rcases h9 with ⟨n0, p, q⟩ | ⟨rfl, -, -, ⟨p, ep, lp, rfl, hf⟩, p', ep', lp', rfl, q⟩
  · exact ⟨h.mv p q, hx, fun e => absurd e n0⟩
  · have e2 : p' = p := (nI_eq (by omega) (by omega)).mp (ep'.symm.trans ep)
    subst e2
    exact ⟨zRl_night h hI lp hf q, hx, fun _ => by rw [h.2.1.1 26 p' (38 + p') 2 (Or.inr (Or.inr (Or.inr (Or.inr (Or.inr (Or.inr (Or.inr (Or.inr (Or.inl ⟨by omega, by omega, by omega, rfl, rfl⟩)))))))))]⟩
end REL
