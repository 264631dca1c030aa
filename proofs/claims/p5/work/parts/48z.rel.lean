/-! ===== class and reference side by side ===== -/
def zFe (N : Nat → Nat) (F G : Nat → Nat → Int32) : Prop := F 0 8 = G 0 9 ∧ (∀ p, p < N 0 → F 2 p = G (14 + p) 0 ∧ F 3 p = G (14 + p) 1 ∧ F 4 p = G (14 + p) 2) ∧ (∀ p, p < N 1 → F 8 p = G (21 + p) 0 ∧ F 9 p = G (21 + p) 1 ∧ F 10 p = G (21 + p) 2) ∧ (∀ p, p < N 2 → F 5 p = G (26 + p) 0 ∧ F 6 p = G (26 + p) 1) ∧ (∀ p, p < N 3 → F 19 p = G (32 + p) 0 ∧ F 20 p = G (32 + p) 1 ∧ F 21 p = G (32 + p) 2) ∧ (∀ p, p < N 4 → F 24 p = G (38 + p) 0 ∧ F 25 p = G (38 + p) 1) ∧ ∃ m, m < 2 ^ N 1 ∧ F 7 5 = nI m ∧ ∀ p, p < N 1 → (m.testBit p = true ↔ G (21 + p) 3 = nI 1)
def zRl (N : Nat → Nat) (F G : Nat → Nat → Int32) : Prop := cI (N 0) (N 2) (N 1) (N 3) (N 4) F ∧ zFe N F G
theorem zRl0 : zRl (fun _ => 0) (fun _ _ => nI 0) (fun _ _ => nI 0) := ⟨cI0', rfl, fun p hp => absurd hp (Nat.not_lt_zero p), fun p hp => absurd hp (Nat.not_lt_zero p), fun p hp => absurd hp (Nat.not_lt_zero p), fun p hp => absurd hp (Nat.not_lt_zero p), fun p hp => absurd hp (Nat.not_lt_zero p), 0, by decide, rfl, fun p hp => absurd hp (Nat.not_lt_zero p)⟩
section REL
variable {N N' : Nat → Nat} {F F' G G' : Nat → Nat → Int32} {x b a1 a2 a3 : Int32} {n' : Int64}
theorem zFe.mv (b : N 0 ≤ 7 ∧ N 2 ≤ 6 ∧ N 1 ≤ 5 ∧ N 3 ≤ 6 ∧ N 4 ≤ 5) (h : zFe N F G) (hc : cM F F') (hr : rM G G') : zFe N F' G' := by
  obtain ⟨b0, b2, b1, b3, b4⟩ := b
  obtain ⟨h, h0, h1, h2, h3, h4, m, hm1, hm2, hm3⟩ := h
  have c : ∀ k j : Nat, ((2 ≤ k ∧ k ≤ 6) ∨ (8 ≤ k ∧ k ≤ 10) ∨ (19 ≤ k ∧ k ≤ 21) ∨ k = 24 ∨ k = 25 ∨ (k = 7 ∧ j = 5) ∨ (k = 0 ∧ j = 8)) → F' k j = F k j := fun k j q => hc k j (decide_eq_true (by omega))
  have r : ∀ k j : Nat, ((14 ≤ k ∧ k < 21) ∨ (21 ≤ k ∧ k < 26 ∧ j < 4) ∨ (26 ≤ k ∧ k < 32) ∨ (32 ≤ k ∧ k < 38 ∧ j < 3) ∨ (38 ≤ k ∧ k < 43 ∧ j < 2) ∨ (k = 0 ∧ j = 9)) → G' k j = G k j := fun k j q => hr k j q
  refine ⟨by rw [c 0 8 (by omega), r 0 9 (by omega)]; exact h, fun p hp => ?_, fun p hp => ?_, fun p hp => ?_, fun p hp => ?_, fun p hp => ?_, m, hm1, by rw [c 7 5 (by omega)]; exact hm2, fun p hp => by rw [r (21 + p) 3 (by omega)]; exact hm3 p hp⟩
  · obtain ⟨x, y, z⟩ := h0 p hp
    exact ⟨by rw [c 2 p (by omega), r (14 + p) 0 (by omega)]; exact x, by rw [c 3 p (by omega), r (14 + p) 1 (by omega)]; exact y, by rw [c 4 p (by omega), r (14 + p) 2 (by omega)]; exact z⟩
  · obtain ⟨x, y, z⟩ := h1 p hp
    exact ⟨by rw [c 8 p (by omega), r (21 + p) 0 (by omega)]; exact x, by rw [c 9 p (by omega), r (21 + p) 1 (by omega)]; exact y, by rw [c 10 p (by omega), r (21 + p) 2 (by omega)]; exact z⟩
  · obtain ⟨x, y⟩ := h2 p hp
    exact ⟨by rw [c 5 p (by omega), r (26 + p) 0 (by omega)]; exact x, by rw [c 6 p (by omega), r (26 + p) 1 (by omega)]; exact y⟩
  · obtain ⟨x, y, z⟩ := h3 p hp
    exact ⟨by rw [c 19 p (by omega), r (32 + p) 0 (by omega)]; exact x, by rw [c 20 p (by omega), r (32 + p) 1 (by omega)]; exact y, by rw [c 21 p (by omega), r (32 + p) 2 (by omega)]; exact z⟩
  · obtain ⟨x, y⟩ := h4 p hp
    exact ⟨by rw [c 24 p (by omega), r (38 + p) 0 (by omega)]; exact x, by rw [c 25 p (by omega), r (38 + p) 1 (by omega)]; exact y⟩
theorem zRl.mv (h : zRl N F G) (hc : cM F F') (hr : rM G G') : zRl N F' G' := ⟨h.1.mvM hc, h.2.mv h.1.bnd hc hr⟩
theorem zlt_zin {n : Nat} (hn : 0 < n) {a : Int32} : zlt n a ↔ zin 0 (n - 1) a := ⟨fun ⟨j, e, h⟩ => ⟨j, e, Nat.zero_le _, by omega⟩, fun ⟨j, e, _, h⟩ => ⟨j, e, by omega⟩⟩
theorem zsc {n : Nat} (hn : n ≤ 7) : (zlt (2 ^ n) a1 ∧ zin 1 127 a1 ∧ zin 0 9 a2) ↔ (zin 1 (2 ^ n - 1) a1 ∧ zin 0 9 a2) := by
  have h128 : 2 ^ n ≤ 128 := zp2 (n := 7) hn
  constructor
  · rintro ⟨⟨j, rfl, hj⟩, h1, h2⟩
    obtain ⟨q1, q2⟩ := zin_nI h1 (by omega) (by omega)
    exact ⟨⟨j, rfl, q1, by omega⟩, h2⟩
  · rintro ⟨⟨j, rfl, h1, h3⟩, h2⟩
    exact ⟨⟨j, rfl, by omega⟩, ⟨j, rfl, h1, by omega⟩, h2⟩
theorem ab_part (h : zRl N F G) (hc : zR2 x (zin 0 3 a1 ∧ zin 0 3 a2 ∧ zin 0 9 a3) (N 0 < 7) (cM F F') (n' = (nI (N 0)).toInt64 ∧ cI (N 0 + 1) (N 2) (N 1) (N 3) (N 4) F' ∧ cM (fset (fset (fset (fset F 2 (N 0) a1) 3 (N 0) a2) 4 (N 0) a3) 1 5 (nI (N 0 + 1))) F')) (hr : rAddR 0 7 14 (zin 0 3 a1 ∧ zin 0 3 a2 ∧ zin 0 9 a3) (fun fe => fe 0 = a1 ∧ fe 1 = a2 ∧ fe 2 = a3) N G b N' G') : zRl N' F' G' ∧ x = G' 0 0 ∧ (x = nI 0 → n' = b.toInt64) := by
  obtain ⟨hx, h9⟩ := zR2.both hc hr Iff.rfl Iff.rfl
  rcases h9 with ⟨n0, p, rfl, q⟩ | ⟨rfl, -, hlt, ⟨rfl, hI, hz⟩, rfl, rfl, md, fe, ⟨f0, f1, f2⟩, hm⟩
  · exact ⟨h.mv p q, hx, fun e => absurd e n0⟩
  · refine ⟨⟨hI, zFe.mv (N := zNN N 0) hI.bnd ?_ hz hm⟩, hx, fun _ => rfl⟩
    obtain ⟨c0, c2, c1, c3, c4⟩ := h.1.bnd
    obtain ⟨h8, h0, h1, h2, h3, h4, m, hm1, hm2, hm3⟩ := h.2
    refine ⟨?_, ?_, ?_, ?_, ?_, ?_, ?_⟩
    · repeat first | rw [fset_eq] | rw [fset_ne (by omega)] | rw [frow_eq] | rw [frow_ne (by omega)]
      exact h8
    · intro p hp
      have hp : p < N 0 + 1 := hp
      by_cases e : p = N 0
      · subst e
        refine ⟨?_, ?_, ?_⟩
        · repeat first | rw [fset_eq] | rw [fset_ne (by omega)] | rw [frow_eq] | rw [frow_ne (by omega)]
          exact f0.symm
        · repeat first | rw [fset_eq] | rw [fset_ne (by omega)] | rw [frow_eq] | rw [frow_ne (by omega)]
          exact f1.symm
        · repeat first | rw [fset_eq] | rw [fset_ne (by omega)] | rw [frow_eq] | rw [frow_ne (by omega)]
          exact f2.symm
      · obtain ⟨x, y, z⟩ := h0 p (by omega)
        refine ⟨?_, ?_, ?_⟩
        · repeat first | rw [fset_eq] | rw [fset_ne (by omega)] | rw [frow_eq] | rw [frow_ne (by omega)]
          exact x
        · repeat first | rw [fset_eq] | rw [fset_ne (by omega)] | rw [frow_eq] | rw [frow_ne (by omega)]
          exact y
        · repeat first | rw [fset_eq] | rw [fset_ne (by omega)] | rw [frow_eq] | rw [frow_ne (by omega)]
          exact z
    · intro p hp
      have hp : p < N 1 := hp
      obtain ⟨x, y, z⟩ := h1 p hp
      refine ⟨?_, ?_, ?_⟩
      · repeat first | rw [fset_eq] | rw [fset_ne (by omega)] | rw [frow_eq] | rw [frow_ne (by omega)]
        exact x
      · repeat first | rw [fset_eq] | rw [fset_ne (by omega)] | rw [frow_eq] | rw [frow_ne (by omega)]
        exact y
      · repeat first | rw [fset_eq] | rw [fset_ne (by omega)] | rw [frow_eq] | rw [frow_ne (by omega)]
        exact z
    · intro p hp
      have hp : p < N 2 := hp
      obtain ⟨x, y⟩ := h2 p hp
      refine ⟨?_, ?_⟩
      · repeat first | rw [fset_eq] | rw [fset_ne (by omega)] | rw [frow_eq] | rw [frow_ne (by omega)]
        exact x
      · repeat first | rw [fset_eq] | rw [fset_ne (by omega)] | rw [frow_eq] | rw [frow_ne (by omega)]
        exact y
    · intro p hp
      have hp : p < N 3 := hp
      obtain ⟨x, y, z⟩ := h3 p hp
      refine ⟨?_, ?_, ?_⟩
      · repeat first | rw [fset_eq] | rw [fset_ne (by omega)] | rw [frow_eq] | rw [frow_ne (by omega)]
        exact x
      · repeat first | rw [fset_eq] | rw [fset_ne (by omega)] | rw [frow_eq] | rw [frow_ne (by omega)]
        exact y
      · repeat first | rw [fset_eq] | rw [fset_ne (by omega)] | rw [frow_eq] | rw [frow_ne (by omega)]
        exact z
    · intro p hp
      have hp : p < N 4 := hp
      obtain ⟨x, y⟩ := h4 p hp
      refine ⟨?_, ?_⟩
      · repeat first | rw [fset_eq] | rw [fset_ne (by omega)] | rw [frow_eq] | rw [frow_ne (by omega)]
        exact x
      · repeat first | rw [fset_eq] | rw [fset_ne (by omega)] | rw [frow_eq] | rw [frow_ne (by omega)]
        exact y
    · refine ⟨m, hm1, ?_, fun p hp => ?_⟩
      · repeat first | rw [fset_eq] | rw [fset_ne (by omega)] | rw [frow_eq] | rw [frow_ne (by omega)]
        exact hm2
      · have hp : p < N 1 := hp
        repeat first | rw [fset_eq] | rw [fset_ne (by omega)] | rw [frow_eq] | rw [frow_ne (by omega)]
        exact hm3 p hp
theorem ab_player (h : zRl N F G) (hc : zR2 x (zlt (2 ^ 4) a1 ∧ zin 1 9 a2 ∧ zin 1 5 a3) (N 1 < 5) (cM F F') (n' = (nI (N 1)).toInt64 ∧ cI (N 0) (N 2) (N 1 + 1) (N 3) (N 4) F' ∧ cM (fset (fset (fset (fset F 8 (N 1) a1) 9 (N 1) a2) 10 (N 1) a3) 7 4 (nI (N 1 + 1))) F')) (hr : rAddR 1 5 21 (zin 0 15 a1 ∧ zin 1 9 a2 ∧ zin 1 5 a3) (fun fe => fe 0 = a1 ∧ fe 1 = a2 ∧ fe 2 = a3 ∧ fe 3 = nI 0 ∧ fe 4 = nI 0) N G b N' G') : zRl N' F' G' ∧ x = G' 0 0 ∧ (x = nI 0 → n' = b.toInt64) := by
  obtain ⟨hx, h9⟩ := zR2.both hc hr (and_congr (zlt_zin (n := 2 ^ 4) (by decide)) Iff.rfl) Iff.rfl
  rcases h9 with ⟨n0, p, rfl, q⟩ | ⟨rfl, -, hlt, ⟨rfl, hI, hz⟩, rfl, rfl, md, fe, ⟨f0, f1, f2, f3, f4⟩, hm⟩
  · exact ⟨h.mv p q, hx, fun e => absurd e n0⟩
  · refine ⟨⟨hI, zFe.mv (N := zNN N 1) hI.bnd ?_ hz hm⟩, hx, fun _ => rfl⟩
    obtain ⟨c0, c2, c1, c3, c4⟩ := h.1.bnd
    obtain ⟨h8, h0, h1, h2, h3, h4, m, hm1, hm2, hm3⟩ := h.2
    refine ⟨?_, ?_, ?_, ?_, ?_, ?_, ?_⟩
    · repeat first | rw [fset_eq] | rw [fset_ne (by omega)] | rw [frow_eq] | rw [frow_ne (by omega)]
      exact h8
    · intro p hp
      have hp : p < N 0 := hp
      obtain ⟨x, y, z⟩ := h0 p hp
      refine ⟨?_, ?_, ?_⟩
      · repeat first | rw [fset_eq] | rw [fset_ne (by omega)] | rw [frow_eq] | rw [frow_ne (by omega)]
        exact x
      · repeat first | rw [fset_eq] | rw [fset_ne (by omega)] | rw [frow_eq] | rw [frow_ne (by omega)]
        exact y
      · repeat first | rw [fset_eq] | rw [fset_ne (by omega)] | rw [frow_eq] | rw [frow_ne (by omega)]
        exact z
    · intro p hp
      have hp : p < N 1 + 1 := hp
      by_cases e : p = N 1
      · subst e
        refine ⟨?_, ?_, ?_⟩
        · repeat first | rw [fset_eq] | rw [fset_ne (by omega)] | rw [frow_eq] | rw [frow_ne (by omega)]
          exact f0.symm
        · repeat first | rw [fset_eq] | rw [fset_ne (by omega)] | rw [frow_eq] | rw [frow_ne (by omega)]
          exact f1.symm
        · repeat first | rw [fset_eq] | rw [fset_ne (by omega)] | rw [frow_eq] | rw [frow_ne (by omega)]
          exact f2.symm
      · obtain ⟨x, y, z⟩ := h1 p (by omega)
        refine ⟨?_, ?_, ?_⟩
        · repeat first | rw [fset_eq] | rw [fset_ne (by omega)] | rw [frow_eq] | rw [frow_ne (by omega)]
          exact x
        · repeat first | rw [fset_eq] | rw [fset_ne (by omega)] | rw [frow_eq] | rw [frow_ne (by omega)]
          exact y
        · repeat first | rw [fset_eq] | rw [fset_ne (by omega)] | rw [frow_eq] | rw [frow_ne (by omega)]
          exact z
    · intro p hp
      have hp : p < N 2 := hp
      obtain ⟨x, y⟩ := h2 p hp
      refine ⟨?_, ?_⟩
      · repeat first | rw [fset_eq] | rw [fset_ne (by omega)] | rw [frow_eq] | rw [frow_ne (by omega)]
        exact x
      · repeat first | rw [fset_eq] | rw [fset_ne (by omega)] | rw [frow_eq] | rw [frow_ne (by omega)]
        exact y
    · intro p hp
      have hp : p < N 3 := hp
      obtain ⟨x, y, z⟩ := h3 p hp
      refine ⟨?_, ?_, ?_⟩
      · repeat first | rw [fset_eq] | rw [fset_ne (by omega)] | rw [frow_eq] | rw [frow_ne (by omega)]
        exact x
      · repeat first | rw [fset_eq] | rw [fset_ne (by omega)] | rw [frow_eq] | rw [frow_ne (by omega)]
        exact y
      · repeat first | rw [fset_eq] | rw [fset_ne (by omega)] | rw [frow_eq] | rw [frow_ne (by omega)]
        exact z
    · intro p hp
      have hp : p < N 4 := hp
      obtain ⟨x, y⟩ := h4 p hp
      refine ⟨?_, ?_⟩
      · repeat first | rw [fset_eq] | rw [fset_ne (by omega)] | rw [frow_eq] | rw [frow_ne (by omega)]
        exact x
      · repeat first | rw [fset_eq] | rw [fset_ne (by omega)] | rw [frow_eq] | rw [frow_ne (by omega)]
        exact y
    · refine ⟨m, Nat.lt_of_lt_of_le hm1 (Nat.pow_le_pow_right (by decide) (Nat.le_succ _)), ?_, fun p hp => ?_⟩
      · repeat first | rw [fset_eq] | rw [fset_ne (by omega)] | rw [frow_eq] | rw [frow_ne (by omega)]
        exact hm2
      · have hp : p < N 1 + 1 := hp
        by_cases e : p = N 1
        · subst e
          rw [frow_eq, f3, Nat.testBit_lt_two_pow hm1]
          decide
        · repeat first | rw [fset_eq] | rw [fset_ne (by omega)] | rw [frow_eq] | rw [frow_ne (by omega)]
          exact hm3 p (by omega)
theorem ab_scene (h : zRl N F G) (hc : zR2 x (zlt (2 ^ N 0) a1 ∧ zin 1 127 a1 ∧ zin 0 9 a2) (N 2 < 6) (cM F F') (n' = (nI (N 2)).toInt64 ∧ cI (N 0) (N 2 + 1) (N 1) (N 3) (N 4) F' ∧ cM (fset (fset (fset F 5 (N 2) a1) 6 (N 2) a2) 1 6 (nI (N 2 + 1))) F')) (hr : rAddR 2 6 26 (zin 1 (2 ^ N 0 - 1) a1 ∧ zin 0 9 a2) (fun fe => fe 0 = a1 ∧ fe 1 = a2) N G b N' G') : zRl N' F' G' ∧ x = G' 0 0 ∧ (x = nI 0 → n' = b.toInt64) := by
  obtain ⟨hx, h9⟩ := zR2.both hc hr (zsc h.1.bnd.1) Iff.rfl
  rcases h9 with ⟨n0, p, rfl, q⟩ | ⟨rfl, -, hlt, ⟨rfl, hI, hz⟩, rfl, rfl, md, fe, ⟨f0, f1⟩, hm⟩
  · exact ⟨h.mv p q, hx, fun e => absurd e n0⟩
  · refine ⟨⟨hI, zFe.mv (N := zNN N 2) hI.bnd ?_ hz hm⟩, hx, fun _ => rfl⟩
    obtain ⟨c0, c2, c1, c3, c4⟩ := h.1.bnd
    obtain ⟨h8, h0, h1, h2, h3, h4, m, hm1, hm2, hm3⟩ := h.2
    refine ⟨?_, ?_, ?_, ?_, ?_, ?_, ?_⟩
    · repeat first | rw [fset_eq] | rw [fset_ne (by omega)] | rw [frow_eq] | rw [frow_ne (by omega)]
      exact h8
    · intro p hp
      have hp : p < N 0 := hp
      obtain ⟨x, y, z⟩ := h0 p hp
      refine ⟨?_, ?_, ?_⟩
      · repeat first | rw [fset_eq] | rw [fset_ne (by omega)] | rw [frow_eq] | rw [frow_ne (by omega)]
        exact x
      · repeat first | rw [fset_eq] | rw [fset_ne (by omega)] | rw [frow_eq] | rw [frow_ne (by omega)]
        exact y
      · repeat first | rw [fset_eq] | rw [fset_ne (by omega)] | rw [frow_eq] | rw [frow_ne (by omega)]
        exact z
    · intro p hp
      have hp : p < N 1 := hp
      obtain ⟨x, y, z⟩ := h1 p hp
      refine ⟨?_, ?_, ?_⟩
      · repeat first | rw [fset_eq] | rw [fset_ne (by omega)] | rw [frow_eq] | rw [frow_ne (by omega)]
        exact x
      · repeat first | rw [fset_eq] | rw [fset_ne (by omega)] | rw [frow_eq] | rw [frow_ne (by omega)]
        exact y
      · repeat first | rw [fset_eq] | rw [fset_ne (by omega)] | rw [frow_eq] | rw [frow_ne (by omega)]
        exact z
    · intro p hp
      have hp : p < N 2 + 1 := hp
      by_cases e : p = N 2
      · subst e
        refine ⟨?_, ?_⟩
        · repeat first | rw [fset_eq] | rw [fset_ne (by omega)] | rw [frow_eq] | rw [frow_ne (by omega)]
          exact f0.symm
        · repeat first | rw [fset_eq] | rw [fset_ne (by omega)] | rw [frow_eq] | rw [frow_ne (by omega)]
          exact f1.symm
      · obtain ⟨x, y⟩ := h2 p (by omega)
        refine ⟨?_, ?_⟩
        · repeat first | rw [fset_eq] | rw [fset_ne (by omega)] | rw [frow_eq] | rw [frow_ne (by omega)]
          exact x
        · repeat first | rw [fset_eq] | rw [fset_ne (by omega)] | rw [frow_eq] | rw [frow_ne (by omega)]
          exact y
    · intro p hp
      have hp : p < N 3 := hp
      obtain ⟨x, y, z⟩ := h3 p hp
      refine ⟨?_, ?_, ?_⟩
      · repeat first | rw [fset_eq] | rw [fset_ne (by omega)] | rw [frow_eq] | rw [frow_ne (by omega)]
        exact x
      · repeat first | rw [fset_eq] | rw [fset_ne (by omega)] | rw [frow_eq] | rw [frow_ne (by omega)]
        exact y
      · repeat first | rw [fset_eq] | rw [fset_ne (by omega)] | rw [frow_eq] | rw [frow_ne (by omega)]
        exact z
    · intro p hp
      have hp : p < N 4 := hp
      obtain ⟨x, y⟩ := h4 p hp
      refine ⟨?_, ?_⟩
      · repeat first | rw [fset_eq] | rw [fset_ne (by omega)] | rw [frow_eq] | rw [frow_ne (by omega)]
        exact x
      · repeat first | rw [fset_eq] | rw [fset_ne (by omega)] | rw [frow_eq] | rw [frow_ne (by omega)]
        exact y
    · refine ⟨m, hm1, ?_, fun p hp => ?_⟩
      · repeat first | rw [fset_eq] | rw [fset_ne (by omega)] | rw [frow_eq] | rw [frow_ne (by omega)]
        exact hm2
      · have hp : p < N 1 := hp
        repeat first | rw [fset_eq] | rw [fset_ne (by omega)] | rw [frow_eq] | rw [frow_ne (by omega)]
        exact hm3 p hp
theorem ab_coat (h : zRl N F G) (hc : zR2 x (zin 0 3 a1 ∧ zin 1 9 a2 ∧ zin 1 99 a3) (N 3 < 6) (cM F F') (n' = (nI (N 3)).toInt64 ∧ cI (N 0) (N 2) (N 1) (N 3 + 1) (N 4) F' ∧ cM (fset (fset (fset (fset F 19 (N 3) a1) 20 (N 3) a2) 21 (N 3) a3) 18 3 (nI (N 3 + 1))) F')) (hr : rAddR 3 6 32 (zin 0 3 a1 ∧ zin 1 9 a2 ∧ zin 1 99 a3) (fun fe => fe 0 = a1 ∧ fe 1 = a2 ∧ fe 2 = a3 ∧ fe 3 = nI 0) N G b N' G') : zRl N' F' G' ∧ x = G' 0 0 ∧ (x = nI 0 → n' = b.toInt64) := by
  obtain ⟨hx, h9⟩ := zR2.both hc hr Iff.rfl Iff.rfl
  rcases h9 with ⟨n0, p, rfl, q⟩ | ⟨rfl, -, hlt, ⟨rfl, hI, hz⟩, rfl, rfl, md, fe, ⟨f0, f1, f2, f3⟩, hm⟩
  · exact ⟨h.mv p q, hx, fun e => absurd e n0⟩
  · refine ⟨⟨hI, zFe.mv (N := zNN N 3) hI.bnd ?_ hz hm⟩, hx, fun _ => rfl⟩
    obtain ⟨c0, c2, c1, c3, c4⟩ := h.1.bnd
    obtain ⟨h8, h0, h1, h2, h3, h4, m, hm1, hm2, hm3⟩ := h.2
    refine ⟨?_, ?_, ?_, ?_, ?_, ?_, ?_⟩
    · repeat first | rw [fset_eq] | rw [fset_ne (by omega)] | rw [frow_eq] | rw [frow_ne (by omega)]
      exact h8
    · intro p hp
      have hp : p < N 0 := hp
      obtain ⟨x, y, z⟩ := h0 p hp
      refine ⟨?_, ?_, ?_⟩
      · repeat first | rw [fset_eq] | rw [fset_ne (by omega)] | rw [frow_eq] | rw [frow_ne (by omega)]
        exact x
      · repeat first | rw [fset_eq] | rw [fset_ne (by omega)] | rw [frow_eq] | rw [frow_ne (by omega)]
        exact y
      · repeat first | rw [fset_eq] | rw [fset_ne (by omega)] | rw [frow_eq] | rw [frow_ne (by omega)]
        exact z
    · intro p hp
      have hp : p < N 1 := hp
      obtain ⟨x, y, z⟩ := h1 p hp
      refine ⟨?_, ?_, ?_⟩
      · repeat first | rw [fset_eq] | rw [fset_ne (by omega)] | rw [frow_eq] | rw [frow_ne (by omega)]
        exact x
      · repeat first | rw [fset_eq] | rw [fset_ne (by omega)] | rw [frow_eq] | rw [frow_ne (by omega)]
        exact y
      · repeat first | rw [fset_eq] | rw [fset_ne (by omega)] | rw [frow_eq] | rw [frow_ne (by omega)]
        exact z
    · intro p hp
      have hp : p < N 2 := hp
      obtain ⟨x, y⟩ := h2 p hp
      refine ⟨?_, ?_⟩
      · repeat first | rw [fset_eq] | rw [fset_ne (by omega)] | rw [frow_eq] | rw [frow_ne (by omega)]
        exact x
      · repeat first | rw [fset_eq] | rw [fset_ne (by omega)] | rw [frow_eq] | rw [frow_ne (by omega)]
        exact y
    · intro p hp
      have hp : p < N 3 + 1 := hp
      by_cases e : p = N 3
      · subst e
        refine ⟨?_, ?_, ?_⟩
        · repeat first | rw [fset_eq] | rw [fset_ne (by omega)] | rw [frow_eq] | rw [frow_ne (by omega)]
          exact f0.symm
        · repeat first | rw [fset_eq] | rw [fset_ne (by omega)] | rw [frow_eq] | rw [frow_ne (by omega)]
          exact f1.symm
        · repeat first | rw [fset_eq] | rw [fset_ne (by omega)] | rw [frow_eq] | rw [frow_ne (by omega)]
          exact f2.symm
      · obtain ⟨x, y, z⟩ := h3 p (by omega)
        refine ⟨?_, ?_, ?_⟩
        · repeat first | rw [fset_eq] | rw [fset_ne (by omega)] | rw [frow_eq] | rw [frow_ne (by omega)]
          exact x
        · repeat first | rw [fset_eq] | rw [fset_ne (by omega)] | rw [frow_eq] | rw [frow_ne (by omega)]
          exact y
        · repeat first | rw [fset_eq] | rw [fset_ne (by omega)] | rw [frow_eq] | rw [frow_ne (by omega)]
          exact z
    · intro p hp
      have hp : p < N 4 := hp
      obtain ⟨x, y⟩ := h4 p hp
      refine ⟨?_, ?_⟩
      · repeat first | rw [fset_eq] | rw [fset_ne (by omega)] | rw [frow_eq] | rw [frow_ne (by omega)]
        exact x
      · repeat first | rw [fset_eq] | rw [fset_ne (by omega)] | rw [frow_eq] | rw [frow_ne (by omega)]
        exact y
    · refine ⟨m, hm1, ?_, fun p hp => ?_⟩
      · repeat first | rw [fset_eq] | rw [fset_ne (by omega)] | rw [frow_eq] | rw [frow_ne (by omega)]
        exact hm2
      · have hp : p < N 1 := hp
        repeat first | rw [fset_eq] | rw [fset_ne (by omega)] | rw [frow_eq] | rw [frow_ne (by omega)]
        exact hm3 p hp
theorem ab_town (h : zRl N F G) (hc : zR2 x (zin 0 99 a1 ∧ zin 0 99 a2 ∧ zin 0 999 a3) (N 4 < 5) (cM F F') (n' = (nI (N 4)).toInt64 ∧ cI (N 0) (N 2) (N 1) (N 3) (N 4 + 1) F' ∧ cM (fset (fset (fset (fset F 24 (N 4) a1) 25 (N 4) a2) 26 (N 4) a3) 23 4 (nI (N 4 + 1))) F')) (hr : rAddR 4 5 38 (zin 0 99 a1 ∧ zin 0 99 a2 ∧ zin 0 999 a3) (fun fe => fe 0 = a1 ∧ fe 1 = a2 ∧ fe 2 = a3) N G b N' G') : zRl N' F' G' ∧ x = G' 0 0 ∧ (x = nI 0 → n' = b.toInt64) := by
  obtain ⟨hx, h9⟩ := zR2.both hc hr Iff.rfl Iff.rfl
  rcases h9 with ⟨n0, p, rfl, q⟩ | ⟨rfl, -, hlt, ⟨rfl, hI, hz⟩, rfl, rfl, md, fe, ⟨f0, f1, f2⟩, hm⟩
  · exact ⟨h.mv p q, hx, fun e => absurd e n0⟩
  · refine ⟨⟨hI, zFe.mv (N := zNN N 4) hI.bnd ?_ hz hm⟩, hx, fun _ => rfl⟩
    obtain ⟨c0, c2, c1, c3, c4⟩ := h.1.bnd
    obtain ⟨h8, h0, h1, h2, h3, h4, m, hm1, hm2, hm3⟩ := h.2
    refine ⟨?_, ?_, ?_, ?_, ?_, ?_, ?_⟩
    · repeat first | rw [fset_eq] | rw [fset_ne (by omega)] | rw [frow_eq] | rw [frow_ne (by omega)]
      exact h8
    · intro p hp
      have hp : p < N 0 := hp
      obtain ⟨x, y, z⟩ := h0 p hp
      refine ⟨?_, ?_, ?_⟩
      · repeat first | rw [fset_eq] | rw [fset_ne (by omega)] | rw [frow_eq] | rw [frow_ne (by omega)]
        exact x
      · repeat first | rw [fset_eq] | rw [fset_ne (by omega)] | rw [frow_eq] | rw [frow_ne (by omega)]
        exact y
      · repeat first | rw [fset_eq] | rw [fset_ne (by omega)] | rw [frow_eq] | rw [frow_ne (by omega)]
        exact z
    · intro p hp
      have hp : p < N 1 := hp
      obtain ⟨x, y, z⟩ := h1 p hp
      refine ⟨?_, ?_, ?_⟩
      · repeat first | rw [fset_eq] | rw [fset_ne (by omega)] | rw [frow_eq] | rw [frow_ne (by omega)]
        exact x
      · repeat first | rw [fset_eq] | rw [fset_ne (by omega)] | rw [frow_eq] | rw [frow_ne (by omega)]
        exact y
      · repeat first | rw [fset_eq] | rw [fset_ne (by omega)] | rw [frow_eq] | rw [frow_ne (by omega)]
        exact z
    · intro p hp
      have hp : p < N 2 := hp
      obtain ⟨x, y⟩ := h2 p hp
      refine ⟨?_, ?_⟩
      · repeat first | rw [fset_eq] | rw [fset_ne (by omega)] | rw [frow_eq] | rw [frow_ne (by omega)]
        exact x
      · repeat first | rw [fset_eq] | rw [fset_ne (by omega)] | rw [frow_eq] | rw [frow_ne (by omega)]
        exact y
    · intro p hp
      have hp : p < N 3 := hp
      obtain ⟨x, y, z⟩ := h3 p hp
      refine ⟨?_, ?_, ?_⟩
      · repeat first | rw [fset_eq] | rw [fset_ne (by omega)] | rw [frow_eq] | rw [frow_ne (by omega)]
        exact x
      · repeat first | rw [fset_eq] | rw [fset_ne (by omega)] | rw [frow_eq] | rw [frow_ne (by omega)]
        exact y
      · repeat first | rw [fset_eq] | rw [fset_ne (by omega)] | rw [frow_eq] | rw [frow_ne (by omega)]
        exact z
    · intro p hp
      have hp : p < N 4 + 1 := hp
      by_cases e : p = N 4
      · subst e
        refine ⟨?_, ?_⟩
        · repeat first | rw [fset_eq] | rw [fset_ne (by omega)] | rw [frow_eq] | rw [frow_ne (by omega)]
          exact f0.symm
        · repeat first | rw [fset_eq] | rw [fset_ne (by omega)] | rw [frow_eq] | rw [frow_ne (by omega)]
          exact f1.symm
      · obtain ⟨x, y⟩ := h4 p (by omega)
        refine ⟨?_, ?_⟩
        · repeat first | rw [fset_eq] | rw [fset_ne (by omega)] | rw [frow_eq] | rw [frow_ne (by omega)]
          exact x
        · repeat first | rw [fset_eq] | rw [fset_ne (by omega)] | rw [frow_eq] | rw [frow_ne (by omega)]
          exact y
    · refine ⟨m, hm1, ?_, fun p hp => ?_⟩
      · repeat first | rw [fset_eq] | rw [fset_ne (by omega)] | rw [frow_eq] | rw [frow_ne (by omega)]
        exact hm2
      · have hp : p < N 1 := hp
        repeat first | rw [fset_eq] | rw [fset_ne (by omega)] | rw [frow_eq] | rw [frow_ne (by omega)]
        exact hm3 p hp
theorem ab_pause (h : zRl N F G) (hc : zR2 x (zlt (N 2) a1) (zin 0 9 a2) (cM F F') (∃ s : Nat, a1 = nI s ∧ s < N 2 ∧ n' = (F 6 s).toInt64 ∧ cM (fset F 6 s a2) F')) (hr : zR2 (G' 0 0) (zlt (N 2) a1) (zin 0 9 a2) (rM G G') (∃ s : Nat, a1 = nI s ∧ s < N 2 ∧ b = G (26 + s) 1 ∧ rM (fset G (26 + s) 1 a2) G')) : zRl N F' G' ∧ x = G' 0 0 ∧ (x = nI 0 → n' = b.toInt64) := by
  obtain ⟨hx, h9⟩ := zR2.both hc hr Iff.rfl Iff.rfl
  obtain ⟨c0, c2, c1, c3, c4⟩ := h.1.bnd
  rcases h9 with ⟨n0, p, q⟩ | ⟨rfl, -, -, ⟨s, es, ls, rfl, hz⟩, s', es', ls', rfl, hm⟩
  · exact ⟨h.mv p q, hx, fun e => absurd e n0⟩
  · have : s' = s := (nI_eq (by omega) (by omega)).mp (es'.symm.trans es)
    subst this
    obtain ⟨h8, h0, h1, h2, h3, h4, m, hm1, hm2, hm3⟩ := h.2
    refine ⟨⟨(h.1.st (F' := fset F 6 s' a2) rfl rfl).mvM hz, zFe.mv h.1.bnd ?_ hz hm⟩, hx, fun _ => congrArg Int32.toInt64 (h2 s' ls).2⟩
    refine ⟨?_, ?_, ?_, ?_, ?_, ?_, m, hm1, ?_, fun p hp => ?_⟩
    · repeat first | rw [fset_eq] | rw [fset_ne (by omega)] | rw [frow_eq] | rw [frow_ne (by omega)]
      exact h8
    · intro p hp
      obtain ⟨x, y, z⟩ := h0 p hp
      refine ⟨?_, ?_, ?_⟩
      · repeat first | rw [fset_eq] | rw [fset_ne (by omega)] | rw [frow_eq] | rw [frow_ne (by omega)]
        exact x
      · repeat first | rw [fset_eq] | rw [fset_ne (by omega)] | rw [frow_eq] | rw [frow_ne (by omega)]
        exact y
      · repeat first | rw [fset_eq] | rw [fset_ne (by omega)] | rw [frow_eq] | rw [frow_ne (by omega)]
        exact z
    · intro p hp
      obtain ⟨x, y, z⟩ := h1 p hp
      refine ⟨?_, ?_, ?_⟩
      · repeat first | rw [fset_eq] | rw [fset_ne (by omega)] | rw [frow_eq] | rw [frow_ne (by omega)]
        exact x
      · repeat first | rw [fset_eq] | rw [fset_ne (by omega)] | rw [frow_eq] | rw [frow_ne (by omega)]
        exact y
      · repeat first | rw [fset_eq] | rw [fset_ne (by omega)] | rw [frow_eq] | rw [frow_ne (by omega)]
        exact z
    · intro p hp
      obtain ⟨x, y⟩ := h2 p hp
      refine ⟨?_, ?_⟩
      · repeat first | rw [fset_eq] | rw [fset_ne (by omega)] | rw [frow_eq] | rw [frow_ne (by omega)]
        exact x
      · by_cases e : p = s'
        · subst e
          rw [fset_eq, fset_eq]
        · repeat first | rw [fset_eq] | rw [fset_ne (by omega)] | rw [frow_eq] | rw [frow_ne (by omega)]
          exact y
    · intro p hp
      obtain ⟨x, y, z⟩ := h3 p hp
      refine ⟨?_, ?_, ?_⟩
      · repeat first | rw [fset_eq] | rw [fset_ne (by omega)] | rw [frow_eq] | rw [frow_ne (by omega)]
        exact x
      · repeat first | rw [fset_eq] | rw [fset_ne (by omega)] | rw [frow_eq] | rw [frow_ne (by omega)]
        exact y
      · repeat first | rw [fset_eq] | rw [fset_ne (by omega)] | rw [frow_eq] | rw [frow_ne (by omega)]
        exact z
    · intro p hp
      obtain ⟨x, y⟩ := h4 p hp
      refine ⟨?_, ?_⟩
      · repeat first | rw [fset_eq] | rw [fset_ne (by omega)] | rw [frow_eq] | rw [frow_ne (by omega)]
        exact x
      · repeat first | rw [fset_eq] | rw [fset_ne (by omega)] | rw [frow_eq] | rw [frow_ne (by omega)]
        exact y
    · repeat first | rw [fset_eq] | rw [fset_ne (by omega)] | rw [frow_eq] | rw [frow_ne (by omega)]
      exact hm2
    · repeat first | rw [fset_eq] | rw [fset_ne (by omega)] | rw [frow_eq] | rw [frow_ne (by omega)]
      exact hm3 p hp
/-- how many of the first are not in a set -/
def zwm (m : Nat) : Nat → Nat
  | 0 => 0
  | n + 1 => zwm m n + (if m.testBit n = true then 0 else 1)
theorem zwm_ok : ∀ n, n < 6 → ∀ m, m < 32 → m < 2 ^ n → nI n - zbc (nI m) = nI (zwm m n) := by decide +kernel
theorem zsk_a : ∀ m, m < 32 → ∀ p, p < 5 → zsk (nI m) p 0 = nI (m &&& (31 ^^^ 2 ^ p)) := by decide +kernel
theorem zsk_b : ∀ m, m < 32 → ∀ p, p < 5 → ∀ q, q < 5 → (m &&& (31 ^^^ 2 ^ p)).testBit q = (q != p && m.testBit q) := by decide +kernel
theorem zsk_c : ∀ m, m < 32 → ∀ p, p < 5 → zsk (nI m) p 1 = nI (m ||| 2 ^ p) := by decide +kernel
theorem zsk_d : ∀ m, m < 32 → ∀ p, p < 5 → ∀ q, q < 5 → (m ||| 2 ^ p).testBit q = (q == p || m.testBit q) := by decide +kernel
theorem zsk_0 (n : Nat) (hn : n < 6) (m : Nat) (hm : m < 32) (h : m < 2 ^ n) (p : Nat) (hp : p < 5) (hpn : p < n) : zsk (nI m) p 0 = nI (m &&& (31 ^^^ 2 ^ p)) ∧ m &&& (31 ^^^ 2 ^ p) < 2 ^ n ∧ ∀ q, q < 5 → (m &&& (31 ^^^ 2 ^ p)).testBit q = (q != p && m.testBit q) := ⟨zsk_a m hm p hp, Nat.lt_of_le_of_lt Nat.and_le_left h, zsk_b m hm p hp⟩
theorem zsk_1 (n : Nat) (hn : n < 6) (m : Nat) (hm : m < 32) (h : m < 2 ^ n) (p : Nat) (hp : p < 5) (hpn : p < n) : zsk (nI m) p 1 = nI (m ||| 2 ^ p) ∧ m ||| 2 ^ p < 2 ^ n ∧ ∀ q, q < 5 → (m ||| 2 ^ p).testBit q = (q == p || m.testBit q) := ⟨zsk_c m hm p hp, zor h hpn, zsk_d m hm p hp⟩
theorem zwl_m {m : Nat} (n : Nat) (h : ∀ p, p < n → (m.testBit p = true ↔ G (21 + p) 3 = nI 1)) (h01 : ∀ p, p < n → G (21 + p) 3 = 0 ∨ G (21 + p) 3 = 1) : zwl G n = zwm m n := by
  induction n with
  | zero => rfl
  | succ n ih =>
    show zwl G n + _ = zwm m n + _
    rw [ih (fun p hp => h p (by omega)) (fun p hp => h01 p (by omega))]
    have h1 := h n (Nat.lt_succ_self n)
    rcases h01 n (Nat.lt_succ_self n) with e | e
    · rw [if_pos e, if_neg (fun q => by have := h1.mp q; rw [e] at this; exact absurd this (by decide))]
    · rw [if_neg (by rw [e]; decide), if_pos (h1.mpr e)]
theorem ab_sick (h : zRl N F G) (ha2 : a2 = 0 ∨ a2 = 1) (hI' : rI N G') (hc : zR2 x (zlt (N 1) a1) True (cM F F') (∃ p : Nat, a1 = nI p ∧ p < N 1 ∧ n' = (nI (N 1) - zbc (F' 7 5)).toInt64 ∧ cM (fset F 7 5 (zsk (F 7 5) p a2)) F')) (hr : zR2 (G' 0 0) (zlt (N 1) a1) True (rM G G') (∃ p : Nat, a1 = nI p ∧ p < N 1 ∧ b = nI (zwl G' (N 1)) ∧ rM (fset G (21 + p) 3 a2) G')) : zRl N F' G' ∧ x = G' 0 0 ∧ (x = nI 0 → n' = b.toInt64) := by
  obtain ⟨hx, h9⟩ := zR2.both hc hr Iff.rfl Iff.rfl
  obtain ⟨c0, c2, c1, c3, c4⟩ := h.1.bnd
  rcases h9 with ⟨n0, p, q⟩ | ⟨rfl, -, -, ⟨s, es, ls, rfl, hz⟩, s', es', ls', rfl, hm⟩
  · exact ⟨h.mv p q, hx, fun e => absurd e n0⟩
  · have : s' = s := (nI_eq (by omega) (by omega)).mp (es'.symm.trans es)
    subst this
    obtain ⟨h8, h0, h1, h2, h3, h4, m, hm1, hm2, hm3⟩ := h.2
    have m32 : m < 32 := Nat.lt_of_lt_of_le hm1 (zp2 (n := 5) c1)
    have key : ∃ m', m' < 2 ^ N 1 ∧ zsk (F 7 5) s' a2 = nI m' ∧ ∀ p, p < N 1 → (m'.testBit p = true ↔ fset G (21 + s') 3 a2 (21 + p) 3 = nI 1) := by
      rw [hm2]
      rcases ha2 with rfl | rfl
      · obtain ⟨e1, e2, e3⟩ := zsk_0 (N 1) (by omega) m m32 hm1 s' (by omega) ls
        refine ⟨_, e2, e1, fun p hp => ?_⟩
        rw [e3 p (by omega)]
        by_cases e : p = s'
        · subst e
          rw [fset_eq]
          simp
          decide
        · rw [fset_ne (by omega), ← hm3 p hp]
          simp [e]
      · obtain ⟨e1, e2, e3⟩ := zsk_1 (N 1) (by omega) m m32 hm1 s' (by omega) ls
        refine ⟨_, e2, e1, fun p hp => ?_⟩
        rw [e3 p (by omega)]
        by_cases e : p = s'
        · subst e
          rw [fset_eq]
          simp
          decide
        · rw [fset_ne (by omega), ← hm3 p hp]
          simp [e]
    obtain ⟨m', k1, k2, k3⟩ := key
    have hR : zRl N F' G' := by
      refine ⟨(h.1.st (F' := fset F 7 5 (zsk (F 7 5) s' a2)) rfl rfl).mvM hz, zFe.mv h.1.bnd ?_ hz hm⟩
      refine ⟨?_, ?_, ?_, ?_, ?_, ?_, m', k1, ?_, k3⟩
      · repeat first | rw [fset_eq] | rw [fset_ne (by omega)] | rw [frow_eq] | rw [frow_ne (by omega)]
        exact h8
      · intro p hp
        obtain ⟨x, y, z⟩ := h0 p hp
        refine ⟨?_, ?_, ?_⟩
        · repeat first | rw [fset_eq] | rw [fset_ne (by omega)] | rw [frow_eq] | rw [frow_ne (by omega)]
          exact x
        · repeat first | rw [fset_eq] | rw [fset_ne (by omega)] | rw [frow_eq] | rw [frow_ne (by omega)]
          exact y
        · repeat first | rw [fset_eq] | rw [fset_ne (by omega)] | rw [frow_eq] | rw [frow_ne (by omega)]
          exact z
      · intro p hp
        obtain ⟨x, y, z⟩ := h1 p hp
        refine ⟨?_, ?_, ?_⟩
        · repeat first | rw [fset_eq] | rw [fset_ne (by omega)] | rw [frow_eq] | rw [frow_ne (by omega)]
          exact x
        · repeat first | rw [fset_eq] | rw [fset_ne (by omega)] | rw [frow_eq] | rw [frow_ne (by omega)]
          exact y
        · repeat first | rw [fset_eq] | rw [fset_ne (by omega)] | rw [frow_eq] | rw [frow_ne (by omega)]
          exact z
      · intro p hp
        obtain ⟨x, y⟩ := h2 p hp
        refine ⟨?_, ?_⟩
        · repeat first | rw [fset_eq] | rw [fset_ne (by omega)] | rw [frow_eq] | rw [frow_ne (by omega)]
          exact x
        · repeat first | rw [fset_eq] | rw [fset_ne (by omega)] | rw [frow_eq] | rw [frow_ne (by omega)]
          exact y
      · intro p hp
        obtain ⟨x, y, z⟩ := h3 p hp
        refine ⟨?_, ?_, ?_⟩
        · repeat first | rw [fset_eq] | rw [fset_ne (by omega)] | rw [frow_eq] | rw [frow_ne (by omega)]
          exact x
        · repeat first | rw [fset_eq] | rw [fset_ne (by omega)] | rw [frow_eq] | rw [frow_ne (by omega)]
          exact y
        · repeat first | rw [fset_eq] | rw [fset_ne (by omega)] | rw [frow_eq] | rw [frow_ne (by omega)]
          exact z
      · intro p hp
        obtain ⟨x, y⟩ := h4 p hp
        refine ⟨?_, ?_⟩
        · repeat first | rw [fset_eq] | rw [fset_ne (by omega)] | rw [frow_eq] | rw [frow_ne (by omega)]
          exact x
        · repeat first | rw [fset_eq] | rw [fset_ne (by omega)] | rw [frow_eq] | rw [frow_ne (by omega)]
          exact y
      · rw [fset_eq]
        exact k2
    refine ⟨hR, hx, fun _ => congrArg Int32.toInt64 ?_⟩
    obtain ⟨-, -, -, -, -, -, m2, j1, j2, j3⟩ := hR.2
    rw [j2, zwm_ok (N 1) (by omega) m2 (Nat.lt_of_lt_of_le j1 (zp2 (n := 5) c1)) j1, zwl_m (N 1) j3 (fun p hp => hI'.sick p hp)]
theorem ab_knock (h : zRl N F G) (hI : cI (N 0) (N 2) (N 1) (N 3) (N 4) F') (hz : F' = fset F 0 8 (F 0 8 + nI 1)) (hm : rM (fset G 0 9 (G 0 9 + nI 1)) G') : zRl N F' G' := by
  subst hz
  refine ⟨hI, zFe.mv h.1.bnd ?_ cM.rfl' hm⟩
  obtain ⟨c0, c2, c1, c3, c4⟩ := h.1.bnd
  obtain ⟨h8, h0, h1, h2, h3, h4, m, hm1, hm2, hm3⟩ := h.2
  refine ⟨?_, ?_, ?_, ?_, ?_, ?_, m, hm1, ?_, fun p hp => ?_⟩
  · rw [fset_eq, fset_eq, h8]
  · intro p hp
    obtain ⟨x, y, z⟩ := h0 p hp
    refine ⟨?_, ?_, ?_⟩
    · repeat first | rw [fset_eq] | rw [fset_ne (by omega)] | rw [frow_eq] | rw [frow_ne (by omega)]
      exact x
    · repeat first | rw [fset_eq] | rw [fset_ne (by omega)] | rw [frow_eq] | rw [frow_ne (by omega)]
      exact y
    · repeat first | rw [fset_eq] | rw [fset_ne (by omega)] | rw [frow_eq] | rw [frow_ne (by omega)]
      exact z
  · intro p hp
    obtain ⟨x, y, z⟩ := h1 p hp
    refine ⟨?_, ?_, ?_⟩
    · repeat first | rw [fset_eq] | rw [fset_ne (by omega)] | rw [frow_eq] | rw [frow_ne (by omega)]
      exact x
    · repeat first | rw [fset_eq] | rw [fset_ne (by omega)] | rw [frow_eq] | rw [frow_ne (by omega)]
      exact y
    · repeat first | rw [fset_eq] | rw [fset_ne (by omega)] | rw [frow_eq] | rw [frow_ne (by omega)]
      exact z
  · intro p hp
    obtain ⟨x, y⟩ := h2 p hp
    refine ⟨?_, ?_⟩
    · repeat first | rw [fset_eq] | rw [fset_ne (by omega)] | rw [frow_eq] | rw [frow_ne (by omega)]
      exact x
    · repeat first | rw [fset_eq] | rw [fset_ne (by omega)] | rw [frow_eq] | rw [frow_ne (by omega)]
      exact y
  · intro p hp
    obtain ⟨x, y, z⟩ := h3 p hp
    refine ⟨?_, ?_, ?_⟩
    · repeat first | rw [fset_eq] | rw [fset_ne (by omega)] | rw [frow_eq] | rw [frow_ne (by omega)]
      exact x
    · repeat first | rw [fset_eq] | rw [fset_ne (by omega)] | rw [frow_eq] | rw [frow_ne (by omega)]
      exact y
    · repeat first | rw [fset_eq] | rw [fset_ne (by omega)] | rw [frow_eq] | rw [frow_ne (by omega)]
      exact z
  · intro p hp
    obtain ⟨x, y⟩ := h4 p hp
    refine ⟨?_, ?_⟩
    · repeat first | rw [fset_eq] | rw [fset_ne (by omega)] | rw [frow_eq] | rw [frow_ne (by omega)]
      exact x
    · repeat first | rw [fset_eq] | rw [fset_ne (by omega)] | rw [frow_eq] | rw [frow_ne (by omega)]
      exact y
  · repeat first | rw [fset_eq] | rw [fset_ne (by omega)] | rw [frow_eq] | rw [frow_ne (by omega)]
    exact hm2
  · repeat first | rw [fset_eq] | rw [fset_ne (by omega)] | rw [frow_eq] | rw [frow_ne (by omega)]
    exact hm3 p hp
end REL
