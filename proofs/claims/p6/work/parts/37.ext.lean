/-! ===== the reference's world grows ===== -/
def zad (ad : Nat → Nat) (p d a D : Nat) : Nat → Nat := fun q => if q = p then a else if q = d then D else ad q
def zNN (N : Nat → Nat) (i : Nat) : Nat → Nat := fun q => if q = i then N i + 1 else N q
/-- what the caller learns of a world that has grown -/
def rGrow (ad ad' N N' : Nat → Nat) (t1 : Nat) : Prop := ad' 0 = ad 0 ∧ ad' 43 = ad 43 ∧ ∀ k, rLive N' k = true → (∃ j, rLive N j = true ∧ ad' k = ad j) ∨ t1 ≤ ad' k
theorem rGrow.rfl' {ad N : Nat → Nat} {t1 : Nat} : rGrow ad ad N N t1 := ⟨rfl, rfl, fun k hk => Or.inl ⟨k, hk, rfl⟩⟩
theorem rEls_congr2 {ad ad' : Nat → Nat} {b n : Nat} (h : ∀ j, j < n → ad' (b + j) = ad (b + j)) : rEls ad' b n = rEls ad b n := by
  funext i
  unfold rEls
  by_cases hi : i < n
  · rw [if_pos hi, if_pos hi, h i hi]
  · rw [if_neg hi, if_neg hi]
theorem rCell_congr2 {g : zG} {ad ad' N N' : Nat → Nat} {S : Int64} {f : Nat → Int32} {k : Nat} (h0 : k = 0 → ∀ j : Nat, j ≤ 5 ∨ (11 ≤ j ∧ j ≤ 13) → ad' j = ad j)
  (l0 : k = 1 → N' 0 = N 0 ∧ rDat ad' N' 0 = rDat ad N 0) (d0 : k = 6 → N' 0 = N 0 ∧ ∀ j, j < N 0 → ad' (14 + j) = ad (14 + j))
  (l1 : k = 2 → N' 1 = N 1 ∧ rDat ad' N' 1 = rDat ad N 1) (d1 : k = 7 → N' 1 = N 1 ∧ ∀ j, j < N 1 → ad' (21 + j) = ad (21 + j))
  (l2 : k = 3 → N' 2 = N 2 ∧ rDat ad' N' 2 = rDat ad N 2) (d2 : k = 8 → N' 2 = N 2 ∧ ∀ j, j < N 2 → ad' (26 + j) = ad (26 + j))
  (l3 : k = 4 → N' 3 = N 3 ∧ rDat ad' N' 3 = rDat ad N 3) (d3 : k = 9 → N' 3 = N 3 ∧ ∀ j, j < N 3 → ad' (32 + j) = ad (32 + j))
  (l4 : k = 5 → N' 4 = N 4 ∧ rDat ad' N' 4 = rDat ad N 4) (d4 : k = 10 → N' 4 = N 4 ∧ ∀ j, j < N 4 → ad' (38 + j) = ad (38 + j))
  : rCell g ad' N' S k f = rCell g ad N S k f := by
  match k, h0, l0, d0, l1, d1, l2, d2, l3, d3, l4, d4 with
  | 0, h0, _, _, _, _, _, _, _, _, _, _ => have h := h0 rfl; simp only [rCell, h 1 (by omega), h 2 (by omega), h 3 (by omega), h 4 (by omega), h 5 (by omega), h 11 (by omega), h 12 (by omega), h 13 (by omega)]
  | 1, _, l, _, _, _, _, _, _, _, _, _ => have h := l rfl; simp only [rCell, h.1, h.2]
  | 2, _, _, _, l, _, _, _, _, _, _, _ => have h := l rfl; simp only [rCell, h.1, h.2]
  | 3, _, _, _, _, _, l, _, _, _, _, _ => have h := l rfl; simp only [rCell, h.1, h.2]
  | 4, _, _, _, _, _, _, _, l, _, _, _ => have h := l rfl; simp only [rCell, h.1, h.2]
  | 5, _, _, _, _, _, _, _, _, _, l, _ => have h := l rfl; simp only [rCell, h.1, h.2]
  | 6, _, _, d, _, _, _, _, _, _, _, _ => have h := d rfl; simp only [rCell, h.1, rEls_congr2 h.2]
  | 7, _, _, _, _, d, _, _, _, _, _, _ => have h := d rfl; simp only [rCell, h.1, rEls_congr2 h.2]
  | 8, _, _, _, _, _, _, d, _, _, _, _ => have h := d rfl; simp only [rCell, h.1, rEls_congr2 h.2]
  | 9, _, _, _, _, _, _, _, _, d, _, _ => have h := d rfl; simp only [rCell, h.1, rEls_congr2 h.2]
  | 10, _, _, _, _, _, _, _, _, _, _, d => have h := d rfl; simp only [rCell, h.1, rEls_congr2 h.2]
  | 11, _, _, _, _, _, _, _, _, _, _, _ => rfl
  | 12, _, _, _, _, _, _, _, _, _, _, _ => rfl
  | 13, _, _, _, _, _, _, _, _, _, _, _ => rfl
  | 14, _, _, _, _, _, _, _, _, _, _, _ => rfl
  | 15, _, _, _, _, _, _, _, _, _, _, _ => rfl
  | 16, _, _, _, _, _, _, _, _, _, _, _ => rfl
  | 17, _, _, _, _, _, _, _, _, _, _, _ => rfl
  | 18, _, _, _, _, _, _, _, _, _, _, _ => rfl
  | 19, _, _, _, _, _, _, _, _, _, _, _ => rfl
  | 20, _, _, _, _, _, _, _, _, _, _, _ => rfl
  | 21, _, _, _, _, _, _, _, _, _, _, _ => rfl
  | 22, _, _, _, _, _, _, _, _, _, _, _ => rfl
  | 23, _, _, _, _, _, _, _, _, _, _, _ => rfl
  | 24, _, _, _, _, _, _, _, _, _, _, _ => rfl
  | 25, _, _, _, _, _, _, _, _, _, _, _ => rfl
  | 26, _, _, _, _, _, _, _, _, _, _, _ => rfl
  | 27, _, _, _, _, _, _, _, _, _, _, _ => rfl
  | 28, _, _, _, _, _, _, _, _, _, _, _ => rfl
  | 29, _, _, _, _, _, _, _, _, _, _, _ => rfl
  | 30, _, _, _, _, _, _, _, _, _, _, _ => rfl
  | 31, _, _, _, _, _, _, _, _, _, _, _ => rfl
  | 32, _, _, _, _, _, _, _, _, _, _, _ => rfl
  | 33, _, _, _, _, _, _, _, _, _, _, _ => rfl
  | 34, _, _, _, _, _, _, _, _, _, _, _ => rfl
  | 35, _, _, _, _, _, _, _, _, _, _, _ => rfl
  | 36, _, _, _, _, _, _, _, _, _, _, _ => rfl
  | 37, _, _, _, _, _, _, _, _, _, _, _ => rfl
  | 38, _, _, _, _, _, _, _, _, _, _, _ => rfl
  | 39, _, _, _, _, _, _, _, _, _, _, _ => rfl
  | 40, _, _, _, _, _, _, _, _, _, _, _ => rfl
  | 41, _, _, _, _, _, _, _, _, _, _, _ => rfl
  | 42, _, _, _, _, _, _, _, _, _, _, _ => rfl
  | k + 43, _, _, _, _, _, _, _, _, _, _, _ => rfl
set_option maxHeartbeats 400000 in
theorem r_ext0 {g : zG} {ad N : Nat → Nat} {S : Int64} {G : Nat → Nat → Int32} {σ0 f : Nat → Option va_E} {a D : Nat} {md : Int32} {fe : Nat → Int32} (hK : rK g ad N) (hb : N 0 ≤ 7 ∧ N 1 ≤ 5 ∧ N 2 ≤ 6 ∧ N 3 ≤ 6 ∧ N 4 ≤ 5) (hN : N 0 < 7) (ha : ∀ k, rLive N k = true → ad k ≠ a) (ga : g.2.1.size ≤ a) (hD : (N 0 = 0 ∧ (∀ k, rLive N k = true → ad k ≠ D) ∧ g.2.1.size ≤ D ∧ a ≠ D) ∨ (0 < N 0 ∧ D = ad 6))
  (h1 : f (ad 1) = some (.inr (3, [.int md, .ref D, .int (nI (N 0 + 1))]))) (h2 : f D = some (.inl (g.2.2.2 3, 10, .inr (.inr (.inr (.inr (va_up (rEls ad 14 (N 0)) (N 0) (some a))))))))
  (h3 : f a = some (.inr (12, [.int (fe 0), .int (fe 1), .int (fe 2)]))) (h4 : ∀ q, q ≠ ad 1 → q ≠ D → q ≠ a → f q = rO g ad N S G σ0 q) :
  f = rO g (zad ad (14 + N 0) 6 a D) (zNN N 0) S (frow (fset G 1 0 md) (14 + N 0) fe) σ0 ∧ rK g (zad ad (14 + N 0) 6 a D) (zNN N 0) ∧ (∀ t1, t1 ≤ a → (N 0 = 0 → t1 ≤ D) → rGrow ad (zad ad (14 + N 0) 6 a D) N (zNN N 0) t1) := by
  have n0 : zNN N 0 0 = N 0 + 1 := if_pos rfl
  have n2 : zNN N 0 1 = N 1 := if_neg (by decide)
  have n3 : zNN N 0 2 = N 2 := if_neg (by decide)
  have n4 : zNN N 0 3 = N 3 := if_neg (by decide)
  have n5 : zNN N 0 4 = N 4 := if_neg (by decide)
  have eD : zad ad (14 + N 0) 6 a D 6 = D := by unfold zad; rw [if_neg (by omega), if_pos rfl]
  have ea : zad ad (14 + N 0) 6 a D (14 + N 0) = a := if_pos rfl
  have eo : ∀ q, q ≠ 14 + N 0 → q ≠ 6 → zad ad (14 + N 0) 6 a D q = ad q := fun q h1 h2 => by unfold zad; rw [if_neg h1, if_neg h2]
  have lo : ∀ k, rLive (zNN N 0) k = true → k ≠ 6 → k ≠ 14 + N 0 → rLive N k = true := fun k hk k1 k2 => by
    have h := of_decide_eq_true hk
    rw [n0, n2, n3, n4, n5] at h
    rcases h with h | h | h | h | h | h | h | h | h | h | h | h
    · exact rlv (Or.inl h)
    · exact rlv (Or.inr (Or.inl h))
    · exact absurd h.1 k1
    · exact rlv (Or.inr (Or.inr (Or.inr (Or.inl h))))
    · exact rlv (Or.inr (Or.inr (Or.inr (Or.inr (Or.inl h)))))
    · exact rlv (Or.inr (Or.inr (Or.inr (Or.inr (Or.inr (Or.inl h))))))
    · exact rlv (Or.inr (Or.inr (Or.inr (Or.inr (Or.inr (Or.inr (Or.inl h)))))))
    · exact rlv (Or.inr (Or.inr (Or.inr (Or.inr (Or.inr (Or.inr (Or.inr (Or.inl ⟨h.1, h.2.1, by omega⟩))))))))
    · exact rlv (Or.inr (Or.inr (Or.inr (Or.inr (Or.inr (Or.inr (Or.inr (Or.inr (Or.inl h)))))))))
    · exact rlv (Or.inr (Or.inr (Or.inr (Or.inr (Or.inr (Or.inr (Or.inr (Or.inr (Or.inr (Or.inl h))))))))))
    · exact rlv (Or.inr (Or.inr (Or.inr (Or.inr (Or.inr (Or.inr (Or.inr (Or.inr (Or.inr (Or.inr (Or.inl h)))))))))))
    · exact rlv (Or.inr (Or.inr (Or.inr (Or.inr (Or.inr (Or.inr (Or.inr (Or.inr (Or.inr (Or.inr (Or.inr h)))))))))))
  have ln : ∀ k, rLive N k = true → rLive (zNN N 0) k = true := fun k hk => by
    have h := of_decide_eq_true hk
    refine rlv ?_
    rw [n0, n2, n3, n4, n5]
    rcases h with h | h | h | h | h | h | h | h | h | h | h | h
    · exact (Or.inl h)
    · exact (Or.inr (Or.inl h))
    · exact (Or.inr (Or.inr (Or.inl ⟨h.1, by omega⟩)))
    · exact (Or.inr (Or.inr (Or.inr (Or.inl h))))
    · exact (Or.inr (Or.inr (Or.inr (Or.inr (Or.inl h)))))
    · exact (Or.inr (Or.inr (Or.inr (Or.inr (Or.inr (Or.inl h))))))
    · exact (Or.inr (Or.inr (Or.inr (Or.inr (Or.inr (Or.inr (Or.inl h)))))))
    · exact (Or.inr (Or.inr (Or.inr (Or.inr (Or.inr (Or.inr (Or.inr (Or.inl ⟨h.1, h.2.1, by omega⟩))))))))
    · exact (Or.inr (Or.inr (Or.inr (Or.inr (Or.inr (Or.inr (Or.inr (Or.inr (Or.inl h)))))))))
    · exact (Or.inr (Or.inr (Or.inr (Or.inr (Or.inr (Or.inr (Or.inr (Or.inr (Or.inr (Or.inl h))))))))))
    · exact (Or.inr (Or.inr (Or.inr (Or.inr (Or.inr (Or.inr (Or.inr (Or.inr (Or.inr (Or.inr (Or.inl h)))))))))))
    · exact (Or.inr (Or.inr (Or.inr (Or.inr (Or.inr (Or.inr (Or.inr (Or.inr (Or.inr (Or.inr (Or.inr h)))))))))))
  have lp : rLive (zNN N 0) (14 + N 0) = true := rlv (by rw [n0, n2, n3, n4, n5]; omega)
  have lD : rLive (zNN N 0) 6 = true := rlv (by rw [n0, n2, n3, n4, n5]; omega)
  have hl : rLive N 1 = true := rlv (by omega)
  have hDo : ∀ k, rLive N k = true → k ≠ 6 → ad k ≠ D := fun k hk k1 e => by
    rcases hD with ⟨-, q, -⟩ | ⟨q, q2⟩
    · exact q k hk e
    · exact k1 (hK.1 k 6 hk (rlv (by omega)) (e.trans q2))
  have haD : a ≠ D := by
    rcases hD with ⟨-, -, -, q⟩ | ⟨q, q2⟩
    · exact q
    · rw [q2]; exact fun e => ha 6 (rlv (by omega)) e.symm
  have gD : g.2.1.size ≤ D := by
    rcases hD with ⟨-, -, q, -⟩ | ⟨q, q2⟩
    · exact q
    · rw [q2]; exact hK.2 6 (rlv (by omega)) (by decide)
  have hK' : rK g (zad ad (14 + N 0) 6 a D) (zNN N 0) := by
    refine ⟨fun j k hj hk e => ?_, fun k hk h43 => ?_⟩
    · by_cases j1 : j = 14 + N 0
      · by_cases k1 : k = 14 + N 0
        · omega
        · exfalso
          rw [j1, ea] at e
          by_cases k2 : k = 6
          · rw [k2, eD] at e; exact haD e
          · rw [eo k k1 k2] at e; exact ha k (lo k hk k2 k1) e.symm
      · by_cases k1 : k = 14 + N 0
        · exfalso
          rw [k1, ea] at e
          by_cases j2 : j = 6
          · rw [j2, eD] at e; exact haD e.symm
          · rw [eo j j1 j2] at e; exact ha j (lo j hj j2 j1) e
        · by_cases j2 : j = 6
          · by_cases k2 : k = 6
            · omega
            · exfalso
              rw [j2, eD, eo k k1 k2] at e
              exact hDo k (lo k hk k2 k1) k2 e.symm
          · by_cases k2 : k = 6
            · exfalso
              rw [k2, eD, eo j j1 j2] at e
              exact hDo j (lo j hj j2 j1) j2 e
            · rw [eo j j1 j2, eo k k1 k2] at e
              exact hK.1 j k (lo j hj j2 j1) (lo k hk k2 k1) e
    · by_cases k1 : k = 14 + N 0
      · rw [k1, ea]; exact ga
      · by_cases k2 : k = 6
        · rw [k2, eD]; exact gD
        · rw [eo k k1 k2]; exact hK.2 k (lo k hk k2 k1) h43
  refine ⟨rO_eq hK' (fun k hk => ?_) (fun q hq => ?_), hK', fun t1 q1 q2 => ⟨eo 0 (by omega) (by omega), eo 43 (by omega) (by omega), fun k hk => ?_⟩⟩
  · by_cases k1 : k = 14 + N 0
    · rw [k1, ea, h3, frow_eq, rCell_part hN]
    · by_cases k2 : k = 6
      · rw [k2, eD, h2]
        refine congrArg some ?_
        show _ = Sum.inl (g.2.2.2 3, 10, Sum.inr (Sum.inr (Sum.inr (Sum.inr (rEls _ 14 (zNN N 0 0))))))
        rw [n0]
        have : va_up (rEls ad 14 (N 0)) (N 0) (some a) = rEls (zad ad (14 + N 0) 6 a D) 14 (N 0 + 1) := by
          funext q
          unfold rEls
          by_cases e1 : q = N 0
          · subst e1; rw [if_pos (by omega), ea]; simp [va_up]
          · by_cases e2 : q < N 0
            · rw [if_pos (by omega), eo (14 + q) (by omega) (by omega)]; simp [va_up, e1, e2]
            · rw [if_neg (by omega)]; simp [va_up, e1, e2]
        rw [this]
      · rw [eo k k1 k2]
        by_cases k3 : k = 1
        · rw [k3, h1, frow_ne (by omega)]
          refine congrArg some ?_
          show _ = (Sum.inr (3, [Value.int (fset G 1 0 md 1 0), Value.ref (rDat _ (zNN N 0) 0), Value.int (nI (zNN N 0 0))]) : va_E)
          rw [fset_eq, n0]
          unfold rDat
          rw [if_neg (by rw [n0]; omega), eD]
        · have hk0 := lo k hk k2 k1
          rw [h4 (ad k) (fun e => k3 (hK.1 k 1 hk0 hl e)) (hDo k hk0 k2) (ha k hk0), rO_at hK hk0, frow_ne k1, fset_other k3]
          refine congrArg some (Eq.symm (rCell_congr2 (fun _ j hj => eo j (by omega) (by omega))
            (fun e => absurd e k3) (fun e => absurd e k2) (fun _ => ⟨n2, by unfold rDat; rw [n2, eo 43 (by omega) (by omega), eo 7 (by omega) (by omega)]⟩) (fun _ => ⟨n2, fun q hq => eo (21 + q) (by omega) (by omega)⟩) (fun _ => ⟨n3, by unfold rDat; rw [n3, eo 43 (by omega) (by omega), eo 8 (by omega) (by omega)]⟩) (fun _ => ⟨n3, fun q hq => eo (26 + q) (by omega) (by omega)⟩) (fun _ => ⟨n4, by unfold rDat; rw [n4, eo 43 (by omega) (by omega), eo 9 (by omega) (by omega)]⟩) (fun _ => ⟨n4, fun q hq => eo (32 + q) (by omega) (by omega)⟩) (fun _ => ⟨n5, by unfold rDat; rw [n5, eo 43 (by omega) (by omega), eo 10 (by omega) (by omega)]⟩) (fun _ => ⟨n5, fun q hq => eo (38 + q) (by omega) (by omega)⟩)))
  · have q1 : q ≠ a := fun e => hq _ lp (ea.trans e.symm)
    have q2 : q ≠ D := fun e => hq _ lD (eD.trans e.symm)
    have q3 : q ≠ ad 1 := fun e => hq 1 (ln 1 hl) ((eo 1 (by omega) (by omega)).trans e.symm)
    rw [h4 q q3 q2 q1]
    refine rO_out fun k hk e => ?_
    by_cases k2 : k = 6
    · rcases hD with ⟨z, -⟩ | ⟨-, z⟩
      · have := of_decide_eq_true hk; omega
      · exact q2 (by rw [z, ← e, k2])
    · exact hq k (ln k hk) ((eo k (by have := of_decide_eq_true hk; omega) k2).trans e)
  · by_cases k1 : k = 14 + N 0
    · exact Or.inr (by rw [k1, ea]; exact q1)
    · by_cases k2 : k = 6
      · rcases hD with ⟨z, -⟩ | ⟨z, z2⟩
        · exact Or.inr (by rw [k2, eD]; exact q2 z)
        · exact Or.inl ⟨6, rlv (by omega), by rw [k2, eD, z2]⟩
      · exact Or.inl ⟨k, lo k hk k2 k1, eo k k1 k2⟩
set_option maxHeartbeats 400000 in
theorem r_ext1 {g : zG} {ad N : Nat → Nat} {S : Int64} {G : Nat → Nat → Int32} {σ0 f : Nat → Option va_E} {a D : Nat} {md : Int32} {fe : Nat → Int32} (hK : rK g ad N) (hb : N 0 ≤ 7 ∧ N 1 ≤ 5 ∧ N 2 ≤ 6 ∧ N 3 ≤ 6 ∧ N 4 ≤ 5) (hN : N 1 < 5) (ha : ∀ k, rLive N k = true → ad k ≠ a) (ga : g.2.1.size ≤ a) (hD : (N 1 = 0 ∧ (∀ k, rLive N k = true → ad k ≠ D) ∧ g.2.1.size ≤ D ∧ a ≠ D) ∨ (0 < N 1 ∧ D = ad 7))
  (h1 : f (ad 2) = some (.inr (3, [.int md, .ref D, .int (nI (N 1 + 1))]))) (h2 : f D = some (.inl (g.2.2.2 3, 10, .inr (.inr (.inr (.inr (va_up (rEls ad 21 (N 1)) (N 1) (some a))))))))
  (h3 : f a = some (.inr (13, [.int (fe 0), .int (fe 1), .int (fe 2), .int (fe 3), .int (fe 4)]))) (h4 : ∀ q, q ≠ ad 2 → q ≠ D → q ≠ a → f q = rO g ad N S G σ0 q) :
  f = rO g (zad ad (21 + N 1) 7 a D) (zNN N 1) S (frow (fset G 2 0 md) (21 + N 1) fe) σ0 ∧ rK g (zad ad (21 + N 1) 7 a D) (zNN N 1) ∧ (∀ t1, t1 ≤ a → (N 1 = 0 → t1 ≤ D) → rGrow ad (zad ad (21 + N 1) 7 a D) N (zNN N 1) t1) := by
  have n0 : zNN N 1 1 = N 1 + 1 := if_pos rfl
  have n1 : zNN N 1 0 = N 0 := if_neg (by decide)
  have n3 : zNN N 1 2 = N 2 := if_neg (by decide)
  have n4 : zNN N 1 3 = N 3 := if_neg (by decide)
  have n5 : zNN N 1 4 = N 4 := if_neg (by decide)
  have eD : zad ad (21 + N 1) 7 a D 7 = D := by unfold zad; rw [if_neg (by omega), if_pos rfl]
  have ea : zad ad (21 + N 1) 7 a D (21 + N 1) = a := if_pos rfl
  have eo : ∀ q, q ≠ 21 + N 1 → q ≠ 7 → zad ad (21 + N 1) 7 a D q = ad q := fun q h1 h2 => by unfold zad; rw [if_neg h1, if_neg h2]
  have lo : ∀ k, rLive (zNN N 1) k = true → k ≠ 7 → k ≠ 21 + N 1 → rLive N k = true := fun k hk k1 k2 => by
    have h := of_decide_eq_true hk
    rw [n0, n1, n3, n4, n5] at h
    rcases h with h | h | h | h | h | h | h | h | h | h | h | h
    · exact rlv (Or.inl h)
    · exact rlv (Or.inr (Or.inl h))
    · exact rlv (Or.inr (Or.inr (Or.inl h)))
    · exact absurd h.1 k1
    · exact rlv (Or.inr (Or.inr (Or.inr (Or.inr (Or.inl h)))))
    · exact rlv (Or.inr (Or.inr (Or.inr (Or.inr (Or.inr (Or.inl h))))))
    · exact rlv (Or.inr (Or.inr (Or.inr (Or.inr (Or.inr (Or.inr (Or.inl h)))))))
    · exact rlv (Or.inr (Or.inr (Or.inr (Or.inr (Or.inr (Or.inr (Or.inr (Or.inl h))))))))
    · exact rlv (Or.inr (Or.inr (Or.inr (Or.inr (Or.inr (Or.inr (Or.inr (Or.inr (Or.inl ⟨h.1, h.2.1, by omega⟩)))))))))
    · exact rlv (Or.inr (Or.inr (Or.inr (Or.inr (Or.inr (Or.inr (Or.inr (Or.inr (Or.inr (Or.inl h))))))))))
    · exact rlv (Or.inr (Or.inr (Or.inr (Or.inr (Or.inr (Or.inr (Or.inr (Or.inr (Or.inr (Or.inr (Or.inl h)))))))))))
    · exact rlv (Or.inr (Or.inr (Or.inr (Or.inr (Or.inr (Or.inr (Or.inr (Or.inr (Or.inr (Or.inr (Or.inr h)))))))))))
  have ln : ∀ k, rLive N k = true → rLive (zNN N 1) k = true := fun k hk => by
    have h := of_decide_eq_true hk
    refine rlv ?_
    rw [n0, n1, n3, n4, n5]
    rcases h with h | h | h | h | h | h | h | h | h | h | h | h
    · exact (Or.inl h)
    · exact (Or.inr (Or.inl h))
    · exact (Or.inr (Or.inr (Or.inl h)))
    · exact (Or.inr (Or.inr (Or.inr (Or.inl ⟨h.1, by omega⟩))))
    · exact (Or.inr (Or.inr (Or.inr (Or.inr (Or.inl h)))))
    · exact (Or.inr (Or.inr (Or.inr (Or.inr (Or.inr (Or.inl h))))))
    · exact (Or.inr (Or.inr (Or.inr (Or.inr (Or.inr (Or.inr (Or.inl h)))))))
    · exact (Or.inr (Or.inr (Or.inr (Or.inr (Or.inr (Or.inr (Or.inr (Or.inl h))))))))
    · exact (Or.inr (Or.inr (Or.inr (Or.inr (Or.inr (Or.inr (Or.inr (Or.inr (Or.inl ⟨h.1, h.2.1, by omega⟩)))))))))
    · exact (Or.inr (Or.inr (Or.inr (Or.inr (Or.inr (Or.inr (Or.inr (Or.inr (Or.inr (Or.inl h))))))))))
    · exact (Or.inr (Or.inr (Or.inr (Or.inr (Or.inr (Or.inr (Or.inr (Or.inr (Or.inr (Or.inr (Or.inl h)))))))))))
    · exact (Or.inr (Or.inr (Or.inr (Or.inr (Or.inr (Or.inr (Or.inr (Or.inr (Or.inr (Or.inr (Or.inr h)))))))))))
  have lp : rLive (zNN N 1) (21 + N 1) = true := rlv (by rw [n0, n1, n3, n4, n5]; omega)
  have lD : rLive (zNN N 1) 7 = true := rlv (by rw [n0, n1, n3, n4, n5]; omega)
  have hl : rLive N 2 = true := rlv (by omega)
  have hDo : ∀ k, rLive N k = true → k ≠ 7 → ad k ≠ D := fun k hk k1 e => by
    rcases hD with ⟨-, q, -⟩ | ⟨q, q2⟩
    · exact q k hk e
    · exact k1 (hK.1 k 7 hk (rlv (by omega)) (e.trans q2))
  have haD : a ≠ D := by
    rcases hD with ⟨-, -, -, q⟩ | ⟨q, q2⟩
    · exact q
    · rw [q2]; exact fun e => ha 7 (rlv (by omega)) e.symm
  have gD : g.2.1.size ≤ D := by
    rcases hD with ⟨-, -, q, -⟩ | ⟨q, q2⟩
    · exact q
    · rw [q2]; exact hK.2 7 (rlv (by omega)) (by decide)
  have hK' : rK g (zad ad (21 + N 1) 7 a D) (zNN N 1) := by
    refine ⟨fun j k hj hk e => ?_, fun k hk h43 => ?_⟩
    · by_cases j1 : j = 21 + N 1
      · by_cases k1 : k = 21 + N 1
        · omega
        · exfalso
          rw [j1, ea] at e
          by_cases k2 : k = 7
          · rw [k2, eD] at e; exact haD e
          · rw [eo k k1 k2] at e; exact ha k (lo k hk k2 k1) e.symm
      · by_cases k1 : k = 21 + N 1
        · exfalso
          rw [k1, ea] at e
          by_cases j2 : j = 7
          · rw [j2, eD] at e; exact haD e.symm
          · rw [eo j j1 j2] at e; exact ha j (lo j hj j2 j1) e
        · by_cases j2 : j = 7
          · by_cases k2 : k = 7
            · omega
            · exfalso
              rw [j2, eD, eo k k1 k2] at e
              exact hDo k (lo k hk k2 k1) k2 e.symm
          · by_cases k2 : k = 7
            · exfalso
              rw [k2, eD, eo j j1 j2] at e
              exact hDo j (lo j hj j2 j1) j2 e
            · rw [eo j j1 j2, eo k k1 k2] at e
              exact hK.1 j k (lo j hj j2 j1) (lo k hk k2 k1) e
    · by_cases k1 : k = 21 + N 1
      · rw [k1, ea]; exact ga
      · by_cases k2 : k = 7
        · rw [k2, eD]; exact gD
        · rw [eo k k1 k2]; exact hK.2 k (lo k hk k2 k1) h43
  refine ⟨rO_eq hK' (fun k hk => ?_) (fun q hq => ?_), hK', fun t1 q1 q2 => ⟨eo 0 (by omega) (by omega), eo 43 (by omega) (by omega), fun k hk => ?_⟩⟩
  · by_cases k1 : k = 21 + N 1
    · rw [k1, ea, h3, frow_eq, rCell_player hN]
    · by_cases k2 : k = 7
      · rw [k2, eD, h2]
        refine congrArg some ?_
        show _ = Sum.inl (g.2.2.2 3, 10, Sum.inr (Sum.inr (Sum.inr (Sum.inr (rEls _ 21 (zNN N 1 1))))))
        rw [n0]
        have : va_up (rEls ad 21 (N 1)) (N 1) (some a) = rEls (zad ad (21 + N 1) 7 a D) 21 (N 1 + 1) := by
          funext q
          unfold rEls
          by_cases e1 : q = N 1
          · subst e1; rw [if_pos (by omega), ea]; simp [va_up]
          · by_cases e2 : q < N 1
            · rw [if_pos (by omega), eo (21 + q) (by omega) (by omega)]; simp [va_up, e1, e2]
            · rw [if_neg (by omega)]; simp [va_up, e1, e2]
        rw [this]
      · rw [eo k k1 k2]
        by_cases k3 : k = 2
        · rw [k3, h1, frow_ne (by omega)]
          refine congrArg some ?_
          show _ = (Sum.inr (3, [Value.int (fset G 2 0 md 2 0), Value.ref (rDat _ (zNN N 1) 1), Value.int (nI (zNN N 1 1))]) : va_E)
          rw [fset_eq, n0]
          unfold rDat
          rw [if_neg (by rw [n0]; omega), eD]
        · have hk0 := lo k hk k2 k1
          rw [h4 (ad k) (fun e => k3 (hK.1 k 2 hk0 hl e)) (hDo k hk0 k2) (ha k hk0), rO_at hK hk0, frow_ne k1, fset_other k3]
          refine congrArg some (Eq.symm (rCell_congr2 (fun _ j hj => eo j (by omega) (by omega))
            (fun _ => ⟨n1, by unfold rDat; rw [n1, eo 43 (by omega) (by omega), eo 6 (by omega) (by omega)]⟩) (fun _ => ⟨n1, fun q hq => eo (14 + q) (by omega) (by omega)⟩) (fun e => absurd e k3) (fun e => absurd e k2) (fun _ => ⟨n3, by unfold rDat; rw [n3, eo 43 (by omega) (by omega), eo 8 (by omega) (by omega)]⟩) (fun _ => ⟨n3, fun q hq => eo (26 + q) (by omega) (by omega)⟩) (fun _ => ⟨n4, by unfold rDat; rw [n4, eo 43 (by omega) (by omega), eo 9 (by omega) (by omega)]⟩) (fun _ => ⟨n4, fun q hq => eo (32 + q) (by omega) (by omega)⟩) (fun _ => ⟨n5, by unfold rDat; rw [n5, eo 43 (by omega) (by omega), eo 10 (by omega) (by omega)]⟩) (fun _ => ⟨n5, fun q hq => eo (38 + q) (by omega) (by omega)⟩)))
  · have q1 : q ≠ a := fun e => hq _ lp (ea.trans e.symm)
    have q2 : q ≠ D := fun e => hq _ lD (eD.trans e.symm)
    have q3 : q ≠ ad 2 := fun e => hq 2 (ln 2 hl) ((eo 2 (by omega) (by omega)).trans e.symm)
    rw [h4 q q3 q2 q1]
    refine rO_out fun k hk e => ?_
    by_cases k2 : k = 7
    · rcases hD with ⟨z, -⟩ | ⟨-, z⟩
      · have := of_decide_eq_true hk; omega
      · exact q2 (by rw [z, ← e, k2])
    · exact hq k (ln k hk) ((eo k (by have := of_decide_eq_true hk; omega) k2).trans e)
  · by_cases k1 : k = 21 + N 1
    · exact Or.inr (by rw [k1, ea]; exact q1)
    · by_cases k2 : k = 7
      · rcases hD with ⟨z, -⟩ | ⟨z, z2⟩
        · exact Or.inr (by rw [k2, eD]; exact q2 z)
        · exact Or.inl ⟨7, rlv (by omega), by rw [k2, eD, z2]⟩
      · exact Or.inl ⟨k, lo k hk k2 k1, eo k k1 k2⟩
set_option maxHeartbeats 400000 in
theorem r_ext2 {g : zG} {ad N : Nat → Nat} {S : Int64} {G : Nat → Nat → Int32} {σ0 f : Nat → Option va_E} {a D : Nat} {md : Int32} {fe : Nat → Int32} (hK : rK g ad N) (hb : N 0 ≤ 7 ∧ N 1 ≤ 5 ∧ N 2 ≤ 6 ∧ N 3 ≤ 6 ∧ N 4 ≤ 5) (hN : N 2 < 6) (ha : ∀ k, rLive N k = true → ad k ≠ a) (ga : g.2.1.size ≤ a) (hD : (N 2 = 0 ∧ (∀ k, rLive N k = true → ad k ≠ D) ∧ g.2.1.size ≤ D ∧ a ≠ D) ∨ (0 < N 2 ∧ D = ad 8))
  (h1 : f (ad 3) = some (.inr (3, [.int md, .ref D, .int (nI (N 2 + 1))]))) (h2 : f D = some (.inl (g.2.2.2 3, 10, .inr (.inr (.inr (.inr (va_up (rEls ad 26 (N 2)) (N 2) (some a))))))))
  (h3 : f a = some (.inr (14, [.int (fe 0), .int (fe 1)]))) (h4 : ∀ q, q ≠ ad 3 → q ≠ D → q ≠ a → f q = rO g ad N S G σ0 q) :
  f = rO g (zad ad (26 + N 2) 8 a D) (zNN N 2) S (frow (fset G 3 0 md) (26 + N 2) fe) σ0 ∧ rK g (zad ad (26 + N 2) 8 a D) (zNN N 2) ∧ (∀ t1, t1 ≤ a → (N 2 = 0 → t1 ≤ D) → rGrow ad (zad ad (26 + N 2) 8 a D) N (zNN N 2) t1) := by
  have n0 : zNN N 2 2 = N 2 + 1 := if_pos rfl
  have n1 : zNN N 2 0 = N 0 := if_neg (by decide)
  have n2 : zNN N 2 1 = N 1 := if_neg (by decide)
  have n4 : zNN N 2 3 = N 3 := if_neg (by decide)
  have n5 : zNN N 2 4 = N 4 := if_neg (by decide)
  have eD : zad ad (26 + N 2) 8 a D 8 = D := by unfold zad; rw [if_neg (by omega), if_pos rfl]
  have ea : zad ad (26 + N 2) 8 a D (26 + N 2) = a := if_pos rfl
  have eo : ∀ q, q ≠ 26 + N 2 → q ≠ 8 → zad ad (26 + N 2) 8 a D q = ad q := fun q h1 h2 => by unfold zad; rw [if_neg h1, if_neg h2]
  have lo : ∀ k, rLive (zNN N 2) k = true → k ≠ 8 → k ≠ 26 + N 2 → rLive N k = true := fun k hk k1 k2 => by
    have h := of_decide_eq_true hk
    rw [n0, n1, n2, n4, n5] at h
    rcases h with h | h | h | h | h | h | h | h | h | h | h | h
    · exact rlv (Or.inl h)
    · exact rlv (Or.inr (Or.inl h))
    · exact rlv (Or.inr (Or.inr (Or.inl h)))
    · exact rlv (Or.inr (Or.inr (Or.inr (Or.inl h))))
    · exact absurd h.1 k1
    · exact rlv (Or.inr (Or.inr (Or.inr (Or.inr (Or.inr (Or.inl h))))))
    · exact rlv (Or.inr (Or.inr (Or.inr (Or.inr (Or.inr (Or.inr (Or.inl h)))))))
    · exact rlv (Or.inr (Or.inr (Or.inr (Or.inr (Or.inr (Or.inr (Or.inr (Or.inl h))))))))
    · exact rlv (Or.inr (Or.inr (Or.inr (Or.inr (Or.inr (Or.inr (Or.inr (Or.inr (Or.inl h)))))))))
    · exact rlv (Or.inr (Or.inr (Or.inr (Or.inr (Or.inr (Or.inr (Or.inr (Or.inr (Or.inr (Or.inl ⟨h.1, h.2.1, by omega⟩))))))))))
    · exact rlv (Or.inr (Or.inr (Or.inr (Or.inr (Or.inr (Or.inr (Or.inr (Or.inr (Or.inr (Or.inr (Or.inl h)))))))))))
    · exact rlv (Or.inr (Or.inr (Or.inr (Or.inr (Or.inr (Or.inr (Or.inr (Or.inr (Or.inr (Or.inr (Or.inr h)))))))))))
  have ln : ∀ k, rLive N k = true → rLive (zNN N 2) k = true := fun k hk => by
    have h := of_decide_eq_true hk
    refine rlv ?_
    rw [n0, n1, n2, n4, n5]
    rcases h with h | h | h | h | h | h | h | h | h | h | h | h
    · exact (Or.inl h)
    · exact (Or.inr (Or.inl h))
    · exact (Or.inr (Or.inr (Or.inl h)))
    · exact (Or.inr (Or.inr (Or.inr (Or.inl h))))
    · exact (Or.inr (Or.inr (Or.inr (Or.inr (Or.inl ⟨h.1, by omega⟩)))))
    · exact (Or.inr (Or.inr (Or.inr (Or.inr (Or.inr (Or.inl h))))))
    · exact (Or.inr (Or.inr (Or.inr (Or.inr (Or.inr (Or.inr (Or.inl h)))))))
    · exact (Or.inr (Or.inr (Or.inr (Or.inr (Or.inr (Or.inr (Or.inr (Or.inl h))))))))
    · exact (Or.inr (Or.inr (Or.inr (Or.inr (Or.inr (Or.inr (Or.inr (Or.inr (Or.inl h)))))))))
    · exact (Or.inr (Or.inr (Or.inr (Or.inr (Or.inr (Or.inr (Or.inr (Or.inr (Or.inr (Or.inl ⟨h.1, h.2.1, by omega⟩))))))))))
    · exact (Or.inr (Or.inr (Or.inr (Or.inr (Or.inr (Or.inr (Or.inr (Or.inr (Or.inr (Or.inr (Or.inl h)))))))))))
    · exact (Or.inr (Or.inr (Or.inr (Or.inr (Or.inr (Or.inr (Or.inr (Or.inr (Or.inr (Or.inr (Or.inr h)))))))))))
  have lp : rLive (zNN N 2) (26 + N 2) = true := rlv (by rw [n0, n1, n2, n4, n5]; omega)
  have lD : rLive (zNN N 2) 8 = true := rlv (by rw [n0, n1, n2, n4, n5]; omega)
  have hl : rLive N 3 = true := rlv (by omega)
  have hDo : ∀ k, rLive N k = true → k ≠ 8 → ad k ≠ D := fun k hk k1 e => by
    rcases hD with ⟨-, q, -⟩ | ⟨q, q2⟩
    · exact q k hk e
    · exact k1 (hK.1 k 8 hk (rlv (by omega)) (e.trans q2))
  have haD : a ≠ D := by
    rcases hD with ⟨-, -, -, q⟩ | ⟨q, q2⟩
    · exact q
    · rw [q2]; exact fun e => ha 8 (rlv (by omega)) e.symm
  have gD : g.2.1.size ≤ D := by
    rcases hD with ⟨-, -, q, -⟩ | ⟨q, q2⟩
    · exact q
    · rw [q2]; exact hK.2 8 (rlv (by omega)) (by decide)
  have hK' : rK g (zad ad (26 + N 2) 8 a D) (zNN N 2) := by
    refine ⟨fun j k hj hk e => ?_, fun k hk h43 => ?_⟩
    · by_cases j1 : j = 26 + N 2
      · by_cases k1 : k = 26 + N 2
        · omega
        · exfalso
          rw [j1, ea] at e
          by_cases k2 : k = 8
          · rw [k2, eD] at e; exact haD e
          · rw [eo k k1 k2] at e; exact ha k (lo k hk k2 k1) e.symm
      · by_cases k1 : k = 26 + N 2
        · exfalso
          rw [k1, ea] at e
          by_cases j2 : j = 8
          · rw [j2, eD] at e; exact haD e.symm
          · rw [eo j j1 j2] at e; exact ha j (lo j hj j2 j1) e
        · by_cases j2 : j = 8
          · by_cases k2 : k = 8
            · omega
            · exfalso
              rw [j2, eD, eo k k1 k2] at e
              exact hDo k (lo k hk k2 k1) k2 e.symm
          · by_cases k2 : k = 8
            · exfalso
              rw [k2, eD, eo j j1 j2] at e
              exact hDo j (lo j hj j2 j1) j2 e
            · rw [eo j j1 j2, eo k k1 k2] at e
              exact hK.1 j k (lo j hj j2 j1) (lo k hk k2 k1) e
    · by_cases k1 : k = 26 + N 2
      · rw [k1, ea]; exact ga
      · by_cases k2 : k = 8
        · rw [k2, eD]; exact gD
        · rw [eo k k1 k2]; exact hK.2 k (lo k hk k2 k1) h43
  refine ⟨rO_eq hK' (fun k hk => ?_) (fun q hq => ?_), hK', fun t1 q1 q2 => ⟨eo 0 (by omega) (by omega), eo 43 (by omega) (by omega), fun k hk => ?_⟩⟩
  · by_cases k1 : k = 26 + N 2
    · rw [k1, ea, h3, frow_eq, rCell_scene hN]
    · by_cases k2 : k = 8
      · rw [k2, eD, h2]
        refine congrArg some ?_
        show _ = Sum.inl (g.2.2.2 3, 10, Sum.inr (Sum.inr (Sum.inr (Sum.inr (rEls _ 26 (zNN N 2 2))))))
        rw [n0]
        have : va_up (rEls ad 26 (N 2)) (N 2) (some a) = rEls (zad ad (26 + N 2) 8 a D) 26 (N 2 + 1) := by
          funext q
          unfold rEls
          by_cases e1 : q = N 2
          · subst e1; rw [if_pos (by omega), ea]; simp [va_up]
          · by_cases e2 : q < N 2
            · rw [if_pos (by omega), eo (26 + q) (by omega) (by omega)]; simp [va_up, e1, e2]
            · rw [if_neg (by omega)]; simp [va_up, e1, e2]
        rw [this]
      · rw [eo k k1 k2]
        by_cases k3 : k = 3
        · rw [k3, h1, frow_ne (by omega)]
          refine congrArg some ?_
          show _ = (Sum.inr (3, [Value.int (fset G 3 0 md 3 0), Value.ref (rDat _ (zNN N 2) 2), Value.int (nI (zNN N 2 2))]) : va_E)
          rw [fset_eq, n0]
          unfold rDat
          rw [if_neg (by rw [n0]; omega), eD]
        · have hk0 := lo k hk k2 k1
          rw [h4 (ad k) (fun e => k3 (hK.1 k 3 hk0 hl e)) (hDo k hk0 k2) (ha k hk0), rO_at hK hk0, frow_ne k1, fset_other k3]
          refine congrArg some (Eq.symm (rCell_congr2 (fun _ j hj => eo j (by omega) (by omega))
            (fun _ => ⟨n1, by unfold rDat; rw [n1, eo 43 (by omega) (by omega), eo 6 (by omega) (by omega)]⟩) (fun _ => ⟨n1, fun q hq => eo (14 + q) (by omega) (by omega)⟩) (fun _ => ⟨n2, by unfold rDat; rw [n2, eo 43 (by omega) (by omega), eo 7 (by omega) (by omega)]⟩) (fun _ => ⟨n2, fun q hq => eo (21 + q) (by omega) (by omega)⟩) (fun e => absurd e k3) (fun e => absurd e k2) (fun _ => ⟨n4, by unfold rDat; rw [n4, eo 43 (by omega) (by omega), eo 9 (by omega) (by omega)]⟩) (fun _ => ⟨n4, fun q hq => eo (32 + q) (by omega) (by omega)⟩) (fun _ => ⟨n5, by unfold rDat; rw [n5, eo 43 (by omega) (by omega), eo 10 (by omega) (by omega)]⟩) (fun _ => ⟨n5, fun q hq => eo (38 + q) (by omega) (by omega)⟩)))
  · have q1 : q ≠ a := fun e => hq _ lp (ea.trans e.symm)
    have q2 : q ≠ D := fun e => hq _ lD (eD.trans e.symm)
    have q3 : q ≠ ad 3 := fun e => hq 3 (ln 3 hl) ((eo 3 (by omega) (by omega)).trans e.symm)
    rw [h4 q q3 q2 q1]
    refine rO_out fun k hk e => ?_
    by_cases k2 : k = 8
    · rcases hD with ⟨z, -⟩ | ⟨-, z⟩
      · have := of_decide_eq_true hk; omega
      · exact q2 (by rw [z, ← e, k2])
    · exact hq k (ln k hk) ((eo k (by have := of_decide_eq_true hk; omega) k2).trans e)
  · by_cases k1 : k = 26 + N 2
    · exact Or.inr (by rw [k1, ea]; exact q1)
    · by_cases k2 : k = 8
      · rcases hD with ⟨z, -⟩ | ⟨z, z2⟩
        · exact Or.inr (by rw [k2, eD]; exact q2 z)
        · exact Or.inl ⟨8, rlv (by omega), by rw [k2, eD, z2]⟩
      · exact Or.inl ⟨k, lo k hk k2 k1, eo k k1 k2⟩
set_option maxHeartbeats 400000 in
theorem r_ext3 {g : zG} {ad N : Nat → Nat} {S : Int64} {G : Nat → Nat → Int32} {σ0 f : Nat → Option va_E} {a D : Nat} {md : Int32} {fe : Nat → Int32} (hK : rK g ad N) (hb : N 0 ≤ 7 ∧ N 1 ≤ 5 ∧ N 2 ≤ 6 ∧ N 3 ≤ 6 ∧ N 4 ≤ 5) (hN : N 3 < 6) (ha : ∀ k, rLive N k = true → ad k ≠ a) (ga : g.2.1.size ≤ a) (hD : (N 3 = 0 ∧ (∀ k, rLive N k = true → ad k ≠ D) ∧ g.2.1.size ≤ D ∧ a ≠ D) ∨ (0 < N 3 ∧ D = ad 9))
  (h1 : f (ad 4) = some (.inr (3, [.int md, .ref D, .int (nI (N 3 + 1))]))) (h2 : f D = some (.inl (g.2.2.2 3, 10, .inr (.inr (.inr (.inr (va_up (rEls ad 32 (N 3)) (N 3) (some a))))))))
  (h3 : f a = some (.inr (11, [.int (fe 0), .int (fe 1), .int (fe 2), .int (fe 3)]))) (h4 : ∀ q, q ≠ ad 4 → q ≠ D → q ≠ a → f q = rO g ad N S G σ0 q) :
  f = rO g (zad ad (32 + N 3) 9 a D) (zNN N 3) S (frow (fset G 4 0 md) (32 + N 3) fe) σ0 ∧ rK g (zad ad (32 + N 3) 9 a D) (zNN N 3) ∧ (∀ t1, t1 ≤ a → (N 3 = 0 → t1 ≤ D) → rGrow ad (zad ad (32 + N 3) 9 a D) N (zNN N 3) t1) := by
  have n0 : zNN N 3 3 = N 3 + 1 := if_pos rfl
  have n1 : zNN N 3 0 = N 0 := if_neg (by decide)
  have n2 : zNN N 3 1 = N 1 := if_neg (by decide)
  have n3 : zNN N 3 2 = N 2 := if_neg (by decide)
  have n5 : zNN N 3 4 = N 4 := if_neg (by decide)
  have eD : zad ad (32 + N 3) 9 a D 9 = D := by unfold zad; rw [if_neg (by omega), if_pos rfl]
  have ea : zad ad (32 + N 3) 9 a D (32 + N 3) = a := if_pos rfl
  have eo : ∀ q, q ≠ 32 + N 3 → q ≠ 9 → zad ad (32 + N 3) 9 a D q = ad q := fun q h1 h2 => by unfold zad; rw [if_neg h1, if_neg h2]
  have lo : ∀ k, rLive (zNN N 3) k = true → k ≠ 9 → k ≠ 32 + N 3 → rLive N k = true := fun k hk k1 k2 => by
    have h := of_decide_eq_true hk
    rw [n0, n1, n2, n3, n5] at h
    rcases h with h | h | h | h | h | h | h | h | h | h | h | h
    · exact rlv (Or.inl h)
    · exact rlv (Or.inr (Or.inl h))
    · exact rlv (Or.inr (Or.inr (Or.inl h)))
    · exact rlv (Or.inr (Or.inr (Or.inr (Or.inl h))))
    · exact rlv (Or.inr (Or.inr (Or.inr (Or.inr (Or.inl h)))))
    · exact absurd h.1 k1
    · exact rlv (Or.inr (Or.inr (Or.inr (Or.inr (Or.inr (Or.inr (Or.inl h)))))))
    · exact rlv (Or.inr (Or.inr (Or.inr (Or.inr (Or.inr (Or.inr (Or.inr (Or.inl h))))))))
    · exact rlv (Or.inr (Or.inr (Or.inr (Or.inr (Or.inr (Or.inr (Or.inr (Or.inr (Or.inl h)))))))))
    · exact rlv (Or.inr (Or.inr (Or.inr (Or.inr (Or.inr (Or.inr (Or.inr (Or.inr (Or.inr (Or.inl h))))))))))
    · exact rlv (Or.inr (Or.inr (Or.inr (Or.inr (Or.inr (Or.inr (Or.inr (Or.inr (Or.inr (Or.inr (Or.inl ⟨h.1, h.2.1, by omega⟩)))))))))))
    · exact rlv (Or.inr (Or.inr (Or.inr (Or.inr (Or.inr (Or.inr (Or.inr (Or.inr (Or.inr (Or.inr (Or.inr h)))))))))))
  have ln : ∀ k, rLive N k = true → rLive (zNN N 3) k = true := fun k hk => by
    have h := of_decide_eq_true hk
    refine rlv ?_
    rw [n0, n1, n2, n3, n5]
    rcases h with h | h | h | h | h | h | h | h | h | h | h | h
    · exact (Or.inl h)
    · exact (Or.inr (Or.inl h))
    · exact (Or.inr (Or.inr (Or.inl h)))
    · exact (Or.inr (Or.inr (Or.inr (Or.inl h))))
    · exact (Or.inr (Or.inr (Or.inr (Or.inr (Or.inl h)))))
    · exact (Or.inr (Or.inr (Or.inr (Or.inr (Or.inr (Or.inl ⟨h.1, by omega⟩))))))
    · exact (Or.inr (Or.inr (Or.inr (Or.inr (Or.inr (Or.inr (Or.inl h)))))))
    · exact (Or.inr (Or.inr (Or.inr (Or.inr (Or.inr (Or.inr (Or.inr (Or.inl h))))))))
    · exact (Or.inr (Or.inr (Or.inr (Or.inr (Or.inr (Or.inr (Or.inr (Or.inr (Or.inl h)))))))))
    · exact (Or.inr (Or.inr (Or.inr (Or.inr (Or.inr (Or.inr (Or.inr (Or.inr (Or.inr (Or.inl h))))))))))
    · exact (Or.inr (Or.inr (Or.inr (Or.inr (Or.inr (Or.inr (Or.inr (Or.inr (Or.inr (Or.inr (Or.inl ⟨h.1, h.2.1, by omega⟩)))))))))))
    · exact (Or.inr (Or.inr (Or.inr (Or.inr (Or.inr (Or.inr (Or.inr (Or.inr (Or.inr (Or.inr (Or.inr h)))))))))))
  have lp : rLive (zNN N 3) (32 + N 3) = true := rlv (by rw [n0, n1, n2, n3, n5]; omega)
  have lD : rLive (zNN N 3) 9 = true := rlv (by rw [n0, n1, n2, n3, n5]; omega)
  have hl : rLive N 4 = true := rlv (by omega)
  have hDo : ∀ k, rLive N k = true → k ≠ 9 → ad k ≠ D := fun k hk k1 e => by
    rcases hD with ⟨-, q, -⟩ | ⟨q, q2⟩
    · exact q k hk e
    · exact k1 (hK.1 k 9 hk (rlv (by omega)) (e.trans q2))
  have haD : a ≠ D := by
    rcases hD with ⟨-, -, -, q⟩ | ⟨q, q2⟩
    · exact q
    · rw [q2]; exact fun e => ha 9 (rlv (by omega)) e.symm
  have gD : g.2.1.size ≤ D := by
    rcases hD with ⟨-, -, q, -⟩ | ⟨q, q2⟩
    · exact q
    · rw [q2]; exact hK.2 9 (rlv (by omega)) (by decide)
  have hK' : rK g (zad ad (32 + N 3) 9 a D) (zNN N 3) := by
    refine ⟨fun j k hj hk e => ?_, fun k hk h43 => ?_⟩
    · by_cases j1 : j = 32 + N 3
      · by_cases k1 : k = 32 + N 3
        · omega
        · exfalso
          rw [j1, ea] at e
          by_cases k2 : k = 9
          · rw [k2, eD] at e; exact haD e
          · rw [eo k k1 k2] at e; exact ha k (lo k hk k2 k1) e.symm
      · by_cases k1 : k = 32 + N 3
        · exfalso
          rw [k1, ea] at e
          by_cases j2 : j = 9
          · rw [j2, eD] at e; exact haD e.symm
          · rw [eo j j1 j2] at e; exact ha j (lo j hj j2 j1) e
        · by_cases j2 : j = 9
          · by_cases k2 : k = 9
            · omega
            · exfalso
              rw [j2, eD, eo k k1 k2] at e
              exact hDo k (lo k hk k2 k1) k2 e.symm
          · by_cases k2 : k = 9
            · exfalso
              rw [k2, eD, eo j j1 j2] at e
              exact hDo j (lo j hj j2 j1) j2 e
            · rw [eo j j1 j2, eo k k1 k2] at e
              exact hK.1 j k (lo j hj j2 j1) (lo k hk k2 k1) e
    · by_cases k1 : k = 32 + N 3
      · rw [k1, ea]; exact ga
      · by_cases k2 : k = 9
        · rw [k2, eD]; exact gD
        · rw [eo k k1 k2]; exact hK.2 k (lo k hk k2 k1) h43
  refine ⟨rO_eq hK' (fun k hk => ?_) (fun q hq => ?_), hK', fun t1 q1 q2 => ⟨eo 0 (by omega) (by omega), eo 43 (by omega) (by omega), fun k hk => ?_⟩⟩
  · by_cases k1 : k = 32 + N 3
    · rw [k1, ea, h3, frow_eq, rCell_coat hN]
    · by_cases k2 : k = 9
      · rw [k2, eD, h2]
        refine congrArg some ?_
        show _ = Sum.inl (g.2.2.2 3, 10, Sum.inr (Sum.inr (Sum.inr (Sum.inr (rEls _ 32 (zNN N 3 3))))))
        rw [n0]
        have : va_up (rEls ad 32 (N 3)) (N 3) (some a) = rEls (zad ad (32 + N 3) 9 a D) 32 (N 3 + 1) := by
          funext q
          unfold rEls
          by_cases e1 : q = N 3
          · subst e1; rw [if_pos (by omega), ea]; simp [va_up]
          · by_cases e2 : q < N 3
            · rw [if_pos (by omega), eo (32 + q) (by omega) (by omega)]; simp [va_up, e1, e2]
            · rw [if_neg (by omega)]; simp [va_up, e1, e2]
        rw [this]
      · rw [eo k k1 k2]
        by_cases k3 : k = 4
        · rw [k3, h1, frow_ne (by omega)]
          refine congrArg some ?_
          show _ = (Sum.inr (3, [Value.int (fset G 4 0 md 4 0), Value.ref (rDat _ (zNN N 3) 3), Value.int (nI (zNN N 3 3))]) : va_E)
          rw [fset_eq, n0]
          unfold rDat
          rw [if_neg (by rw [n0]; omega), eD]
        · have hk0 := lo k hk k2 k1
          rw [h4 (ad k) (fun e => k3 (hK.1 k 4 hk0 hl e)) (hDo k hk0 k2) (ha k hk0), rO_at hK hk0, frow_ne k1, fset_other k3]
          refine congrArg some (Eq.symm (rCell_congr2 (fun _ j hj => eo j (by omega) (by omega))
            (fun _ => ⟨n1, by unfold rDat; rw [n1, eo 43 (by omega) (by omega), eo 6 (by omega) (by omega)]⟩) (fun _ => ⟨n1, fun q hq => eo (14 + q) (by omega) (by omega)⟩) (fun _ => ⟨n2, by unfold rDat; rw [n2, eo 43 (by omega) (by omega), eo 7 (by omega) (by omega)]⟩) (fun _ => ⟨n2, fun q hq => eo (21 + q) (by omega) (by omega)⟩) (fun _ => ⟨n3, by unfold rDat; rw [n3, eo 43 (by omega) (by omega), eo 8 (by omega) (by omega)]⟩) (fun _ => ⟨n3, fun q hq => eo (26 + q) (by omega) (by omega)⟩) (fun e => absurd e k3) (fun e => absurd e k2) (fun _ => ⟨n5, by unfold rDat; rw [n5, eo 43 (by omega) (by omega), eo 10 (by omega) (by omega)]⟩) (fun _ => ⟨n5, fun q hq => eo (38 + q) (by omega) (by omega)⟩)))
  · have q1 : q ≠ a := fun e => hq _ lp (ea.trans e.symm)
    have q2 : q ≠ D := fun e => hq _ lD (eD.trans e.symm)
    have q3 : q ≠ ad 4 := fun e => hq 4 (ln 4 hl) ((eo 4 (by omega) (by omega)).trans e.symm)
    rw [h4 q q3 q2 q1]
    refine rO_out fun k hk e => ?_
    by_cases k2 : k = 9
    · rcases hD with ⟨z, -⟩ | ⟨-, z⟩
      · have := of_decide_eq_true hk; omega
      · exact q2 (by rw [z, ← e, k2])
    · exact hq k (ln k hk) ((eo k (by have := of_decide_eq_true hk; omega) k2).trans e)
  · by_cases k1 : k = 32 + N 3
    · exact Or.inr (by rw [k1, ea]; exact q1)
    · by_cases k2 : k = 9
      · rcases hD with ⟨z, -⟩ | ⟨z, z2⟩
        · exact Or.inr (by rw [k2, eD]; exact q2 z)
        · exact Or.inl ⟨9, rlv (by omega), by rw [k2, eD, z2]⟩
      · exact Or.inl ⟨k, lo k hk k2 k1, eo k k1 k2⟩
set_option maxHeartbeats 400000 in
theorem r_ext4 {g : zG} {ad N : Nat → Nat} {S : Int64} {G : Nat → Nat → Int32} {σ0 f : Nat → Option va_E} {a D : Nat} {md : Int32} {fe : Nat → Int32} (hK : rK g ad N) (hb : N 0 ≤ 7 ∧ N 1 ≤ 5 ∧ N 2 ≤ 6 ∧ N 3 ≤ 6 ∧ N 4 ≤ 5) (hN : N 4 < 5) (ha : ∀ k, rLive N k = true → ad k ≠ a) (ga : g.2.1.size ≤ a) (hD : (N 4 = 0 ∧ (∀ k, rLive N k = true → ad k ≠ D) ∧ g.2.1.size ≤ D ∧ a ≠ D) ∨ (0 < N 4 ∧ D = ad 10))
  (h1 : f (ad 5) = some (.inr (3, [.int md, .ref D, .int (nI (N 4 + 1))]))) (h2 : f D = some (.inl (g.2.2.2 3, 10, .inr (.inr (.inr (.inr (va_up (rEls ad 38 (N 4)) (N 4) (some a))))))))
  (h3 : f a = some (.inr (15, [.int (fe 0), .int (fe 1), .int (fe 2)]))) (h4 : ∀ q, q ≠ ad 5 → q ≠ D → q ≠ a → f q = rO g ad N S G σ0 q) :
  f = rO g (zad ad (38 + N 4) 10 a D) (zNN N 4) S (frow (fset G 5 0 md) (38 + N 4) fe) σ0 ∧ rK g (zad ad (38 + N 4) 10 a D) (zNN N 4) ∧ (∀ t1, t1 ≤ a → (N 4 = 0 → t1 ≤ D) → rGrow ad (zad ad (38 + N 4) 10 a D) N (zNN N 4) t1) := by
  have n0 : zNN N 4 4 = N 4 + 1 := if_pos rfl
  have n1 : zNN N 4 0 = N 0 := if_neg (by decide)
  have n2 : zNN N 4 1 = N 1 := if_neg (by decide)
  have n3 : zNN N 4 2 = N 2 := if_neg (by decide)
  have n4 : zNN N 4 3 = N 3 := if_neg (by decide)
  have eD : zad ad (38 + N 4) 10 a D 10 = D := by unfold zad; rw [if_neg (by omega), if_pos rfl]
  have ea : zad ad (38 + N 4) 10 a D (38 + N 4) = a := if_pos rfl
  have eo : ∀ q, q ≠ 38 + N 4 → q ≠ 10 → zad ad (38 + N 4) 10 a D q = ad q := fun q h1 h2 => by unfold zad; rw [if_neg h1, if_neg h2]
  have lo : ∀ k, rLive (zNN N 4) k = true → k ≠ 10 → k ≠ 38 + N 4 → rLive N k = true := fun k hk k1 k2 => by
    have h := of_decide_eq_true hk
    rw [n0, n1, n2, n3, n4] at h
    rcases h with h | h | h | h | h | h | h | h | h | h | h | h
    · exact rlv (Or.inl h)
    · exact rlv (Or.inr (Or.inl h))
    · exact rlv (Or.inr (Or.inr (Or.inl h)))
    · exact rlv (Or.inr (Or.inr (Or.inr (Or.inl h))))
    · exact rlv (Or.inr (Or.inr (Or.inr (Or.inr (Or.inl h)))))
    · exact rlv (Or.inr (Or.inr (Or.inr (Or.inr (Or.inr (Or.inl h))))))
    · exact absurd h.1 k1
    · exact rlv (Or.inr (Or.inr (Or.inr (Or.inr (Or.inr (Or.inr (Or.inr (Or.inl h))))))))
    · exact rlv (Or.inr (Or.inr (Or.inr (Or.inr (Or.inr (Or.inr (Or.inr (Or.inr (Or.inl h)))))))))
    · exact rlv (Or.inr (Or.inr (Or.inr (Or.inr (Or.inr (Or.inr (Or.inr (Or.inr (Or.inr (Or.inl h))))))))))
    · exact rlv (Or.inr (Or.inr (Or.inr (Or.inr (Or.inr (Or.inr (Or.inr (Or.inr (Or.inr (Or.inr (Or.inl h)))))))))))
    · exact rlv (Or.inr (Or.inr (Or.inr (Or.inr (Or.inr (Or.inr (Or.inr (Or.inr (Or.inr (Or.inr (Or.inr ⟨h.1, h.2.1, by omega⟩)))))))))))
  have ln : ∀ k, rLive N k = true → rLive (zNN N 4) k = true := fun k hk => by
    have h := of_decide_eq_true hk
    refine rlv ?_
    rw [n0, n1, n2, n3, n4]
    rcases h with h | h | h | h | h | h | h | h | h | h | h | h
    · exact (Or.inl h)
    · exact (Or.inr (Or.inl h))
    · exact (Or.inr (Or.inr (Or.inl h)))
    · exact (Or.inr (Or.inr (Or.inr (Or.inl h))))
    · exact (Or.inr (Or.inr (Or.inr (Or.inr (Or.inl h)))))
    · exact (Or.inr (Or.inr (Or.inr (Or.inr (Or.inr (Or.inl h))))))
    · exact (Or.inr (Or.inr (Or.inr (Or.inr (Or.inr (Or.inr (Or.inl ⟨h.1, by omega⟩)))))))
    · exact (Or.inr (Or.inr (Or.inr (Or.inr (Or.inr (Or.inr (Or.inr (Or.inl h))))))))
    · exact (Or.inr (Or.inr (Or.inr (Or.inr (Or.inr (Or.inr (Or.inr (Or.inr (Or.inl h)))))))))
    · exact (Or.inr (Or.inr (Or.inr (Or.inr (Or.inr (Or.inr (Or.inr (Or.inr (Or.inr (Or.inl h))))))))))
    · exact (Or.inr (Or.inr (Or.inr (Or.inr (Or.inr (Or.inr (Or.inr (Or.inr (Or.inr (Or.inr (Or.inl h)))))))))))
    · exact (Or.inr (Or.inr (Or.inr (Or.inr (Or.inr (Or.inr (Or.inr (Or.inr (Or.inr (Or.inr (Or.inr ⟨h.1, h.2.1, by omega⟩)))))))))))
  have lp : rLive (zNN N 4) (38 + N 4) = true := rlv (by rw [n0, n1, n2, n3, n4]; omega)
  have lD : rLive (zNN N 4) 10 = true := rlv (by rw [n0, n1, n2, n3, n4]; omega)
  have hl : rLive N 5 = true := rlv (by omega)
  have hDo : ∀ k, rLive N k = true → k ≠ 10 → ad k ≠ D := fun k hk k1 e => by
    rcases hD with ⟨-, q, -⟩ | ⟨q, q2⟩
    · exact q k hk e
    · exact k1 (hK.1 k 10 hk (rlv (by omega)) (e.trans q2))
  have haD : a ≠ D := by
    rcases hD with ⟨-, -, -, q⟩ | ⟨q, q2⟩
    · exact q
    · rw [q2]; exact fun e => ha 10 (rlv (by omega)) e.symm
  have gD : g.2.1.size ≤ D := by
    rcases hD with ⟨-, -, q, -⟩ | ⟨q, q2⟩
    · exact q
    · rw [q2]; exact hK.2 10 (rlv (by omega)) (by decide)
  have hK' : rK g (zad ad (38 + N 4) 10 a D) (zNN N 4) := by
    refine ⟨fun j k hj hk e => ?_, fun k hk h43 => ?_⟩
    · by_cases j1 : j = 38 + N 4
      · by_cases k1 : k = 38 + N 4
        · omega
        · exfalso
          rw [j1, ea] at e
          by_cases k2 : k = 10
          · rw [k2, eD] at e; exact haD e
          · rw [eo k k1 k2] at e; exact ha k (lo k hk k2 k1) e.symm
      · by_cases k1 : k = 38 + N 4
        · exfalso
          rw [k1, ea] at e
          by_cases j2 : j = 10
          · rw [j2, eD] at e; exact haD e.symm
          · rw [eo j j1 j2] at e; exact ha j (lo j hj j2 j1) e
        · by_cases j2 : j = 10
          · by_cases k2 : k = 10
            · omega
            · exfalso
              rw [j2, eD, eo k k1 k2] at e
              exact hDo k (lo k hk k2 k1) k2 e.symm
          · by_cases k2 : k = 10
            · exfalso
              rw [k2, eD, eo j j1 j2] at e
              exact hDo j (lo j hj j2 j1) j2 e
            · rw [eo j j1 j2, eo k k1 k2] at e
              exact hK.1 j k (lo j hj j2 j1) (lo k hk k2 k1) e
    · by_cases k1 : k = 38 + N 4
      · rw [k1, ea]; exact ga
      · by_cases k2 : k = 10
        · rw [k2, eD]; exact gD
        · rw [eo k k1 k2]; exact hK.2 k (lo k hk k2 k1) h43
  refine ⟨rO_eq hK' (fun k hk => ?_) (fun q hq => ?_), hK', fun t1 q1 q2 => ⟨eo 0 (by omega) (by omega), eo 43 (by omega) (by omega), fun k hk => ?_⟩⟩
  · by_cases k1 : k = 38 + N 4
    · rw [k1, ea, h3, frow_eq, rCell_town hN]
    · by_cases k2 : k = 10
      · rw [k2, eD, h2]
        refine congrArg some ?_
        show _ = Sum.inl (g.2.2.2 3, 10, Sum.inr (Sum.inr (Sum.inr (Sum.inr (rEls _ 38 (zNN N 4 4))))))
        rw [n0]
        have : va_up (rEls ad 38 (N 4)) (N 4) (some a) = rEls (zad ad (38 + N 4) 10 a D) 38 (N 4 + 1) := by
          funext q
          unfold rEls
          by_cases e1 : q = N 4
          · subst e1; rw [if_pos (by omega), ea]; simp [va_up]
          · by_cases e2 : q < N 4
            · rw [if_pos (by omega), eo (38 + q) (by omega) (by omega)]; simp [va_up, e1, e2]
            · rw [if_neg (by omega)]; simp [va_up, e1, e2]
        rw [this]
      · rw [eo k k1 k2]
        by_cases k3 : k = 5
        · rw [k3, h1, frow_ne (by omega)]
          refine congrArg some ?_
          show _ = (Sum.inr (3, [Value.int (fset G 5 0 md 5 0), Value.ref (rDat _ (zNN N 4) 4), Value.int (nI (zNN N 4 4))]) : va_E)
          rw [fset_eq, n0]
          unfold rDat
          rw [if_neg (by rw [n0]; omega), eD]
        · have hk0 := lo k hk k2 k1
          rw [h4 (ad k) (fun e => k3 (hK.1 k 5 hk0 hl e)) (hDo k hk0 k2) (ha k hk0), rO_at hK hk0, frow_ne k1, fset_other k3]
          refine congrArg some (Eq.symm (rCell_congr2 (fun _ j hj => eo j (by omega) (by omega))
            (fun _ => ⟨n1, by unfold rDat; rw [n1, eo 43 (by omega) (by omega), eo 6 (by omega) (by omega)]⟩) (fun _ => ⟨n1, fun q hq => eo (14 + q) (by omega) (by omega)⟩) (fun _ => ⟨n2, by unfold rDat; rw [n2, eo 43 (by omega) (by omega), eo 7 (by omega) (by omega)]⟩) (fun _ => ⟨n2, fun q hq => eo (21 + q) (by omega) (by omega)⟩) (fun _ => ⟨n3, by unfold rDat; rw [n3, eo 43 (by omega) (by omega), eo 8 (by omega) (by omega)]⟩) (fun _ => ⟨n3, fun q hq => eo (26 + q) (by omega) (by omega)⟩) (fun _ => ⟨n4, by unfold rDat; rw [n4, eo 43 (by omega) (by omega), eo 9 (by omega) (by omega)]⟩) (fun _ => ⟨n4, fun q hq => eo (32 + q) (by omega) (by omega)⟩) (fun e => absurd e k3) (fun e => absurd e k2)))
  · have q1 : q ≠ a := fun e => hq _ lp (ea.trans e.symm)
    have q2 : q ≠ D := fun e => hq _ lD (eD.trans e.symm)
    have q3 : q ≠ ad 5 := fun e => hq 5 (ln 5 hl) ((eo 5 (by omega) (by omega)).trans e.symm)
    rw [h4 q q3 q2 q1]
    refine rO_out fun k hk e => ?_
    by_cases k2 : k = 10
    · rcases hD with ⟨z, -⟩ | ⟨-, z⟩
      · have := of_decide_eq_true hk; omega
      · exact q2 (by rw [z, ← e, k2])
    · exact hq k (ln k hk) ((eo k (by have := of_decide_eq_true hk; omega) k2).trans e)
  · by_cases k1 : k = 38 + N 4
    · exact Or.inr (by rw [k1, ea]; exact q1)
    · by_cases k2 : k = 10
      · rcases hD with ⟨z, -⟩ | ⟨z, z2⟩
        · exact Or.inr (by rw [k2, eD]; exact q2 z)
        · exact Or.inl ⟨10, rlv (by omega), by rw [k2, eD, z2]⟩
      · exact Or.inl ⟨k, lo k hk k2 k1, eo k k1 k2⟩
