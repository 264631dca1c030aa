/-! ===== the reference's world: 44 places; N: how many parts, players, scenes, coats, towns ===== -/
def rLive (N : Nat → Nat) (k : Nat) : Bool := decide (k ≤ 5 ∨ (11 ≤ k ∧ k ≤ 13) ∨ (k = 6 ∧ 0 < N 0) ∨ (k = 7 ∧ 0 < N 1) ∨ (k = 8 ∧ 0 < N 2) ∨ (k = 9 ∧ 0 < N 3) ∨ (k = 10 ∧ 0 < N 4) ∨ (14 ≤ k ∧ k < 21 ∧ k < 14 + N 0) ∨ (21 ≤ k ∧ k < 26 ∧ k < 21 + N 1) ∨ (26 ≤ k ∧ k < 32 ∧ k < 26 + N 2) ∨ (32 ≤ k ∧ k < 38 ∧ k < 32 + N 3) ∨ (38 ≤ k ∧ k < 43 ∧ k < 38 + N 4))
theorem rlv {N : Nat → Nat} {k : Nat} (h : k ≤ 5 ∨ (11 ≤ k ∧ k ≤ 13) ∨ (k = 6 ∧ 0 < N 0) ∨ (k = 7 ∧ 0 < N 1) ∨ (k = 8 ∧ 0 < N 2) ∨ (k = 9 ∧ 0 < N 3) ∨ (k = 10 ∧ 0 < N 4) ∨ (14 ≤ k ∧ k < 21 ∧ k < 14 + N 0) ∨ (21 ≤ k ∧ k < 26 ∧ k < 21 + N 1) ∨ (26 ≤ k ∧ k < 32 ∧ k < 26 + N 2) ∨ (32 ≤ k ∧ k < 38 ∧ k < 32 + N 3) ∨ (38 ≤ k ∧ k < 43 ∧ k < 38 + N 4)) : rLive N k = true := decide_eq_true h
theorem rlv_lt {N : Nat → Nat} {k : Nat} (h : rLive N k = true) : k < 44 := by
  have := of_decide_eq_true h
  omega
def rDat (ad N : Nat → Nat) (i : Nat) : Nat := if N i = 0 then ad 43 else ad (6 + i)
def rEls (ad : Nat → Nat) (b n : Nat) : Nat → Option Nat := fun i => if i < n then some (ad (b + i)) else none
/-- the cell at place k, its ints read from f -/
def rCell (g : zG) (ad N : Nat → Nat) (S : Int64) (k : Nat) (f : Nat → Int32) : va_E := match k with
  | 0 => .inr (16, [.int (f 0), .ref (ad 1), .ref (ad 2), .ref (ad 3), .ref (ad 4), .ref (ad 5), .int (f 6), .int (f 7), .int (f 8), .int (f 9), .ref (ad 11), .int (f 11), .int (f 12), .ref (ad 12), .ref (ad 13), .int (f 15), .int (f 16), .int (f 17), .int (f 18), .long S])
  | 1 => .inr (3, [.int (f 0), .ref (rDat ad N 0), .int (nI (N 0))])
  | 2 => .inr (3, [.int (f 0), .ref (rDat ad N 1), .int (nI (N 1))])
  | 3 => .inr (3, [.int (f 0), .ref (rDat ad N 2), .int (nI (N 2))])
  | 4 => .inr (3, [.int (f 0), .ref (rDat ad N 3), .int (nI (N 3))])
  | 5 => .inr (3, [.int (f 0), .ref (rDat ad N 4), .int (nI (N 4))])
  | 6 => .inl (g.2.2.2 3, 10, .inr (.inr (.inr (.inr (rEls ad 14 (N 0))))))
  | 7 => .inl (g.2.2.2 3, 10, .inr (.inr (.inr (.inr (rEls ad 21 (N 1))))))
  | 8 => .inl (g.2.2.2 3, 10, .inr (.inr (.inr (.inr (rEls ad 26 (N 2))))))
  | 9 => .inl (g.2.2.2 3, 10, .inr (.inr (.inr (.inr (rEls ad 32 (N 3))))))
  | 10 => .inl (g.2.2.2 3, 10, .inr (.inr (.inr (.inr (rEls ad 38 (N 4))))))
  | 11 => .inl (g.2.2.2 0, 7, .inl f)
  | 12 => .inl (g.2.2.2 0, 7, .inl f)
  | 13 => .inl (g.2.2.2 0, 7, .inl f)
  | 14 => .inr (12, [.int (f 0), .int (f 1), .int (f 2)])
  | 15 => .inr (12, [.int (f 0), .int (f 1), .int (f 2)])
  | 16 => .inr (12, [.int (f 0), .int (f 1), .int (f 2)])
  | 17 => .inr (12, [.int (f 0), .int (f 1), .int (f 2)])
  | 18 => .inr (12, [.int (f 0), .int (f 1), .int (f 2)])
  | 19 => .inr (12, [.int (f 0), .int (f 1), .int (f 2)])
  | 20 => .inr (12, [.int (f 0), .int (f 1), .int (f 2)])
  | 21 => .inr (13, [.int (f 0), .int (f 1), .int (f 2), .int (f 3), .int (f 4)])
  | 22 => .inr (13, [.int (f 0), .int (f 1), .int (f 2), .int (f 3), .int (f 4)])
  | 23 => .inr (13, [.int (f 0), .int (f 1), .int (f 2), .int (f 3), .int (f 4)])
  | 24 => .inr (13, [.int (f 0), .int (f 1), .int (f 2), .int (f 3), .int (f 4)])
  | 25 => .inr (13, [.int (f 0), .int (f 1), .int (f 2), .int (f 3), .int (f 4)])
  | 26 => .inr (14, [.int (f 0), .int (f 1)])
  | 27 => .inr (14, [.int (f 0), .int (f 1)])
  | 28 => .inr (14, [.int (f 0), .int (f 1)])
  | 29 => .inr (14, [.int (f 0), .int (f 1)])
  | 30 => .inr (14, [.int (f 0), .int (f 1)])
  | 31 => .inr (14, [.int (f 0), .int (f 1)])
  | 32 => .inr (11, [.int (f 0), .int (f 1), .int (f 2), .int (f 3)])
  | 33 => .inr (11, [.int (f 0), .int (f 1), .int (f 2), .int (f 3)])
  | 34 => .inr (11, [.int (f 0), .int (f 1), .int (f 2), .int (f 3)])
  | 35 => .inr (11, [.int (f 0), .int (f 1), .int (f 2), .int (f 3)])
  | 36 => .inr (11, [.int (f 0), .int (f 1), .int (f 2), .int (f 3)])
  | 37 => .inr (11, [.int (f 0), .int (f 1), .int (f 2), .int (f 3)])
  | 38 => .inr (15, [.int (f 0), .int (f 1), .int (f 2)])
  | 39 => .inr (15, [.int (f 0), .int (f 1), .int (f 2)])
  | 40 => .inr (15, [.int (f 0), .int (f 1), .int (f 2)])
  | 41 => .inr (15, [.int (f 0), .int (f 1), .int (f 2)])
  | 42 => .inr (15, [.int (f 0), .int (f 1), .int (f 2)])
  | _ => .inl (g.2.2.2 3, 0, .inr (.inr (.inr (.inr (fun _ => none)))))
theorem rCell_part {g : zG} {ad N : Nat → Nat} {S : Int64} {f : Nat → Int32} {i : Nat} (hi : i < 7) : rCell g ad N S (14 + i) f = .inr (12, [.int (f 0), .int (f 1), .int (f 2)]) := by
  match i, hi with
  | 0, _ => rfl
  | 1, _ => rfl
  | 2, _ => rfl
  | 3, _ => rfl
  | 4, _ => rfl
  | 5, _ => rfl
  | 6, _ => rfl
  | i + 7, h => exact absurd h (by omega)
theorem rCell_player {g : zG} {ad N : Nat → Nat} {S : Int64} {f : Nat → Int32} {i : Nat} (hi : i < 5) : rCell g ad N S (21 + i) f = .inr (13, [.int (f 0), .int (f 1), .int (f 2), .int (f 3), .int (f 4)]) := by
  match i, hi with
  | 0, _ => rfl
  | 1, _ => rfl
  | 2, _ => rfl
  | 3, _ => rfl
  | 4, _ => rfl
  | i + 5, h => exact absurd h (by omega)
theorem rCell_scene {g : zG} {ad N : Nat → Nat} {S : Int64} {f : Nat → Int32} {i : Nat} (hi : i < 6) : rCell g ad N S (26 + i) f = .inr (14, [.int (f 0), .int (f 1)]) := by
  match i, hi with
  | 0, _ => rfl
  | 1, _ => rfl
  | 2, _ => rfl
  | 3, _ => rfl
  | 4, _ => rfl
  | 5, _ => rfl
  | i + 6, h => exact absurd h (by omega)
theorem rCell_coat {g : zG} {ad N : Nat → Nat} {S : Int64} {f : Nat → Int32} {i : Nat} (hi : i < 6) : rCell g ad N S (32 + i) f = .inr (11, [.int (f 0), .int (f 1), .int (f 2), .int (f 3)]) := by
  match i, hi with
  | 0, _ => rfl
  | 1, _ => rfl
  | 2, _ => rfl
  | 3, _ => rfl
  | 4, _ => rfl
  | 5, _ => rfl
  | i + 6, h => exact absurd h (by omega)
theorem rCell_town {g : zG} {ad N : Nat → Nat} {S : Int64} {f : Nat → Int32} {i : Nat} (hi : i < 5) : rCell g ad N S (38 + i) f = .inr (15, [.int (f 0), .int (f 1), .int (f 2)]) := by
  match i, hi with
  | 0, _ => rfl
  | 1, _ => rfl
  | 2, _ => rfl
  | 3, _ => rfl
  | 4, _ => rfl
  | i + 5, h => exact absurd h (by omega)
theorem rEls_congr {ad ad' : Nat → Nat} {b n : Nat} (h : ∀ j, ad' (b + j) = ad (b + j)) : rEls ad' b n = rEls ad b n := by
  funext i
  unfold rEls
  rw [h i]
theorem rCell_ro {g : zG} {ad N : Nat → Nat} {S : Int64} {f : Nat → Int32} {k : Nat} (h : k = 11 ∨ k = 12 ∨ k = 13) : rCell g ad N S k f = .inl (g.2.2.2 0, 7, .inl f) := by
  rcases h with rfl | rfl | rfl <;> rfl
theorem rCell_congr {g : zG} {ad ad' N N' : Nat → Nat} {S : Int64} {f : Nat → Int32} {k : Nat} (h0 : k = 0 → ∀ j : Nat, j ≤ 5 ∨ (11 ≤ j ∧ j ≤ 13) → ad' j = ad j)
  (l0 : k = 1 → N' 0 = N 0 ∧ rDat ad' N' 0 = rDat ad N 0) (d0 : k = 6 → N' 0 = N 0 ∧ ∀ j, ad' (14 + j) = ad (14 + j))
  (l1 : k = 2 → N' 1 = N 1 ∧ rDat ad' N' 1 = rDat ad N 1) (d1 : k = 7 → N' 1 = N 1 ∧ ∀ j, ad' (21 + j) = ad (21 + j))
  (l2 : k = 3 → N' 2 = N 2 ∧ rDat ad' N' 2 = rDat ad N 2) (d2 : k = 8 → N' 2 = N 2 ∧ ∀ j, ad' (26 + j) = ad (26 + j))
  (l3 : k = 4 → N' 3 = N 3 ∧ rDat ad' N' 3 = rDat ad N 3) (d3 : k = 9 → N' 3 = N 3 ∧ ∀ j, ad' (32 + j) = ad (32 + j))
  (l4 : k = 5 → N' 4 = N 4 ∧ rDat ad' N' 4 = rDat ad N 4) (d4 : k = 10 → N' 4 = N 4 ∧ ∀ j, ad' (38 + j) = ad (38 + j))
  : rCell g ad' N' S k f = rCell g ad N S k f := by
  match k, h0, l0, d0, l1, d1, l2, d2, l3, d3, l4, d4 with
  | 0, h0, _, _, _, _, _, _, _, _, _, _ => have h := h0 rfl; simp only [rCell, h 1 (by omega), h 2 (by omega), h 3 (by omega), h 4 (by omega), h 5 (by omega), h 11 (by omega), h 12 (by omega), h 13 (by omega)]
  | 1, _, l, _, _, _, _, _, _, _, _, _ => have h := l rfl; simp only [rCell, h.1, h.2]
  | 2, _, _, _, l, _, _, _, _, _, _, _ => have h := l rfl; simp only [rCell, h.1, h.2]
  | 3, _, _, _, _, _, l, _, _, _, _, _ => have h := l rfl; simp only [rCell, h.1, h.2]
  | 4, _, _, _, _, _, _, _, l, _, _, _ => have h := l rfl; simp only [rCell, h.1, h.2]
  | 5, _, _, _, _, _, _, _, _, _, l, _ => have h := l rfl; simp only [rCell, h.1, h.2]
  | 6, _, _, d, _, _, _, _, _, _, _, _ => have h := d rfl; simp only [rCell, h.1, rEls_congr h.2]
  | 7, _, _, _, _, d, _, _, _, _, _, _ => have h := d rfl; simp only [rCell, h.1, rEls_congr h.2]
  | 8, _, _, _, _, _, _, d, _, _, _, _ => have h := d rfl; simp only [rCell, h.1, rEls_congr h.2]
  | 9, _, _, _, _, _, _, _, _, d, _, _ => have h := d rfl; simp only [rCell, h.1, rEls_congr h.2]
  | 10, _, _, _, _, _, _, _, _, _, _, d => have h := d rfl; simp only [rCell, h.1, rEls_congr h.2]
  | 11, _, _, _, _, _, _, _, _, _, _, _ => rfl
  | 12, _, _, _, _, _, _, _, _, _, _, _ => rfl
  | 13, _, _, _, _, _, _, _, _, _, _, _ => rfl
  | 14, _, _, _, _, _, _, _, _, _, _, _ => rfl
  | 15, _, _, _, _, _, _, _, _, _, _, _ => rfl
  | 16, _, _, _, _, _, _, _, _, _, _, _ => rfl
  | 17, _, _, _, _, _, _, _, _, _, _, _ => rfl
  | 18, _, _, _, _, _, _, _, _, _, _, _ => rfl
  | 19, _, _, _, _, _, _, _, _, _, _, _ => rfl
  | 20, _, _, _, _, _, _, _, _, _, _, _ => rfl
  | 21, _, _, _, _, _, _, _, _, _, _, _ => rfl
  | 22, _, _, _, _, _, _, _, _, _, _, _ => rfl
  | 23, _, _, _, _, _, _, _, _, _, _, _ => rfl
  | 24, _, _, _, _, _, _, _, _, _, _, _ => rfl
  | 25, _, _, _, _, _, _, _, _, _, _, _ => rfl
  | 26, _, _, _, _, _, _, _, _, _, _, _ => rfl
  | 27, _, _, _, _, _, _, _, _, _, _, _ => rfl
  | 28, _, _, _, _, _, _, _, _, _, _, _ => rfl
  | 29, _, _, _, _, _, _, _, _, _, _, _ => rfl
  | 30, _, _, _, _, _, _, _, _, _, _, _ => rfl
  | 31, _, _, _, _, _, _, _, _, _, _, _ => rfl
  | 32, _, _, _, _, _, _, _, _, _, _, _ => rfl
  | 33, _, _, _, _, _, _, _, _, _, _, _ => rfl
  | 34, _, _, _, _, _, _, _, _, _, _, _ => rfl
  | 35, _, _, _, _, _, _, _, _, _, _, _ => rfl
  | 36, _, _, _, _, _, _, _, _, _, _, _ => rfl
  | 37, _, _, _, _, _, _, _, _, _, _, _ => rfl
  | 38, _, _, _, _, _, _, _, _, _, _, _ => rfl
  | 39, _, _, _, _, _, _, _, _, _, _, _ => rfl
  | 40, _, _, _, _, _, _, _, _, _, _, _ => rfl
  | 41, _, _, _, _, _, _, _, _, _, _, _ => rfl
  | 42, _, _, _, _, _, _, _, _, _, _, _ => rfl
  | k + 43, _, _, _, _, _, _, _, _, _, _, _ => rfl
def rO (g : zG) (ad N : Nat → Nat) (S : Int64) (G : Nat → Nat → Int32) (σ0 : Nat → Option va_E) : Nat → Option va_E := fun a => match (List.range 44).find? (fun k => rLive N k && decide (ad k = a)) with
  | some k => some (rCell g ad N S k (G k))
  | none => σ0 a
def rK (g : zG) (ad N : Nat → Nat) : Prop := (∀ j k, rLive N j = true → rLive N k = true → ad j = ad k → j = k) ∧ ∀ k, rLive N k = true → k ≠ 43 → g.2.1.size ≤ ad k
section RO
variable {g : zG} {ad N : Nat → Nat} {S : Int64} {G : Nat → Nat → Int32} {σ0 : Nat → Option va_E}
theorem rO_at (hK : rK g ad N) {k : Nat} (hk : rLive N k = true) : rO g ad N S G σ0 (ad k) = some (rCell g ad N S k (G k)) := by
  unfold rO
  cases h : (List.range 44).find? (fun j => rLive N j && decide (ad j = ad k)) with
  | none =>
    have := List.find?_eq_none.mp h k (List.mem_range.mpr (rlv_lt hk))
    simp [hk] at this
  | some j =>
    have h1 := List.find?_some h
    simp only [Bool.and_eq_true, decide_eq_true_eq] at h1
    have e : j = k := hK.1 j k h1.1 hk h1.2
    subst e
    rfl
theorem rO_out {a : Nat} (h : ∀ k, rLive N k = true → ad k ≠ a) : rO g ad N S G σ0 a = σ0 a := by
  unfold rO
  cases e : (List.range 44).find? (fun j => rLive N j && decide (ad j = a)) with
  | none => rfl
  | some j =>
    have h1 := List.find?_some e
    simp only [Bool.and_eq_true, decide_eq_true_eq] at h1
    exact absurd h1.2 (h j h1.1)
theorem rO_eq {f : Nat → Option va_E} (hK : rK g ad N) (h1 : ∀ k, rLive N k = true → f (ad k) = some (rCell g ad N S k (G k))) (h2 : ∀ a, (∀ k, rLive N k = true → ad k ≠ a) → f a = σ0 a) : f = rO g ad N S G σ0 := by
  funext a
  by_cases h : ∃ k, rLive N k = true ∧ ad k = a
  · obtain ⟨k, hk, rfl⟩ := h
    rw [h1 k hk, rO_at hK hk]
  · have h' : ∀ k, rLive N k = true → ad k ≠ a := fun k hk e => h ⟨k, hk, e⟩
    rw [h2 a h', rO_out h']
theorem rO_row (hK : rK g ad N) {k : Nat} (hk : rLive N k = true) {r : Nat → Int32} {e : va_E} (he : rCell g ad N S k r = e) : zup (rO g ad N S G σ0) (ad k) e = rO g ad N S (frow G k r) σ0 := by
  refine rO_eq hK (fun j hj => ?_) (fun a ha => ?_)
  · by_cases h : j = k
    · subst h; rw [zup_eq, frow_eq, he]
    · rw [zup_ne (fun e => h (hK.1 j k hj hk e)), frow_ne h, rO_at hK hj]
  · rw [zup_ne (fun e => ha k hk e.symm), rO_out ha]
theorem fset_frow {F : Nat → Nat → Int32} {k j : Nat} {x : Int32} : frow F k (upd (F k) j x) = fset F k j x := by
  funext q
  by_cases h : q = k
  · subst h; rw [frow_eq, fset_row]
  · rw [frow_ne h, fset_other h]
theorem rO_set (hK : rK g ad N) {k j : Nat} (hk : rLive N k = true) {x : Int32} {e : va_E} (he : rCell g ad N S k (upd (G k) j x) = e) : zup (rO g ad N S G σ0) (ad k) e = rO g ad N S (fset G k j x) σ0 := by
  rw [rO_row hK hk he, fset_frow]
theorem rO_zup (hK : rK g ad N) {a : Nat} {e : va_E} (h : ∀ k, rLive N k = true → ad k ≠ a) : zup (rO g ad N S G σ0) a e = rO g ad N S G (zup σ0 a e) := by
  refine rO_eq hK (fun j hj => ?_) (fun b hb => ?_)
  · rw [zup_ne (h j hj), rO_at hK hj]
  · by_cases e : b = a
    · subst e; rw [zup_eq, zup_eq]
    · rw [zup_ne e, zup_ne e, rO_out hb]
theorem rO_sum (hK : rK g ad N) {S' : Int64} : zup (rO g ad N S G σ0) (ad 0) (rCell g ad N S' 0 (G 0)) = rO g ad N S' G σ0 := by
  refine rO_eq hK (fun j hj => ?_) (fun a ha => ?_)
  · by_cases h : j = 0
    · subst h; rw [zup_eq]
    · rw [zup_ne (fun e => h (hK.1 j 0 hj (rlv (by omega)) e)), rO_at hK hj]
      have : ∀ k, k ≠ 0 → rCell g ad N S k (G k) = rCell g ad N S' k (G k) := fun k hk => by
        unfold rCell
        split <;> first | exact absurd rfl hk | rfl
      rw [this j h]
  · rw [zup_ne (fun e => ha 0 (rlv (by omega)) e.symm), rO_out ha]
theorem rO_list (hK : rK g ad N) {i : Nat} (hi : i < 5) : rO g ad N S G σ0 (ad (1 + i)) = some (.inr (3, [.int (G (1 + i) 0), .ref (rDat ad N i), .int (nI (N i))])) := by
  rw [rO_at hK (rlv (by omega))]
  match i, hi with
  | 0, _ => rfl
  | 1, _ => rfl
  | 2, _ => rfl
  | 3, _ => rfl
  | 4, _ => rfl
  | i + 5, h => exact absurd h (by omega)
def rB (i : Nat) : Nat := match i with | 0 => 14 | 1 => 21 | 2 => 26 | 3 => 32 | _ => 38
theorem rO_data (hK : rK g ad N) {i : Nat} (hi : i < 5) (hn : 0 < N i) : rO g ad N S G σ0 (ad (6 + i)) = some (.inl (g.2.2.2 3, 10, .inr (.inr (.inr (.inr (rEls ad (rB i) (N i))))))) := by
  match i, hi with
  | 0, _ => rw [rO_at hK (rlv (by omega))]; rfl
  | 1, _ => rw [rO_at hK (rlv (by omega))]; rfl
  | 2, _ => rw [rO_at hK (rlv (by omega))]; rfl
  | 3, _ => rw [rO_at hK (rlv (by omega))]; rfl
  | 4, _ => rw [rO_at hK (rlv (by omega))]; rfl
  | i + 5, h => exact absurd h (by omega)
theorem r_size {t : Nat × Nat} (hK : rK g ad N) (i : Nat) (hi : i < 5) : Ct g 10 yJx4a65c_size_8abf5 cJx4a65c_size_8abf5 1 (some .int) 0 0 [.ref (ad (1 + i))] (t, rO g ad N S G σ0) (qR (fun v => v = some (.int (nI (N i)))) (t, rO g ad N S G σ0)) zNo := k_Jx4a65c_size_8abf5 (rO_list hK hi)
theorem r_get {t : Nat × Nat} (hK : rK g ad N) (i : Nat) (hi : i < 5) {j : Nat} (hj : j < N i) (hN : N i ≤ 10) : Ct g 12 yJx4a65c_get_915e3 cJx4a65c_get_915e3 2 (some (.object "java/lang/Object")) 0 0 [.ref (ad (1 + i)), .int (nI j)] (t, rO g ad N S G σ0) (qR (fun v => v = some (.ref (ad (rB i + j)))) (t, rO g ad N S G σ0)) zNo := by
  have h1 : rDat ad N i = ad (6 + i) := if_neg (by omega)
  have h2 := rO_list (S := S) (G := G) (σ0 := σ0) hK hi
  rw [h1] at h2
  exact k_Jx4a65c_get_915e3 h2 (rO_data hK hi (by omega)) hj hN (by decide) (show rEls ad (rB i) (N i) j = _ from if_pos hj)
end RO
section RROW
variable {g : zG} {κ : zC} {own : String} {cc : ByteArray} {nL k n : Nat} {t : Nat × Nat} {ad N : Nat → Nat} {S : Int64} {G : Nat → Nat → Int32} {σ0 : Nat → Option va_E} {pc : Nat} {lv : List (Nat × Value)} {rest : List Value}
theorem R_getf (X : zX g κ own cc nL) {idx ci j : Nat} {C : String} {T : u_T} {M : Nat} (Z : zF own idx ci j C T M) (hK : rK g ad N) (q : Nat) (hq : rLive N q = true) {fs : List Value} {v : Value} (he : rCell g ad N S q (G q) = .inr (ci, fs)) (hv : fs[j]? = some v) (d : decode cc pc = .ok (.getfield idx, 3)) (kk : V g κ nL k n (t, rO g ad N S G σ0) (pc + 3) lv (v :: rest)) : V g κ nL k n (t, rO g ad N S G σ0) pc lv (.ref (ad q) :: rest) :=
  V_getf X Z (show (t, rO g ad N S G σ0).2 (ad q) = _ from (rO_at hK hq).trans (congrArg some he)) hv d kk
theorem R_getfN (X : zX g κ own cc nL) {idx ci j : Nat} {C : String} {T : u_T} {M : Nat} (Z : zF own idx ci j C T M) (hK : rK g ad N) (q : Nat) (hq : rLive N q = true) {fs : List Value} {y z : Int32} (he : rCell g ad N S q (G q) = .inr (ci, fs)) (hv : fs[j]? = some (.int y)) (hz : y = z) (d : decode cc pc = .ok (.getfield idx, 3)) (kk : V g κ nL k n (t, rO g ad N S G σ0) (pc + 3) lv (.int z :: rest)) : V g κ nL k n (t, rO g ad N S G σ0) pc lv (.ref (ad q) :: rest) := by
  subst hz
  exact R_getf X Z hK q hq he hv d kk
theorem R_putf (X : zX g κ own cc nL) {idx ci j : Nat} {C : String} {T : u_T} {M : Nat} (Z : zF own idx ci j C T M) (Y : zT C T M) (hK : rK g ad N) (q : Nat) (hq : rLive N q = true) (h43 : q ≠ 43) {fs : List Value} {x : Int32} {ty : FieldType} (he : rCell g ad N S q (G q) = .inr (ci, fs)) (hl : j < fs.length) (hfin : (T j).2.2.2 = false) (hd : parseFieldDescriptor (T j).2.2.1 = some ty) (hn : narrow ty (.int x) = .int x) (hfit : fits ty (.int x) = true) (hs : rCell g ad N S q (upd (G q) j x) = .inr (ci, fs.set j (.int x))) (d : decode cc pc = .ok (.putfield idx, 3)) (kk : ∀ F' : Nat → Nat → Int32, F' = fset G q j x → V g κ nL k n (t, rO g ad N S F' σ0) (pc + 3) lv rest) : V g κ nL k n (t, rO g ad N S G σ0) pc lv (.int x :: .ref (ad q) :: rest) := by
  refine V_putf X Z Y (show (t, rO g ad N S G σ0).2 (ad q) = _ from (rO_at hK hq).trans (congrArg some he)) (hK.2 q hq h43) hl hfin hd hn hfit d ?_
  show V g κ nL k n (t, zup (rO g ad N S G σ0) (ad q) (.inr (ci, fs.set j (.int x)))) (pc + 3) lv rest
  rw [rO_set hK hq hs]
  exact kk _ rfl
theorem R_iald (X : zX g κ own cc nL) (hK : rK g ad N) (q : Nat) (hq : q = 11 ∨ q = 12 ∨ q = 13) {i : Int32} (j : Nat) (hi : i = nI j) (hj : j < 7) (d : decode cc pc = .ok (.iaload, 1)) (kk : V g κ nL k n (t, rO g ad N S G σ0) (pc + 1) lv (.int (G q j) :: rest)) : V g κ nL k n (t, rO g ad N S G σ0) pc lv (.int i :: .ref (ad q) :: rest) := by
  subst hi
  refine V_iald X (show (t, rO g ad N S G σ0).2 (ad q) = _ from (rO_at hK (rlv (by omega))).trans (congrArg some (rCell_ro hq))) (vp_in_nI hj (by decide)) d ?_
  rw [nI_clamp (by omega)]
  exact kk
theorem R_iast (X : zX g κ own cc nL) (hK : rK g ad N) (q : Nat) (hq : q = 11 ∨ q = 12 ∨ q = 13) {i x : Int32} (j : Nat) (hi : i = nI j) (hj : j < 7) (d : decode cc pc = .ok (.iastore, 1)) (kk : ∀ F' : Nat → Nat → Int32, F' = fset G q j x → V g κ nL k n (t, rO g ad N S F' σ0) (pc + 1) lv rest) : V g κ nL k n (t, rO g ad N S G σ0) pc lv (.int x :: .int i :: .ref (ad q) :: rest) := by
  subst hi
  have hq' : rLive N q = true := rlv (by omega)
  refine V_iast X (show (t, rO g ad N S G σ0).2 (ad q) = _ from (rO_at hK hq').trans (congrArg some (rCell_ro hq))) (hK.2 q hq' (by omega)) (vp_in_nI hj (by decide)) d ?_
  rw [nI_clamp (by omega)]
  show V g κ nL k n (t, zup (rO g ad N S G σ0) (ad q) (.inl (g.2.2.2 0, 7, .inl (upd (G q) j x)))) (pc + 1) lv rest
  rw [rO_set hK hq' (rCell_ro hq)]
  exact kk _ rfl
theorem R_recv (hK : rK g ad N) {q ci : Nat} (hq : rLive N q = true) {fs : List Value} (he : rCell g ad N S q (G q) = .inr (ci, fs)) : (t, rO g ad N S G σ0).2 (ad q) = some (.inr (ci, fs)) := (rO_at hK hq).trans (congrArg some he)
theorem R_putJ (X : zX g κ own cc nL) {idx : Nat} (Z : zF own idx 16 19 RX12 TX12 20) (hK : rK g ad N) {x : Int64} (d : decode cc pc = .ok (.putfield idx, 3)) (kk : V g κ nL k n (t, rO g ad N x G σ0) (pc + 3) lv rest) : V g κ nL k n (t, rO g ad N S G σ0) pc lv (.long x :: .ref (ad 0) :: rest) := by
  refine V_putf X Z zt_X12 (show (t, rO g ad N S G σ0).2 (ad 0) = _ from rO_at hK (rlv (by omega))) (hK.2 0 (rlv (by omega)) (by decide)) (Nat.le_of_ble_eq_true rfl) rfl (ty := .long) rfl rfl rfl d ?_
  show V g κ nL k n (t, zup (rO g ad N S G σ0) (ad 0) (rCell g ad N x 0 (G 0))) (pc + 3) lv rest
  rw [rO_sum hK]
  exact kk
end RROW
