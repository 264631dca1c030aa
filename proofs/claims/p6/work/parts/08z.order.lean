/-! ===== the order in which parts are placed ===== -/
/-- at most b of them, each a part -/
def cOb (b : Nat) (F : Nat → Nat → Int32) : Prop := ∃ m, m ≤ b ∧ F 12 8 = nI m ∧ ∀ j, j < m → ∃ p, p < 7 ∧ F 16 j = nI p
theorem cOb.zero {F F' : Nat → Nat → Int32} (h : F' = fset F 12 8 (nI 0)) : cOb 0 F' := ⟨0, Nat.le_refl _, by rw [h, fset_eq], fun j hj => absurd hj (Nat.not_lt_zero j)⟩
theorem cOb.mono {a b : Nat} {F : Nat → Nat → Int32} (h : cOb a F) (hab : a ≤ b) : cOb b F := by
  obtain ⟨m, h1, h2, h3⟩ := h
  exact ⟨m, Nat.le_trans h1 hab, h2, h3⟩
theorem cOb.keep {b : Nat} {F F' : Nat → Nat → Int32} {k j : Nat} {x : Int32} (h : cOb b F) (hF : F' = fset F k j x) (hk : k ≠ 16 ∧ k ≠ 12) : cOb b F' := by
  obtain ⟨m, h1, h2, h3⟩ := h
  refine ⟨m, h1, by rw [hF, fset_ne (Or.inl (Ne.symm hk.2))]; exact h2, fun i hi => ?_⟩
  obtain ⟨p, hp, e⟩ := h3 i hi
  exact ⟨p, hp, by rw [hF, fset_ne (Or.inl (Ne.symm hk.1))]; exact e⟩
theorem zord {F F2 F3 : Nat → Nat → Int32} {m p : Nat} (h3 : ∀ j, j < m → ∃ p, p < 7 ∧ F 16 j = nI p) (e2 : F2 = fset F 16 m (nI p)) (hp : p < 7) (e3 : F3 = fset F2 12 8 (nI (m + 1))) : F3 12 8 = nI (m + 1) ∧ ∀ j, j < m + 1 → ∃ p, p < 7 ∧ F3 16 j = nI p := by
  refine ⟨by rw [e3, fset_eq], fun j hj => ?_⟩
  by_cases h : j = m
  · subst h
    exact ⟨p, hp, by rw [e3, fset_ne (Or.inl (by decide)), e2, fset_eq]⟩
  · obtain ⟨q, hq, e⟩ := h3 j (by omega)
    exact ⟨q, hq, by rw [e3, fset_ne (Or.inl (by decide)), e2, fset_ne (Or.inr h)]; exact e⟩
theorem cOb.step {b m p : Nat} {F F2 F3 : Nat → Nat → Int32} (h1 : m ≤ b) (h3 : ∀ j, j < m → ∃ p, p < 7 ∧ F 16 j = nI p) (e2 : F2 = fset F 16 m (nI p)) (hp : p < 7) (e3 : F3 = fset F2 12 8 (nI (m + 1))) : cOb (b + 1) F3 := ⟨m + 1, by omega, (zord h3 e2 hp e3).1, (zord h3 e2 hp e3).2⟩
/-- how many bits are set, as the JDK reckons it -/
def zbc (i : Int32) : Int32 :=
  let u := fun (x : Int32) (n : Nat) => (x.toUInt32 >>> ((nI n).toUInt32 &&& Int32.toUInt32 31)).toInt32
  let a := i - ((u i 1) &&& 1431655765)
  let b := (a &&& 858993459) + ((u a 2) &&& 858993459)
  let c := (b + u b 4) &&& 252645135
  let d := c + u c 8
  let e := d + u d 16
  e &&& nI 63
/-- which choice a part falls under -/
def zkf (f : Nat → Int32) (p : Nat) : Nat := if zbc (f p) = nI 0 then 0 else if zbc (f p) = nI 1 then 1 else if zbc (f p) = nI 2 then 2 else if zbc (f p) = nI 3 then 3 else if zbc (f p) = nI 4 then 4 else if zbc (f p) = nI 5 then 5 else 6
theorem zkf_of {f : Nat → Int32} {p c : Nat} (hc : c < 6) (h : zbc (f p) = nI c) : zkf f p = c := by
  unfold zkf
  rw [h]
  match c, hc with
  | 0, _ => rfl
  | 1, _ => rfl
  | 2, _ => rfl
  | 3, _ => rfl
  | 4, _ => rfl
  | 5, _ => rfl
  | i + 6, h => exact absurd h (by omega)
def zb1 (k c i p : Nat) : Nat := if c < k ∨ (c = k ∧ i ≤ p) then 1 else 0
theorem zb1_le (k c i p : Nat) : zb1 k c (i + 1) p ≤ zb1 k c i p := by
  unfold zb1
  by_cases h : c < k ∨ (c = k ∧ i + 1 ≤ p)
  · rw [if_pos h, if_pos (by omega)]; exact Nat.le_refl _
  · rw [if_neg h]; exact Nat.zero_le _
theorem zb1_st {k c i : Nat} (h : k = c) : zb1 k c (i + 1) i = 0 ∧ zb1 k c i i = 1 := by
  unfold zb1
  exact ⟨if_neg (by omega), if_pos (by omega)⟩
theorem zb1_nx (k c p : Nat) (hp : p < 7) : zb1 k (c + 1) 0 p ≤ zb1 k c 7 p := by
  unfold zb1
  by_cases h : c + 1 < k ∨ (c + 1 = k ∧ 0 ≤ p)
  · rw [if_pos h, if_pos (by omega)]; exact Nat.le_refl _
  · rw [if_neg h]; exact Nat.zero_le _
theorem zb1_01 (k c i p : Nat) : zb1 k c i p ≤ 1 := by
  unfold zb1
  by_cases h : c < k ∨ (c = k ∧ i ≤ p)
  · rw [if_pos h]; exact Nat.le_refl _
  · rw [if_neg h]; exact Nat.zero_le _
def zrm (k : Nat → Nat) (c i : Nat) : Nat := zb1 (k 0) c i 0 + zb1 (k 1) c i 1 + zb1 (k 2) c i 2 + zb1 (k 3) c i 3 + zb1 (k 4) c i 4 + zb1 (k 5) c i 5 + zb1 (k 6) c i 6
theorem zrm_top (k : Nat → Nat) : zrm k 0 0 ≤ 7 := by
  unfold zrm
  have := zb1_01 (k 0) 0 0 0; have := zb1_01 (k 1) 0 0 1; have := zb1_01 (k 2) 0 0 2; have := zb1_01 (k 3) 0 0 3; have := zb1_01 (k 4) 0 0 4; have := zb1_01 (k 5) 0 0 5; have := zb1_01 (k 6) 0 0 6
  omega
theorem zrm_le (k : Nat → Nat) (c i : Nat) : zrm k c (i + 1) ≤ zrm k c i := by
  unfold zrm
  have := zb1_le (k 0) c i 0; have := zb1_le (k 1) c i 1; have := zb1_le (k 2) c i 2; have := zb1_le (k 3) c i 3; have := zb1_le (k 4) c i 4; have := zb1_le (k 5) c i 5; have := zb1_le (k 6) c i 6
  omega
theorem zrm_st {k : Nat → Nat} {c i : Nat} (h : k i = c) (hi : i < 7) : zrm k c (i + 1) + 1 ≤ zrm k c i := by
  unfold zrm
  have := zb1_le (k 0) c i 0; have := zb1_le (k 1) c i 1; have := zb1_le (k 2) c i 2; have := zb1_le (k 3) c i 3; have := zb1_le (k 4) c i 4; have := zb1_le (k 5) c i 5; have := zb1_le (k 6) c i 6
  have hs := zb1_st (i := i) h
  match i, hi with
  | 0, _ => omega
  | 1, _ => omega
  | 2, _ => omega
  | 3, _ => omega
  | 4, _ => omega
  | 5, _ => omega
  | 6, _ => omega
  | j + 7, h => exact absurd h (by omega)
theorem zrm_nx (k : Nat → Nat) (c : Nat) : zrm k (c + 1) 0 ≤ zrm k c 7 := by
  unfold zrm
  have := zb1_nx (k 0) c 0 (by decide); have := zb1_nx (k 1) c 1 (by decide); have := zb1_nx (k 2) c 2 (by decide); have := zb1_nx (k 3) c 3 (by decide); have := zb1_nx (k 4) c 4 (by decide); have := zb1_nx (k 5) c 5 (by decide); have := zb1_nx (k 6) c 6 (by decide)
  omega
/-- so many as have come so far, by choices -/
def cOc (c i : Nat) (F : Nat → Nat → Int32) : Prop := ∃ m, m + zrm (zkf (F 14)) c i ≤ 7 ∧ F 12 8 = nI m ∧ ∀ j, j < m → ∃ p, p < 7 ∧ F 16 j = nI p
theorem cOc.zero {F F' : Nat → Nat → Int32} (h : F' = fset F 12 8 (nI 0)) : cOc 0 0 F' := ⟨0, by rw [Nat.zero_add]; exact zrm_top _, by rw [h, fset_eq], fun j hj => absurd hj (Nat.not_lt_zero j)⟩
theorem cOc.skip {c i : Nat} {F : Nat → Nat → Int32} (h : cOc c i F) : cOc c (i + 1) F := by
  obtain ⟨m, h1, h2⟩ := h
  exact ⟨m, Nat.le_trans (Nat.add_le_add_left (zrm_le _ _ _) _) h1, h2⟩
theorem cOc.next {c : Nat} {F : Nat → Nat → Int32} (h : cOc c 7 F) : cOc (c + 1) 0 F := by
  obtain ⟨m, h1, h2⟩ := h
  exact ⟨m, Nat.le_trans (Nat.add_le_add_left (zrm_nx _ _) _) h1, h2⟩
theorem cOc.next' {c i : Nat} {F : Nat → Nat → Int32} (h : cOc c i F) (hi : i = 7) : cOc (c + 1) 0 F := by
  subst hi
  exact h.next
theorem cOc.done {c i : Nat} {F : Nat → Nat → Int32} (h : cOc c i F) : cOb 7 F := by
  obtain ⟨m, h1, h2⟩ := h
  exact ⟨m, by omega, h2⟩
theorem cOc.step {c i m : Nat} {F F2 F3 : Nat → Nat → Int32} (h1 : m + zrm (zkf (F 14)) c i ≤ 7) (h3 : ∀ j, j < m → ∃ p, p < 7 ∧ F 16 j = nI p) (e2 : F2 = fset F 16 m (nI i)) (hi : i < 7) (e3 : F3 = fset F2 12 8 (nI (m + 1))) (hc : c < 6) (hb : zbc (F 14 i) = nI c) : cOc c (i + 1) F3 := by
  refine ⟨m + 1, ?_, (zord h3 e2 hi e3).1, (zord h3 e2 hi e3).2⟩
  have e : F3 14 = F 14 := by rw [e3, fset_other (by decide), e2, fset_other (by decide)]
  rw [e]
  have := zrm_st (k := zkf (F 14)) (zkf_of hc hb) hi
  omega
theorem cOc.lt {c i m : Nat} {F : Nat → Nat → Int32} (h1 : m + zrm (zkf (F 14)) c i ≤ 7) (hi : i < 7) (hc : c < 6) (hb : zbc (F 14 i) = nI c) : m < 7 := by
  have := zrm_st (k := zkf (F 14)) (zkf_of hc hb) hi
  omega
def qC (P : Option Value → Prop) (g : zG) (t : Nat × Nat) (X0 : Nat) (F : Nat → Nat → Int32) (σ0 : Nat → Option va_E) : Option Value → zS → Prop := fun v σ' => P v ∧ ∃ F' : Nat → Nat → Int32, σ' = (t, cW g X0 F' σ0) ∧ cJ F F' ∧ cOb 7 F'
/-! a whole row written anew -/
def frow (F : Nat → Nat → Int32) (k : Nat) (f : Nat → Int32) : Nat → Nat → Int32 := fun k' => if k' = k then f else F k'
theorem frow_eq {F : Nat → Nat → Int32} {k : Nat} {f : Nat → Int32} : frow F k f k = f := if_pos rfl
theorem frow_ne {F : Nat → Nat → Int32} {k k' : Nat} {f : Nat → Int32} (h : k' ≠ k) : frow F k f k' = F k' := if_neg h
theorem cJ.row {F0 F F' : Nat → Nat → Int32} {k : Nat} {f : Nat → Int32} (h : cJ F0 F) (hF : F' = frow F k f) (hs : ∀ j, scr k j = true) : cJ F0 F' := fun a b hab => by
  by_cases h1 : a = k
  · subst h1; rw [hs] at hab; cases hab
  · rw [hF, frow_ne h1, h a b hab]
theorem cW_row {g : zG} {X0 : Nat} {F : Nat → Nat → Int32} {σ0 : Nat → Option va_E} {k : Nat} {f : Nat → Int32} (hk : k < 61) {e : va_E} (he : cCell g X0 k f = e) : zup (cW g X0 F σ0) (X0 + k) e = cW g X0 (frow F k f) σ0 := by
  funext a
  by_cases ha : a = X0 + k
  · subst ha
    rw [zup_eq, cW_at hk, frow_eq, he]
  · rw [zup_ne ha]
    by_cases h : X0 ≤ a ∧ a < X0 + 61
    · obtain ⟨q, rfl⟩ := Nat.exists_eq_add_of_le h.1
      rw [cW_at (by omega), cW_at (by omega), frow_ne (by omega)]
    · rw [cW_out (by omega), cW_out (by omega)]
theorem znm1 {p : Nat} (hp : p < 2 ^ 31) : ¬ nI p = -1 := fun h => by
  have := congrArg Int32.toInt h
  rw [nI_toInt hp] at this
  have e : (-1 : Int32).toInt = -1 := by decide
  rw [e] at this
  omega
