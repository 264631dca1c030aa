/-! ===== dressing: so many coats for so many parts, at the least waste ===== -/
/-- the coats of S, one for each part of the list, waste v: w c p u tells that coat c on part p wastes u -/
def Dy (w : Nat → Nat → Nat → Prop) : List Nat → (Nat → Prop) → Nat → Prop
  | [], S, v => (∀ c, ¬ S c) ∧ v = 0
  | p :: L, S, v => ∃ c u x, S c ∧ w c p u ∧ Dy w L (fun d => S d ∧ d ≠ c) x ∧ v = x + u
section DY
variable {w w' : Nat → Nat → Nat → Prop} {L L' : List Nat} {S S' : Nat → Prop} {v p q : Nat}
theorem Dy_cg (e : ∀ c, S c ↔ S' c) (h : Dy w L S v) : Dy w L S' v := by
  have : S = S' := funext fun c => propext (e c)
  rw [← this]
  exact h
theorem Dy_w (e : ∀ c p u, p ∈ L → (w c p u ↔ w' c p u)) : ∀ {S : Nat → Prop} {v : Nat}, Dy w L S v → Dy w' L S v := by
  induction L with
  | nil => exact fun h => h
  | cons p L ih =>
    intro S v h
    obtain ⟨c, u, x, h1, h2, h3, h4⟩ := h
    exact ⟨c, u, x, h1, (e c p u List.mem_cons_self).mp h2, ih (fun c q u hq => e c q u (List.mem_cons_of_mem _ hq)) h3, h4⟩
theorem Dy_swap (h : Dy w (p :: q :: L) S v) : Dy w (q :: p :: L) S v := by
  obtain ⟨c, u, x, h1, h2, ⟨d, u', y, ⟨h3, h3'⟩, h4, h5, e⟩, e'⟩ := h
  exact ⟨d, u', y + u, h3, h4, ⟨c, u, y, ⟨h1, fun z => h3' z.symm⟩, h2, Dy_cg (fun z => ⟨fun ⟨⟨a, b⟩, k⟩ => ⟨⟨a, k⟩, b⟩, fun ⟨⟨a, b⟩, k⟩ => ⟨⟨a, k⟩, b⟩⟩) h5, rfl⟩, by omega⟩
theorem Dy_perm (hp : L.Perm L') : ∀ {S : Nat → Prop} {v : Nat}, Dy w L S v → Dy w L' S v := by
  induction hp with
  | nil => exact fun h => h
  | cons a _ ih =>
    intro S v h
    obtain ⟨c, u, x, h1, h2, h3, h4⟩ := h
    exact ⟨c, u, x, h1, h2, ih h3, h4⟩
  | swap a b l => exact fun h => Dy_swap h
  | trans _ _ ih1 ih2 => exact fun h => ih2 (ih1 h)
/-- each coat wastes at most 5 -/
theorem Dy_le (hw : ∀ c p u, w c p u → u ≤ 5) : ∀ {L : List Nat} {S : Nat → Prop} {v : Nat}, Dy w L S v → v ≤ 5 * L.length := by
  intro L
  induction L with
  | nil =>
    intro S v h
    rw [h.2]
    exact Nat.zero_le _
  | cons p L ih =>
    intro S v h
    obtain ⟨c, u, x, h1, h2, h3, h4⟩ := h
    have a := ih h3
    have b := hw c p u h2
    rw [List.length_cons]
    omega
end DY
/-- x is the least of P, -1 where there is none -/
def lvX (x : Int32) (P : Nat → Prop) : Prop := (x = -1 ∧ ∀ v, ¬ P v) ∨ ∃ v, x = nI v ∧ P v ∧ ∀ u, P u → v ≤ u
section LVX
variable {x y z : Int32} {P Q : Nat → Prop} {v : Nat}
theorem lvX_cg (e : ∀ u, P u ↔ Q u) (h : lvX x P) : lvX x Q := h.imp (fun ⟨a, b⟩ => ⟨a, fun u q => b u ((e u).mpr q)⟩) (fun ⟨v, a, b, c⟩ => ⟨v, a, (e v).mp b, fun u q => c u ((e u).mpr q)⟩)
theorem lvX_un (h1 : lvX x P) (h2 : lvX y P) : x = y := by
  rcases h1 with ⟨rfl, a⟩ | ⟨u, rfl, a, b⟩ <;> rcases h2 with ⟨rfl, c⟩ | ⟨u', rfl, c, d⟩
  · rfl
  · exact absurd c (a u')
  · exact absurd a (c u)
  · rw [Nat.le_antisymm (b u' c) (d u a)]
theorem lvX_0 (h : ∀ v, ¬ P v) : lvX (-1) P := Or.inl ⟨rfl, h⟩
/-- one more is weighed: it is no less -/
theorem lvX_no (h : lvX x P) (hx : ¬ x = -1) (hv : v < 2 ^ 31) (hb : ∀ u, P u → u < 2 ^ 31) (hn : ¬ nI v < x) : lvX x (fun u => P u ∨ u = v) := by
  rcases h with ⟨a, -⟩ | ⟨k, rfl, b, c⟩
  · exact absurd a hx
  · refine Or.inr ⟨k, rfl, Or.inl b, fun u hu => ?_⟩
    rcases hu with hu | rfl
    · exact c u hu
    · rw [Int32.lt_iff_toInt_lt, nI_toInt hv, nI_toInt (hb k b)] at hn
      omega
theorem lvX_yes (h : lvX x P) (hv : v < 2 ^ 31) (hb : ∀ u, P u → u < 2 ^ 31) (hy : x = -1 ∨ nI v < x) : lvX (nI v) (fun u => P u ∨ u = v) := by
  refine Or.inr ⟨v, rfl, Or.inr rfl, fun u hu => ?_⟩
  rcases hu with hu | rfl
  · rcases h with ⟨-, b⟩ | ⟨k, rfl, b, c⟩
    · exact absurd hu (b u)
    · rcases hy with e | e
      · exact absurd e (znm1 (hb k b))
      · rw [Int32.lt_iff_toInt_lt, nI_toInt hv, nI_toInt (hb k b)] at e
        have := c u hu
        omega
  · exact Nat.le_refl _
end LVX
/-- the parts of a set below n, the last ones first -/
def pLs (m : Nat) : Nat → List Nat
  | 0 => []
  | n + 1 => if m.testBit n = true then n :: pLs m n else pLs m n
theorem pLs_1 {m n : Nat} (h : m.testBit n = true) : pLs m (n + 1) = n :: pLs m n := if_pos h
theorem pLs_0 {m n : Nat} (h : ¬ m.testBit n = true) : pLs m (n + 1) = pLs m n := if_neg h
theorem pLs_len {m : Nat} : ∀ n, (pLs m n).length ≤ n := by
  intro n
  induction n with
  | zero => exact Nat.le_refl _
  | succ n ih =>
    by_cases h : m.testBit n = true
    · rw [pLs_1 h, List.length_cons]
      omega
    · rw [pLs_0 h]
      omega
theorem pLs_mem {m p : Nat} : ∀ n, p ∈ pLs m n → p < n ∧ m.testBit p = true := by
  intro n
  induction n with
  | zero => exact fun h => absurd h List.not_mem_nil
  | succ n ih =>
    intro hp
    by_cases h : m.testBit n = true
    · rw [pLs_1 h] at hp
      rcases List.mem_cons.mp hp with rfl | k
      · exact ⟨Nat.lt_succ_self _, h⟩
      · have := ih k
        exact ⟨by omega, this.2⟩
    · rw [pLs_0 h] at hp
      have := ih hp
      exact ⟨by omega, this.2⟩
/-- the lowest part is the last of the list -/
theorem pLs_low {m : Nat} (hm : m < 128) : ∀ t, t < 7 → m.testBit t = true → (∀ s, s < t → m.testBit s = false) → ∀ n, t < n → n ≤ 7 → pLs m n = pLs (m &&& (m - 1)) n ++ [t] := by
  have key : ∀ m, m < 128 → ∀ t, t < 7 → ∀ n, n < 8 → (m.testBit t && (m % 2 ^ t == 0) && decide (t < n)) = true → (pLs m n == pLs (m &&& (m - 1)) n ++ [t]) = true := by decide +kernel
  refine fun t ht hb hl n hn h7 => eq_of_beq (key m hm t ht n (by omega) ?_)
  rw [hb, decide_eq_true hn, Bool.true_and, Bool.and_true]
  refine beq_iff_eq.mpr (Nat.eq_of_testBit_eq fun i => ?_)
  rw [Nat.testBit_mod_two_pow, Nat.zero_testBit]
  by_cases e : i < t
  · rw [hl i e, Bool.and_false]
  · rw [decide_eq_false e, Bool.false_and]
section DP
variable {w : Nat → Nat → Nat → Prop} {L : List Nat} {nC p : Nat}
/-- what is weighed for a set of coats, behind so many sets and so many coats of the next -/
def dPq (w : Nat → Nat → Nat → Prop) (L : List Nat) (p i j S' v : Nat) : Prop := ∃ S c u x, (S < i ∨ (S = i ∧ c < j)) ∧ c < 6 ∧ zpc S = L.length ∧ S.testBit c = false ∧ S' = S ||| 2 ^ c ∧ w c p u ∧ Dy w L (fun d => S.testBit d = true) x ∧ v = x + u
theorem zk6_del : ∀ k, k < 64 → ∀ i, i < 6 → k.testBit i = true → (k &&& (63 ^^^ 2 ^ i)) < 64 ∧ (k &&& (63 ^^^ 2 ^ i)) < k ∧ (k &&& (63 ^^^ 2 ^ i)) ||| 2 ^ i = k ∧ (k &&& (63 ^^^ 2 ^ i)).testBit i = false ∧ zpc (k &&& (63 ^^^ 2 ^ i)) + 1 = zpc k ∧ ∀ j, j < 6 → (k &&& (63 ^^^ 2 ^ i)).testBit j = (k.testBit j && j != i) := by decide +kernel
theorem zpc_or6 : ∀ k, k < 64 → ∀ i, i < 6 → k.testBit i = false → zpc (k ||| 2 ^ i) = zpc k + 1 := by decide +kernel
theorem tb6c {k i : Nat} (hk : k < 64) (h : k.testBit i = true) : i < 6 := Classical.byContradiction fun z => by
  rw [Nat.testBit_lt_two_pow (Nat.lt_of_lt_of_le hk (Nat.pow_le_pow_right (n := 2) (i := 6) (by decide) (by omega)))] at h
  cases h
theorem dPq_end {S' v : Nat} (hS : S' < 64) (hn : nC ≤ 6) (hl : S' < 2 ^ nC) : dPq w L p (2 ^ nC) 0 S' v ↔ (zpc S' = L.length + 1 ∧ Dy w (p :: L) (fun d => S'.testBit d = true) v) := by
  constructor
  · rintro ⟨S, c, u, x, h1, h2, h3, h4, h5, h6, h7, h8⟩
    have hS6 : S < 64 := by
      have : S < 2 ^ nC := by omega
      exact Nat.lt_of_lt_of_le this (zp2 (n := 6) hn)
    refine ⟨by rw [h5, zpc_or6 S hS6 c h2 h4, h3], c, u, x, by rw [h5]; exact tb_or2.mpr (Or.inr rfl), h6, Dy_cg (fun d => ?_) h7, h8⟩
    rw [h5]
    constructor
    · exact fun a => ⟨tb_or2.mpr (Or.inl a), fun e => by rw [e, h4] at a; cases a⟩
    · exact fun ⟨a, b⟩ => (tb_or2.mp a).resolve_right b
  · rintro ⟨hz, c, u, x, h1, h2, h3, h4⟩
    have hc := tb6c hS h1
    obtain ⟨d1, d2, d3, d4, d5, d6⟩ := zk6_del S' hS c hc h1
    refine ⟨S' &&& (63 ^^^ 2 ^ c), c, u, x, Or.inl (Nat.lt_trans d2 hl), hc, by omega, d4, d3.symm, h2, Dy_cg (fun d => ?_) h3, h4⟩
    constructor
    · rintro ⟨a, b⟩
      rw [d6 d (tb6c hS a), a]
      simp [b]
    · intro a
      rw [d6 d (tb6c d1 a)] at a
      simp at a
      exact a
theorem dPq_0 {S' v : Nat} : ¬ dPq w L p 0 0 S' v := fun ⟨S, c, u, x, h, _⟩ => by omega
theorem dPq_next {i S' v : Nat} : dPq w L p i 6 S' v ↔ dPq w L p (i + 1) 0 S' v := exists_congr fun S => exists_congr fun c => exists_congr fun u => exists_congr fun x => ⟨fun ⟨a, b, k⟩ => ⟨by omega, b, k⟩, fun ⟨a, b, k⟩ => ⟨by omega, b, k⟩⟩
end DP
