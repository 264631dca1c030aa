/-! ===== sums, shares: what both sides reckon ===== -/
noncomputable def mite {α : Type} (P : Prop) (a b : α) : α := @ite α P (Classical.propDecidable P) a b
theorem mite_1 {α : Type} {P : Prop} {a b : α} (h : P) : mite P a b = a := if_pos h
theorem mite_0 {α : Type} {P : Prop} {a b : α} (h : ¬ P) : mite P a b = b := if_neg h
theorem mite_cg {α : Type} {P Q : Prop} {a b : α} (h : P ↔ Q) : mite P a b = mite Q a b := by
  rw [show P = Q from propext h]
/-- the first n together -/
def zsm (f : Nat → Int32) : Nat → Int32
  | 0 => nI 0
  | n + 1 => zsm f n + f n
theorem zsm_cg {f f' : Nat → Int32} : ∀ {n : Nat}, (∀ i, i < n → f i = f' i) → zsm f n = zsm f' n := by
  intro n
  induction n with
  | zero => exact fun _ => rfl
  | succ n ih =>
    intro h
    show zsm f n + f n = zsm f' n + f' n
    rw [ih (fun i hi => h i (by omega)), h n (Nat.lt_succ_self n)]
theorem zsm_s {f : Nat → Int32} {x w y : Int32} {i : Nat} (h : x = zsm f i) (e : w = x + y) (ey : y = f i) : w = zsm f (i + 1) := by
  rw [e, h, ey]
  rfl
/-- those of the first n that P names together -/
noncomputable def zss (f : Nat → Int32) (P : Nat → Prop) : Nat → Int32
  | 0 => nI 0
  | n + 1 => mite (P n) (zss f P n + f n) (zss f P n)
section ZSS
variable {f f' : Nat → Int32} {P P' : Nat → Prop} {x w y A A' am rest rest' : Int32} {i n b : Nat}
theorem zss_cg : ∀ {n : Nat}, (∀ i, i < n → f i = f' i) → (∀ i, i < n → (P i ↔ P' i)) → zss f P n = zss f' P' n := by
  intro n
  induction n with
  | zero => exact fun _ _ => rfl
  | succ n ih =>
    intro h g
    show mite (P n) (zss f P n + f n) (zss f P n) = mite (P' n) (zss f' P' n + f' n) (zss f' P' n)
    rw [ih (fun i hi => h i (by omega)) (fun i hi => g i (by omega)), h n (Nat.lt_succ_self n), mite_cg (g n (Nat.lt_succ_self n))]
theorem zss_1 (h : x = zss f P i) (hp : P i) (e : w = x + y) (ey : y = f i) : w = zss f P (i + 1) := by
  rw [e, h, ey]
  exact (mite_1 (α := Int32) hp).symm
theorem zss_0 (h : x = zss f P i) (hp : ¬ P i) : x = zss f P (i + 1) := by
  rw [h]
  exact (mite_0 (α := Int32) hp).symm
/-- what is left of an amount behind the first n shares -/
noncomputable def zLe (f : Nat → Int32) (P : Nat → Prop) (A am : Int32) : Nat → Int32
  | 0 => am
  | n + 1 => mite (P n) (zLe f P A am n - am * f n / A) (zLe f P A am n)
def zrst (x y : Int32) : Int32 := x - x / y * y
/-- one goes ahead: its rest is greater, or it is as great and its number smaller -/
def zAp (f : Nat → Int32) (A am rest : Int32) (b n : Nat) : Prop := rest < zrst (am * f n) A ∨ (zrst (am * f n) A = rest ∧ n < b)
noncomputable def zAh (f : Nat → Int32) (P : Nat → Prop) (A am rest : Int32) (b : Nat) : Nat → Nat
  | 0 => 0
  | n + 1 => mite (P n ∧ zAp f A am rest b n) (zAh f P A am rest b n + 1) (zAh f P A am rest b n)
theorem zAh_le : zAh f P A am rest b n ≤ n := by
  induction n with
  | zero => exact Nat.le_refl _
  | succ n ih =>
    show mite _ _ _ ≤ _
    rcases Classical.em (P n ∧ zAp f A am rest b n) with h | h
    · rw [mite_1 h]; omega
    · rw [mite_0 h]; omega
theorem zLe_0 (h : x = zLe f P A am i) (hp : ¬ P i) : x = zLe f P A am (i + 1) := by
  rw [h]
  exact (mite_0 (α := Int32) hp).symm
theorem zLe_1 (h : x = zLe f P A am i) (hp : P i) (e : w = x - am * f i / A) : w = zLe f P A am (i + 1) := by
  rw [e, h]
  exact (mite_1 (α := Int32) hp).symm
theorem zAh_0 {z : Nat} (h : z = zAh f P A am rest b i) (hp : ¬ (P i ∧ zAp f A am rest b i)) : z = zAh f P A am rest b (i + 1) := by
  rw [h]
  exact (mite_0 (α := Nat) hp).symm
theorem zAh_1 {z : Nat} (h : z = zAh f P A am rest b i) (hp : P i) (ha : zAp f A am rest b i) : z + 1 = zAh f P A am rest b (i + 1) := by
  rw [h]
  exact (mite_1 (α := Nat) ⟨hp, ha⟩).symm
/-- what player b has of an amount -/
noncomputable def zPo (f : Nat → Int32) (P : Nat → Prop) (n : Nat) (am : Int32) (b : Nat) : Int32 := mite (zss f P n = 0 ∨ ¬ P b) (nI 0) (am * f b / zss f P n + mite (nI (zAh f P (zss f P n) am (zrst (am * f b) (zss f P n)) b n) < zLe f P (zss f P n) am n) (nI 1) (nI 0))
theorem zLe_cg : ∀ {n : Nat}, (∀ i, i < n → f i = f' i) → (∀ i, i < n → (P i ↔ P' i)) → zLe f P A am n = zLe f' P' A am n := by
  intro n
  induction n with
  | zero => exact fun _ _ => rfl
  | succ n ih =>
    intro h g
    show mite (P n) (zLe f P A am n - am * f n / A) (zLe f P A am n) = mite (P' n) (zLe f' P' A am n - am * f' n / A) (zLe f' P' A am n)
    rw [ih (fun i hi => h i (by omega)) (fun i hi => g i (by omega)), h n (Nat.lt_succ_self n), mite_cg (g n (Nat.lt_succ_self n))]
theorem zAh_cg : ∀ {n : Nat}, (∀ i, i < n → f i = f' i) → (∀ i, i < n → (P i ↔ P' i)) → zAh f P A am rest b n = zAh f' P' A am rest b n := by
  intro n
  induction n with
  | zero => exact fun _ _ => rfl
  | succ n ih =>
    intro h g
    show mite (P n ∧ zAp f A am rest b n) (zAh f P A am rest b n + 1) (zAh f P A am rest b n) = mite (P' n ∧ zAp f' A am rest b n) (zAh f' P' A am rest b n + 1) (zAh f' P' A am rest b n)
    have e : zAp f A am rest b n ↔ zAp f' A am rest b n := by
      unfold zAp
      rw [h n (Nat.lt_succ_self n)]
    rw [ih (fun i hi => h i (by omega)) (fun i hi => g i (by omega)), mite_cg (Q := P' n ∧ zAp f' A am rest b n) (and_congr (g n (Nat.lt_succ_self n)) e)]
theorem zPo_cg (hb : b < n) (h : ∀ i, i < n → f i = f' i) (g : ∀ i, i < n → (P i ↔ P' i)) : zPo f P n am b = zPo f' P' n am b := by
  unfold zPo
  rw [zss_cg h g, h b hb, zLe_cg h g, zAh_cg h g, mite_cg (or_congr Iff.rfl (not_congr (g b hb)))]
end ZSS
/-- the first that has it, or none -/
def zFi (P : Nat → Prop) (n : Nat) (v : Option Value) : Prop := (v = some (.int (-1)) ∧ ∀ i, i < n → ¬ P i) ∨ ∃ x : Nat, x < n ∧ v = some (.int (nI x)) ∧ P x ∧ ∀ j, j < x → ¬ P j
theorem zal_s {P : Nat → Prop} {i : Nat} (h : ∀ j, j < i → ¬ P j) (hn : ¬ P i) : ∀ j, j < i + 1 → ¬ P j := fun j hj => (Nat.lt_succ_iff_lt_or_eq.mp hj).elim (h j) (fun e => by rw [e]; exact hn)
theorem zor0 (x : Int32) : x ||| nI 0 = x := by
  apply Int32.toBitVec_inj.mp
  simp only [Int32.toBitVec_or, nI_bv]
  simp
