/-! ===== casts: what a search for one finds ===== -/
noncomputable def mb (P : Prop) : Nat := @ite Nat P (Classical.propDecidable P) 1 0
theorem mb_1 {P : Prop} (h : P) : mb P = 1 := if_pos h
theorem mb_0 {P : Prop} (h : ¬ P) : mb P = 0 := if_neg h
theorem mb_le {P Q : Prop} (h : P → Q) : mb P ≤ mb Q := by
  rcases Classical.em P with p | p
  · rw [mb_1 p, mb_1 (h p)]; exact Nat.le_refl _
  · rw [mb_0 p]; exact Nat.zero_le _
theorem mb_cg {P Q : Prop} (h : P ↔ Q) : mb P = mb Q := Nat.le_antisymm (mb_le h.mp) (mb_le h.mpr)
/-- how many of the first five -/
noncomputable def mcn (P : Nat → Prop) : Nat := mb (P 0) + mb (P 1) + mb (P 2) + mb (P 3) + mb (P 4)
theorem mcn_le {P Q : Nat → Prop} (h : ∀ i, i < 5 → P i → Q i) : mcn P ≤ mcn Q := by
  have h0 := mb_le (h 0 (by decide))
  have h1 := mb_le (h 1 (by decide))
  have h2 := mb_le (h 2 (by decide))
  have h3 := mb_le (h 3 (by decide))
  have h4 := mb_le (h 4 (by decide))
  unfold mcn
  omega
theorem mcn_cg {P Q : Nat → Prop} (h : ∀ i, i < 5 → (P i ↔ Q i)) : mcn P = mcn Q := Nat.le_antisymm (mcn_le fun i hi => (h i hi).mp) (mcn_le fun i hi => (h i hi).mpr)
theorem mcn_top (P : Nat → Prop) : mcn P ≤ 5 := by
  have h : ∀ Q : Prop, mb Q ≤ 1 := fun Q => by
    rcases Classical.em Q with p | p
    · rw [mb_1 p]; exact Nat.le_refl _
    · rw [mb_0 p]; exact Nat.zero_le _
  have h0 := h (P 0)
  have h1 := h (P 1)
  have h2 := h (P 2)
  have h3 := h (P 3)
  have h4 := h (P 4)
  unfold mcn
  omega
theorem mcn_one {P Q : Nat → Prop} {j : Nat} (hj : j < 5) (hn : ¬ P j) (h : ∀ i, i < 5 → (Q i ↔ P i ∨ i = j)) : mcn Q = mcn P + 1 := by
  have e : ∀ i, i < 5 → i ≠ j → mb (Q i) = mb (P i) := fun i hi hij => mb_cg ((h i hi).trans ⟨fun q => q.resolve_right hij, Or.inl⟩)
  have ej : mb (Q j) = mb (P j) + 1 := by rw [mb_1 ((h j hj).mpr (Or.inr rfl)), mb_0 hn]
  unfold mcn
  rcases (show j = 0 ∨ j = 1 ∨ j = 2 ∨ j = 3 ∨ j = 4 by omega) with rfl | rfl | rfl | rfl | rfl
  · rw [ej, e 1 (by decide) (by decide), e 2 (by decide) (by decide), e 3 (by decide) (by decide), e 4 (by decide) (by decide)]; omega
  · rw [ej, e 0 (by decide) (by decide), e 2 (by decide) (by decide), e 3 (by decide) (by decide), e 4 (by decide) (by decide)]; omega
  · rw [ej, e 0 (by decide) (by decide), e 1 (by decide) (by decide), e 3 (by decide) (by decide), e 4 (by decide) (by decide)]; omega
  · rw [ej, e 0 (by decide) (by decide), e 1 (by decide) (by decide), e 2 (by decide) (by decide), e 4 (by decide) (by decide)]; omega
  · rw [ej, e 0 (by decide) (by decide), e 1 (by decide) (by decide), e 2 (by decide) (by decide), e 3 (by decide) (by decide)]; omega
/-- a way to go on: the parts of T are cast by g, those that are cast already stand in R, with so many more players -/
def mExt (pm cl : Nat → Nat → Prop) (T : List Nat) (R : Nat → Nat → Prop) (k : Nat) (g : Nat → Nat) : Prop :=
  (∀ p, p ∈ T → g p < 5 ∧ pm (g p) p ∧ ∀ q, R (g p) q → ¬ cl p q) ∧ (∀ p, p ∈ T → ∀ q, q ∈ T → p ≠ q → g p = g q → ¬ cl p q) ∧ mcn (fun i => (∀ q, ¬ R i q) ∧ ∃ p, p ∈ T ∧ g p = i) ≤ k
def mAdd (R : Nat → Nat → Prop) (i p : Nat) : Nat → Nat → Prop := fun a b => R a b ∨ (a = i ∧ b = p)
/-- 1, where the player has nothing yet -/
noncomputable def mFr (R : Nat → Nat → Prop) (i : Nat) : Nat := mb (∀ q, ¬ R i q)
section MEXT
variable {pm cl : Nat → Nat → Prop} {T : List Nat} {R : Nat → Nat → Prop} {k p : Nat} {g h : Nat → Nat}
theorem mExt_cg (e : ∀ p, p ∈ T → g p = h p) (hx : mExt pm cl T R k g) : mExt pm cl T R k h := by
  obtain ⟨h1, h2, h3⟩ := hx
  refine ⟨fun p hp => ?_, fun p hp q hq hpq he => ?_, ?_⟩
  · rw [← e p hp]; exact h1 p hp
  · rw [← e p hp, ← e q hq] at he
    exact h2 p hp q hq hpq he
  · refine Nat.le_trans (mcn_le fun i _ hi => ?_) h3
    obtain ⟨a, p, hp, hg⟩ := hi
    exact ⟨a, p, hp, (e p hp).trans hg⟩
theorem mcn_cons (hp : p ∉ T) (hg : g p < 5) : mcn (fun i => (∀ q, ¬ R i q) ∧ ∃ p', p' ∈ p :: T ∧ g p' = i) = mcn (fun i => (∀ q, ¬ mAdd R (g p) p i q) ∧ ∃ p', p' ∈ T ∧ g p' = i) + mFr R (g p) := by
  have key : ∀ i, i ≠ g p → (((∀ q, ¬ R i q) ∧ ∃ p', p' ∈ p :: T ∧ g p' = i) ↔ ((∀ q, ¬ mAdd R (g p) p i q) ∧ ∃ p', p' ∈ T ∧ g p' = i)) := fun i hi => by
    constructor
    · rintro ⟨a, p', hp', e⟩
      refine ⟨fun q hq => hq.elim (a q) (fun z => hi z.1), p', ?_, e⟩
      rcases List.mem_cons.mp hp' with z | z
      · subst z; exact absurd e.symm hi
      · exact z
    · rintro ⟨a, p', hp', e⟩
      exact ⟨fun q hq => a q (Or.inl hq), p', List.mem_cons_of_mem _ hp', e⟩
  have hno : ¬ ((∀ q, ¬ mAdd R (g p) p (g p) q) ∧ ∃ p', p' ∈ T ∧ g p' = g p) := fun z => z.1 p (Or.inr ⟨rfl, rfl⟩)
  rcases Classical.em (∀ q, ¬ R (g p) q) with hf | hf
  · unfold mFr
    rw [mb_1 hf]
    refine mcn_one hg hno fun i _ => ?_
    by_cases hi : i = g p
    · subst hi
      exact ⟨fun _ => Or.inr rfl, fun _ => ⟨hf, p, List.mem_cons_self, rfl⟩⟩
    · exact (key i hi).trans ⟨Or.inl, fun z => z.resolve_right hi⟩
  · unfold mFr
    rw [mb_0 hf, Nat.add_zero]
    refine mcn_cg fun i _ => ?_
    by_cases hi : i = g p
    · subst hi
      exact ⟨fun z => absurd z.1 hf, fun z => absurd z hno⟩
    · exact key i hi
theorem mExt_cons (hs : ∀ p q, cl p q → cl q p) (hp : p ∉ T) : mExt pm cl (p :: T) R k g ↔ g p < 5 ∧ pm (g p) p ∧ (∀ q, R (g p) q → ¬ cl p q) ∧ mFr R (g p) ≤ k ∧ mExt pm cl T (mAdd R (g p) p) (k - mFr R (g p)) g := by
  have ne : ∀ q, q ∈ T → q ≠ p := fun q hq e => hp (e ▸ hq)
  constructor
  · rintro ⟨h1, h2, h3⟩
    obtain ⟨a1, a2, a3⟩ := h1 p List.mem_cons_self
    rw [mcn_cons hp a1] at h3
    refine ⟨a1, a2, a3, by omega, fun q hq => ?_, fun q hq q' hq' => h2 q (List.mem_cons_of_mem _ hq) q' (List.mem_cons_of_mem _ hq'), by omega⟩
    obtain ⟨b1, b2, b3⟩ := h1 q (List.mem_cons_of_mem _ hq)
    refine ⟨b1, b2, fun z hz => ?_⟩
    rcases hz with hz | ⟨e1, e2⟩
    · exact b3 z hz
    · subst e2
      exact h2 q (List.mem_cons_of_mem _ hq) z List.mem_cons_self (ne q hq) e1
  · rintro ⟨a1, a2, a3, a4, h1, h2, h3⟩
    have pq : ∀ q, q ∈ T → g q = g p → ¬ cl q p := fun q hq e => (h1 q hq).2.2 p (Or.inr ⟨e, rfl⟩)
    refine ⟨fun q hq => ?_, fun q hq q' hq' hn e => ?_, ?_⟩
    · rcases List.mem_cons.mp hq with z | z
      · subst z; exact ⟨a1, a2, a3⟩
      · obtain ⟨b1, b2, b3⟩ := h1 q z
        exact ⟨b1, b2, fun y hy => b3 y (Or.inl hy)⟩
    · rcases List.mem_cons.mp hq with z | z
      · rcases List.mem_cons.mp hq' with y | y
        · exact absurd (z.trans y.symm) hn
        · subst z
          exact fun c => pq q' y e.symm (hs _ _ c)
      · rcases List.mem_cons.mp hq' with y | y
        · subst y
          exact pq q z e
        · exact h2 q z q' y hn e
    · rw [mcn_cons hp a1]
      omega
/-- g comes no later than h -/
def mLex (g h : Nat → Nat) : List Nat → Prop
  | [] => True
  | p :: T => g p < h p ∨ (g p = h p ∧ mLex g h T)
def mFirst (pm cl : Nat → Nat → Prop) (T : List Nat) (R : Nat → Nat → Prop) (k : Nat) (g : Nat → Nat) : Prop := mExt pm cl T R k g ∧ ∀ h, mExt pm cl T R k h → mLex g h T
theorem mLex_cg {g' : Nat → Nat} (e : ∀ p, p ∈ T → g p = g' p) (hl : mLex g h T) : mLex g' h T := by
  induction T with
  | nil => trivial
  | cons p T ih =>
    have ep := e p List.mem_cons_self
    rcases hl with hl | ⟨a, b⟩
    · exact Or.inl (by omega)
    · exact Or.inr ⟨by omega, ih (fun q hq => e q (List.mem_cons_of_mem _ hq)) b⟩
theorem mLex_eq (h1 : mLex g h T) (h2 : mLex h g T) : ∀ p, p ∈ T → g p = h p := by
  induction T with
  | nil => exact fun p hp => absurd hp List.not_mem_nil
  | cons p T ih =>
    have e : g p = h p := by
      rcases h1 with a | ⟨a, -⟩
      · rcases h2 with b | ⟨b, -⟩ <;> omega
      · exact a
    have t1 : mLex g h T := by
      rcases h1 with a | ⟨-, a⟩
      · omega
      · exact a
    have t2 : mLex h g T := by
      rcases h2 with a | ⟨-, a⟩
      · omega
      · exact a
    intro q hq
    rcases List.mem_cons.mp hq with z | z
    · subst z; exact e
    · exact ih t1 t2 q z
theorem mFirst_uniq (h1 : mFirst pm cl T R k g) (h2 : mFirst pm cl T R k h) : ∀ p, p ∈ T → g p = h p := mLex_eq (h1.2 h h2.1) (h2.2 g h1.1)
theorem mFirst_nil : mFirst pm cl [] R k g := ⟨⟨fun p hp => absurd hp List.not_mem_nil, fun p hp => absurd hp List.not_mem_nil, by
  have : mcn (fun i => (∀ q, ¬ R i q) ∧ ∃ p, p ∈ [] ∧ g p = i) = 0 := by
    have h0 : ∀ i, mb ((∀ q, ¬ R i q) ∧ ∃ p, p ∈ ([] : List Nat) ∧ g p = i) = 0 := fun i => mb_0 fun z => by
      obtain ⟨-, p, hp, -⟩ := z
      exact List.not_mem_nil hp
    unfold mcn
    rw [h0, h0, h0, h0, h0]
  rw [this]
  exact Nat.zero_le _⟩, fun _ _ => trivial⟩
/-- the players before i can't go on with p -/
def mNo (pm cl : Nat → Nat → Prop) (T : List Nat) (R : Nat → Nat → Prop) (k p i : Nat) : Prop := ∀ h, mExt pm cl (p :: T) R k h → i ≤ h p
theorem mNo_0 : mNo pm cl T R k p 0 := fun _ _ => Nat.zero_le _
theorem mNo_5 (hn : mNo pm cl T R k p 5) : ∀ h, ¬ mExt pm cl (p :: T) R k h := fun h hx => by
  have a := hn h hx
  have b := (hx.1 p List.mem_cons_self).1
  omega
theorem mNo_s {i : Nat} (hs : ∀ p q, cl p q → cl q p) (hp : p ∉ T) (hn : mNo pm cl T R k p i) (hc : ¬ (pm i p ∧ (∀ q, R i q → ¬ cl p q) ∧ mFr R i ≤ k ∧ ∃ g, mExt pm cl T (mAdd R i p) (k - mFr R i) g)) : mNo pm cl T R k p (i + 1) := fun h hx => by
  have a := hn h hx
  rcases Nat.eq_or_lt_of_le a with e | e
  · subst e
    obtain ⟨-, b1, b2, b3, b4⟩ := (mExt_cons hs hp).mp hx
    exact absurd ⟨b1, b2, b3, h, b4⟩ hc
  · exact e
theorem mFirst_cons {i : Nat} (hs : ∀ p q, cl p q → cl q p) (hp : p ∉ T) (hi : i < 5) (hn : mNo pm cl T R k p i) (c1 : pm i p) (c2 : ∀ q, R i q → ¬ cl p q) (c3 : mFr R i ≤ k) (hf : mFirst pm cl T (mAdd R i p) (k - mFr R i) g) : mFirst pm cl (p :: T) R k (fun q => if q = p then i else g q) := by
  have ne : ∀ q, q ∈ T → q ≠ p := fun q hq e => hp (e ▸ hq)
  obtain ⟨g', hg⟩ : ∃ g' : Nat → Nat, g' = fun q => if q = p then i else g q := ⟨_, rfl⟩
  rw [← hg]
  have e0 : g' p = i := by rw [hg]; exact if_pos rfl
  have eT : ∀ q, q ∈ T → g q = g' q := fun q hq => by rw [hg]; exact (if_neg (ne q hq)).symm
  refine ⟨(mExt_cons hs hp).mpr ?_, fun h hx => ?_⟩
  · rw [e0]
    exact ⟨hi, c1, c2, c3, mExt_cg eT hf.1⟩
  · have a := hn h hx
    show g' p < h p ∨ (g' p = h p ∧ _)
    rw [e0]
    rcases Nat.eq_or_lt_of_le a with e | e
    · refine Or.inr ⟨e, mLex_cg eT (hf.2 h ?_)⟩
      have := ((mExt_cons hs hp).mp hx).2.2.2.2
      rw [← e] at this
      exact this
    · exact Or.inl e
theorem cpf_ro {i j : Nat} (hn : p ∉ T) : ∀ q, (mAdd R j p i q ∨ (q ∈ T ∧ h q = i)) ↔ (R i q ∨ (q ∈ p :: T ∧ (fun z => if z = p then j else h z) q = i)) := fun q => by
  have ne : q ∈ T → q ≠ p := fun hq e => hn (e ▸ hq)
  constructor
  · rintro ((a | ⟨rfl, rfl⟩) | ⟨a, b⟩)
    · exact Or.inl a
    · exact Or.inr ⟨List.mem_cons_self, if_pos rfl⟩
    · exact Or.inr ⟨List.mem_cons_of_mem _ a, (if_neg (ne a)).trans b⟩
  · rintro (a | ⟨a, b⟩)
    · exact Or.inl (Or.inl a)
    · by_cases e : q = p
      · subst e
        exact Or.inl (Or.inr ⟨((if_pos rfl).symm.trans b).symm, rfl⟩)
      · exact Or.inr ⟨(List.mem_cons.mp a).resolve_left e, (if_neg e).symm.trans b⟩
/-- the due parts can be cast with so many players -/
def mFit (pm cl : Nat → Nat → Prop) (due : Nat → Prop) (k : Nat) : Prop := ∃ g : Nat → Nat, (∀ p, due p → g p < 5 ∧ pm (g p) p) ∧ (∀ p q, due p → due q → p ≠ q → g p = g q → ¬ cl p q) ∧ mcn (fun i => ∃ p, due p ∧ g p = i) ≤ k
theorem mFit_mono {due : Nat → Prop} {a b : Nat} (hab : a ≤ b) (hf : mFit pm cl due a) : mFit pm cl due b := by
  obtain ⟨g, h1, h2, h3⟩ := hf
  exact ⟨g, h1, h2, by omega⟩
theorem mFit_ext {due : Nat → Prop} (hL : ∀ p, p ∈ T ↔ due p) : (∃ g, mExt pm cl T (fun _ _ => False) k g) ↔ mFit pm cl due k := by
  have c : ∀ g : Nat → Nat, mcn (fun i => (∀ q : Nat, ¬ False) ∧ ∃ p, p ∈ T ∧ g p = i) = mcn (fun i => ∃ p, due p ∧ g p = i) := fun g => mcn_cg fun i _ => ⟨fun ⟨_, p, a, b⟩ => ⟨p, (hL p).mp a, b⟩, fun ⟨p, a, b⟩ => ⟨fun _ => id, p, (hL p).mpr a, b⟩⟩
  constructor
  · rintro ⟨g, h1, h2, h3⟩
    refine ⟨g, fun p hp => ?_, fun p q hp hq => h2 p ((hL p).mpr hp) q ((hL q).mpr hq), by rw [c g] at h3; exact h3⟩
    obtain ⟨a, b, -⟩ := h1 p ((hL p).mpr hp)
    exact ⟨a, b⟩
  · rintro ⟨g, h1, h2, h3⟩
    refine ⟨g, fun p hp => ?_, fun p hp q hq => h2 p q ((hL p).mp hp) ((hL q).mp hq), by rw [c g]; exact h3⟩
    obtain ⟨a, b⟩ := h1 p ((hL p).mp hp)
    exact ⟨a, b, fun _ => False.elim⟩
/-- no more players than there are that can play -/
theorem mFit_top {due : Nat → Prop} {n : Nat} (hn : n ≤ 5) (hpm : ∀ i p, pm i p → i < n) (hf : mFit pm cl due 5) : mFit pm cl due n := by
  obtain ⟨g, h1, h2, -⟩ := hf
  refine ⟨g, h1, h2, Nat.le_trans (mcn_le (Q := fun i => i < n) fun i _ hi => ?_) ?_⟩
  · obtain ⟨p, hp, e⟩ := hi
    rw [← e]
    exact hpm _ _ (h1 p hp).2
  · have hq : ∀ m : Nat, mb (m < n) = if m < n then 1 else 0 := fun m => by
      by_cases h : m < n
      · rw [mb_1 h, if_pos h]
      · rw [mb_0 h, if_neg h]
    unfold mcn
    rw [hq, hq, hq, hq, hq]
    rcases (show n = 0 ∨ n = 1 ∨ n = 2 ∨ n = 3 ∨ n = 4 ∨ n = 5 by omega) with rfl | rfl | rfl | rfl | rfl | rfl <;> decide
end MEXT
/-- the fewest, or none -/
def mFew (P : Nat → Prop) (v : Int32) : Prop := (v = -1 ∧ ¬ P 5) ∨ ∃ k, k ≤ 5 ∧ v = nI k ∧ P k ∧ ∀ j, j < k → ¬ P j
theorem mFew_uniq {P : Nat → Prop} (hm : ∀ a b, a ≤ b → P a → P b) {v w : Int32} (h1 : mFew P v) (h2 : mFew P w) : v = w := by
  rcases h1 with ⟨rfl, a⟩ | ⟨k, b1, rfl, b2, b3⟩
  · rcases h2 with ⟨rfl, -⟩ | ⟨k, c1, -, c2, -⟩
    · rfl
    · exact absurd (hm _ _ c1 c2) a
  · rcases h2 with ⟨-, a⟩ | ⟨j, c1, rfl, c2, c3⟩
    · exact absurd (hm _ _ b1 b2) a
    · have : k = j := by
        rcases Nat.lt_trichotomy k j with h | h | h
        · exact absurd b2 (c3 k h)
        · exact h
        · exact absurd c2 (b3 j h)
      rw [this]
theorem mFew_cg {P Q : Nat → Prop} (h : ∀ k, P k ↔ Q k) {v : Int32} (hf : mFew P v) : mFew Q v := by
  rcases hf with ⟨a, b⟩ | ⟨k, a, b, c, d⟩
  · exact Or.inl ⟨a, fun q => b ((h 5).mpr q)⟩
  · exact Or.inr ⟨k, a, b, (h k).mp c, fun j hj q => d j hj ((h j).mpr q)⟩
