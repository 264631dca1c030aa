/-! ===== filling, as the reference looks for it: others give way ===== -/
/-- who has which part: players that can play it, no two the same -/
def kV (N : Nat → Nat) (F : Nat → Nat → Int32) (fo : Nat → Int32) : Prop := ∀ i, i < 5 → fo i = -1 ∨ ∃ p, p < N 0 ∧ fo i = nI p ∧ i < N 1 ∧ zPl F i p
def kJ (fo : Nat → Int32) : Prop := ∀ i j, i < 5 → j < 5 → fo i = fo j → ¬ fo i = -1 → i = j
/-- behind the players before n nobody gives way for q -/
def kG (N : Nat → Nat) (F : Nat → Nat → Int32) (fo ft ft' : Nat → Int32) (q n : Nat) : Prop := (∀ i, i < 5 → ¬ ft i = 0 → ¬ ft' i = 0) ∧ (∀ i, i < n → i < N 1 → zPl F i q → ¬ ft' i = 0) ∧ ∀ j, j < 5 → ¬ ft' j = 0 → ft j = 0 → ∃ r, r < N 0 ∧ fo j = nI r ∧ ∀ i, i < N 1 → zPl F i r → ¬ ft' i = 0
/-- q has found a player -/
def kS (N : Nat → Nat) (F : Nat → Nat → Int32) (fo fo' ft : Nat → Int32) (q : Nat) : Prop := (∀ i, i < 5 → ¬ ft i = 0 → fo' i = fo i) ∧ kV N F fo' ∧ (∃ j, j < 5 ∧ fo j = -1 ∧ ¬ fo' j = -1 ∧ ∀ i, i < 5 → i ≠ j → (fo' i = -1 ↔ fo i = -1)) ∧ (∀ i i', i < 5 → i' < 5 → i ≠ i' → fo' i = fo' i' → ¬ fo' i = -1 → fo' i = nI q ∧ ((ft i = 0 ∧ ¬ ft i' = 0) ∨ (¬ ft i = 0 ∧ ft i' = 0))) ∧ ∀ i, i < 5 → ft i = 0 → fo' i = -1 ∨ fo' i = nI q ∨ ∃ i2, i2 < 5 ∧ ft i2 = 0 ∧ fo' i = fo i2
section KUHN
variable {N : Nat → Nat} {F : Nat → Nat → Int32} {fo fo' fo1 ft ft' ft1 : Nat → Int32} {q r i n : Nat} {y : Int32}
theorem kV.val (h : kV N F fo) : zVal N fo := fun i hi => (h i hi).imp id fun ⟨p, a, b, _⟩ => ⟨p, a, b⟩
theorem kV.set (h : kV N F fo) (hi : i < 5) (hq : q < N 0) (h1 : i < N 1) (hp : zPl F i q) : kV N F (upd fo i (nI q)) := fun j hj => by
  by_cases e : j = i
  · subst e
    rw [pk_us]
    exact Or.inr ⟨q, hq, rfl, h1, hp⟩
  · rw [pk_un e]
    exact h j hj
theorem kG_0 : kG N F fo ft ft q 0 := ⟨fun _ _ => id, fun i hi => absurd hi (Nat.not_lt_zero i), fun j _ a b => absurd b a⟩
theorem kG_no (h : kG N F fo ft ft' q n) (hn : ¬ (zPl F n q ∧ ft' n = 0)) : kG N F fo ft ft' q (n + 1) := ⟨h.1, fun i hi h1 hp => by
  rcases Nat.lt_succ_iff_lt_or_eq.mp hi with k | k
  · exact h.2.1 i k h1 hp
  · subst k
    exact fun e => hn ⟨hp, e⟩, h.2.2⟩
theorem kG_fail (b1 : N 1 ≤ 5) (h : kG N F fo ft ft' q n) (h5 : n < 5) (hr : r < N 0) (hf : fo n = nI r) (hy : ¬ y = 0) (hc : kG N F fo (upd ft' n y) ft1 r (N 1)) : kG N F fo ft ft1 q (n + 1) := by
  have up : ∀ i, i < 5 → ¬ ft' i = 0 → ¬ ft1 i = 0 := fun i hi z => hc.1 i hi (by
    by_cases e : i = n
    · subst e
      rw [pk_us]
      exact hy
    · rw [pk_un e]
      exact z)
  have at1 : ¬ ft1 n = 0 := hc.1 n h5 (by rw [pk_us]; exact hy)
  refine ⟨fun i hi z => up i hi (h.1 i hi z), fun i hi h1 hp => ?_, fun j hj z z0 => ?_⟩
  · rcases Nat.lt_succ_iff_lt_or_eq.mp hi with k | k
    · exact up i (by omega) (h.2.1 i k h1 hp)
    · subst k
      exact at1
  · by_cases e : j = n
    · subst e
      exact ⟨r, hr, hf, fun i h1 hp => hc.2.1 i h1 h1 hp⟩
    · by_cases e0 : ft' j = 0
      · exact hc.2.2 j hj z (by rw [pk_un e]; exact e0)
      · obtain ⟨s, a, b, c⟩ := h.2.2 j hj e0 z0
        exact ⟨s, a, b, fun i h1 hp => up i (by omega) (c i h1 hp)⟩
theorem kS_free (hq7 : q < 2 ^ 31) (hv : kV N F fo) (hj : kJ fo) (hq : ∀ i, i < 5 → fo i = nI q → ¬ ft i = 0) (h5 : n < 5) (hqN : q < N 0) (h1 : n < N 1) (hp : zPl F n q) (h0 : ft n = 0) (hf : fo n = -1) : kS N F fo (upd fo n (nI q)) ft q := by
  have hne : ¬ nI q = -1 := znm1 hq7
  refine ⟨fun i hi z => ?_, hv.set h5 hqN h1 hp, ⟨n, h5, hf, by rw [pk_us]; exact hne, fun i hi e => by rw [pk_un e]⟩, fun i i' hi hi' ne e en => ?_, fun i hi z => ?_⟩
  · by_cases e : i = n
    · subst e
      exact absurd h0 z
    · rw [pk_un e]
  · by_cases e1 : i = n
    · subst e1
      rw [pk_us, pk_un (fun z => ne z.symm)] at e
      rw [pk_us]
      exact ⟨rfl, Or.inl ⟨h0, hq i' hi' e.symm⟩⟩
    · by_cases e2 : i' = n
      · subst e2
        rw [pk_us, pk_un e1] at e
        rw [pk_un e1]
        exact ⟨e, Or.inr ⟨hq i hi e, h0⟩⟩
      · rw [pk_un e1, pk_un e2] at e
        rw [pk_un e1] at en
        exact absurd (hj i i' hi hi' e en) ne
  · by_cases e : i = n
    · subst e
      rw [pk_us]
      exact Or.inr (Or.inl rfl)
    · rw [pk_un e]
      exact Or.inr (Or.inr ⟨i, hi, z, rfl⟩)
/-- who has r gives way for q, r has found another -/
theorem kS_way (hq7 : q < 2 ^ 31 ∧ r < 2 ^ 31) (hv : kV N F fo) (hj : kJ fo) (hq : ∀ i, i < 5 → fo i = nI q → ¬ ft i = 0) (hG : kG N F fo ft ft' q n) (h5 : n < 5) (hqN : q < N 0) (h1 : n < N 1) (hp : zPl F n q) (h0 : ft' n = 0) (hf : fo n = nI r) (hy : ¬ y = 0) (hc : kS N F fo fo1 (upd ft' n y) r) : kS N F fo (upd fo1 n (nI q)) ft q := by
  obtain ⟨ca, cb, ⟨j, j5, jf, jn, jo⟩, cd, ce⟩ := hc
  have hne : ¬ nI q = -1 := znm1 hq7.1
  have hrne : ¬ nI r = -1 := znm1 hq7.2
  have t0 : ft n = 0 := Classical.byContradiction fun z => hG.1 n h5 z h0
  have jn' : j ≠ n := fun e => hrne (hf.symm.trans (e ▸ jf))
  have tr : ∀ i, i < 5 → i ≠ n → (upd ft' n y i = 0 ↔ ft' i = 0) := fun i _ e => by rw [pk_un e]
  have ftm : ∀ i, i < 5 → ¬ ft i = 0 → ¬ upd ft' n y i = 0 := fun i hi z => by
    by_cases e : i = n
    · subst e
      exact absurd t0 z
    · rw [pk_un e]
      exact hG.1 i hi z
  have rq : r ≠ q := fun e => hq n h5 (e ▸ hf) t0
  refine ⟨fun i hi z => ?_, cb.set h5 hqN h1 hp, ⟨j, j5, jf, by rw [pk_un jn']; exact jn, fun i hi e => ?_⟩, fun i i' hi hi' ne e en => ?_, fun i hi z => ?_⟩
  · by_cases e : i = n
    · subst e
      exact absurd t0 z
    · rw [pk_un e]
      exact ca i hi (ftm i hi z)
  · by_cases e' : i = n
    · subst e'
      rw [pk_us, hf]
      exact ⟨fun z => absurd z hne, fun z => absurd z hrne⟩
    · rw [pk_un e']
      exact jo i hi e
  · -- one that has q elsewhere was tried before
    have old : ∀ k, k < 5 → k ≠ n → fo1 k = nI q → ¬ ft k = 0 := fun k hk kn ek => by
      rcases Classical.em (upd ft' n y k = 0) with z | z
      · rcases ce k hk z with a | a | ⟨i2, a, b, c⟩
        · exact absurd (ek.symm.trans a) hne
        · exact absurd ((nI_eq hq7.1 hq7.2).mp (ek.symm.trans a)).symm rq
        · exact absurd b (ftm i2 a (hq i2 a (c.symm.trans ek)))
      · rw [ca k hk z] at ek
        exact hq k hk ek
    by_cases e1 : i = n
    · subst e1
      rw [pk_us, pk_un (fun z => ne z.symm)] at e
      rw [pk_us]
      exact ⟨rfl, Or.inl ⟨t0, old i' hi' (fun z => ne z.symm) e.symm⟩⟩
    · by_cases e2 : i' = n
      · subst e2
        rw [pk_us, pk_un e1] at e
        rw [pk_un e1]
        exact ⟨e, Or.inr ⟨old i hi e1 e, t0⟩⟩
      · rw [pk_un e1, pk_un e2] at e
        rw [pk_un e1] at en
        obtain ⟨er, tt⟩ := cd i i' hi hi' ne e en
        -- one of them was tried: it has r still, and that is n
        have key : ∀ k, k < 5 → k ≠ n → fo1 k = nI r → ¬ upd ft' n y k = 0 → False := fun k hk kn ek z => by
          rw [ca k hk z] at ek
          exact kn (hj k n hk h5 (ek.trans hf.symm) (by rw [ek]; exact hrne))
        rcases tt with ⟨_, z⟩ | ⟨z, _⟩
        · exact (key i' hi' e2 (e.symm.trans er) z).elim
        · exact (key i hi e1 er z).elim
  · by_cases e : i = n
    · subst e
      rw [pk_us]
      exact Or.inr (Or.inl rfl)
    · rw [pk_un e]
      rcases Classical.em (upd ft' n y i = 0) with zz | zz
      · rcases ce i hi zz with a | a | ⟨i2, a, b, c⟩
        · exact Or.inl a
        · exact Or.inr (Or.inr ⟨n, h5, t0, a.trans hf.symm⟩)
        · exact Or.inr (Or.inr ⟨i2, a, Classical.byContradiction fun k => (ftm i2 a k) b, c⟩)
      · rw [ca i hi zz]
        exact Or.inr (Or.inr ⟨i, hi, z, rfl⟩)
/-- the players that have a part of the set's first ones, and that they are the most -/
def kM (N : Nat → Nat) (F : Nat → Nat → Int32) (m : Nat) (fo : Nat → Int32) (i many : Nat) : Prop := kV N F fo ∧ kJ fo ∧ (∀ j p, j < 5 → p < N 0 → fo j = nI p → p < i ∧ m.testBit p = true) ∧ many = mcn (fun j => j < 5 ∧ ¬ fo j = -1) ∧ MxK (fun i p => i < N 1 ∧ zPl F i p) (fun q => q < i ∧ m.testBit q = true) many
theorem kM_0 {m : Nat} (b0 : N 0 ≤ 7) (h : ∀ i, i < 5 → fo i = -1) : kM N F m fo 0 0 := ⟨fun i hi => Or.inl (h i hi), fun i j hi _ _ z => absurd (h i hi) z, fun j p hj hp e => absurd (e.symm.trans (h j hj)) (znm1 (by omega)), (mcn_0 fun j ⟨a, b⟩ => b (h j a)).symm, MxK_0 fun q z => Nat.not_lt_zero q z.1⟩
theorem kM_no {m many : Nat} (h : kM N F m fo i many) (hb : ¬ m.testBit i = true) : kM N F m fo (i + 1) many := by
  obtain ⟨a, b, c, d, e⟩ := h
  refine ⟨a, b, fun j p hj hp e => ⟨by have := (c j p hj hp e).1; omega, (c j p hj hp e).2⟩, d, MxK_cg (fun q => ⟨fun z => ⟨by omega, z.2⟩, fun z => ⟨?_, z.2⟩⟩) (fun _ _ _ => Iff.rfl) e⟩
  by_cases k : q = i
  · subst k
    exact absurd z.2 hb
  · omega
theorem zAi {m : Nat} (hb : m.testBit i = true) : (q < i ∧ m.testBit q = true) ∨ q = i ↔ q < i + 1 ∧ m.testBit q = true := by
  constructor
  · rintro (⟨a, b⟩ | rfl)
    · exact ⟨by omega, b⟩
    · exact ⟨by omega, hb⟩
  · rintro ⟨a, b⟩
    by_cases k : q = i
    · exact Or.inr k
    · exact Or.inl ⟨by omega, b⟩
theorem kM_fail {m many : Nat} (b0 : N 0 ≤ 7) (b1 : N 1 ≤ 5) (h : kM N F m fo i many) (hb : m.testBit i = true) (hG : kG N F fo (fun _ => 0) ft' i (N 1)) : kM N F m fo (i + 1) many := by
  obtain ⟨a, b, c, d, e⟩ := h
  refine ⟨a, b, fun j p hj hp e => ⟨by have := (c j p hj hp e).1; omega, (c j p hj hp e).2⟩, d, MxK_cg (fun q => zAi hb) (fun _ _ _ => Iff.rfl) (MxK_fail (p := i) (T := fun j => j < 5 ∧ ¬ ft' j = 0) (f := fun j => (fo j).toNatClampNeg) e (fun j hj => ?_) (fun k hk => ⟨by have := hk.1; omega, hG.2.1 k hk.1 hk.1 hk.2⟩))⟩
  obtain ⟨r, hr, fr, cl⟩ := hG.2.2 j hj.1 hj.2 rfl
  have er : (fo j).toNatClampNeg = r := by rw [fr, nI_clamp (by omega)]
  rcases a j hj.1 with z | ⟨p, hp, fp, h1, pl⟩
  · exact absurd (fr.symm.trans z) (znm1 (by omega))
  · have : p = r := (nI_eq (by omega) (by omega)).mp (fp.symm.trans fr)
    subst this
    refine ⟨?_, ?_, ?_⟩
    · show j < 5 ∧ (((fo j).toNatClampNeg < i ∧ _) ∧ j < N 1 ∧ zPl F j (fo j).toNatClampNeg)
      rw [er]
      exact ⟨hj.1, c j p hj.1 hp fp, h1, pl⟩
    · intro k hk
      have hk : k < N 1 ∧ zPl F k (fo j).toNatClampNeg := hk
      rw [er] at hk
      exact ⟨by have := hk.1; omega, cl k hk.1 hk.2⟩
    · intro k hk e2
      have e2 : (fo k).toNatClampNeg = (fo j).toNatClampNeg := e2
      obtain ⟨s, hs, fs, -⟩ := hG.2.2 k hk.1 hk.2 rfl
      rw [er, fs, nI_clamp (by omega)] at e2
      subst e2
      exact b k j hk.1 hj.1 (fs.trans fr.symm) (by rw [fs]; exact znm1 (by omega))
theorem kM_yes {m many : Nat} (b0 : N 0 ≤ 7) (h : kM N F m fo i many) (hi : i < N 0) (hb : m.testBit i = true) (hS : kS N F fo fo' (fun _ => 0) i) : kM N F m fo' (i + 1) (many + 1) := by
  obtain ⟨a, b, c, d, e⟩ := h
  obtain ⟨-, sb, ⟨j, j5, jf, jn, jo⟩, sd, se⟩ := hS
  have inj : kJ fo' := fun k l hk hl e0 en => Classical.byContradiction fun ne => by
    rcases (sd k l hk hl ne e0 en).2 with ⟨_, z⟩ | ⟨z, _⟩
    · exact z rfl
    · exact z rfl
  have A' : ∀ k p, k < 5 → p < N 0 → fo' k = nI p → p < i + 1 ∧ m.testBit p = true := fun k p hk hp ek => by
    rcases se k hk rfl with z | z | ⟨l, hl, -, z⟩
    · exact absurd (ek.symm.trans z) (znm1 (by omega))
    · have : p = i := (nI_eq (by omega) (by omega)).mp (ek.symm.trans z)
      subst this
      exact ⟨Nat.lt_succ_self _, hb⟩
    · have := c l p hl hp (z.symm.trans ek)
      exact ⟨by omega, this.2⟩
  have cnt : mcn (fun k => k < 5 ∧ ¬ fo' k = -1) = many + 1 := by
    rw [d]
    refine mcn_one j5 (fun z => z.2 jf) fun k hk => ?_
    by_cases e0 : k = j
    · subst e0
      exact ⟨fun _ => Or.inr rfl, fun _ => ⟨hk, jn⟩⟩
    · constructor
      · exact fun z => Or.inl ⟨hk, fun y => z.2 ((jo k hk e0).mpr y)⟩
      · exact fun z => ⟨hk, fun y => (z.resolve_right e0).2 ((jo k hk e0).mp y)⟩
  refine ⟨sb, inj, A', cnt.symm, MxK_cg (fun q => zAi hb) (fun _ _ _ => Iff.rfl) (MxK_succ (U := fun k => k < 5 ∧ ¬ fo' k = -1) (fun z => absurd z.1 (Nat.lt_irrefl i)) e ⟨fun k => (fo' k).toNatClampNeg, fun k hk => ?_⟩ cnt)⟩
  rcases sb k hk.1 with z | ⟨p, hp, fp, h1, pl⟩
  · exact absurd z hk.2
  · have ep : (fo' k).toNatClampNeg = p := by rw [fp, nI_clamp (by omega)]
    refine ⟨?_, fun l hl e2 => ?_⟩
    · show k < 5 ∧ (((fo' k).toNatClampNeg < i ∧ m.testBit (fo' k).toNatClampNeg = true) ∨ (fo' k).toNatClampNeg = i) ∧ k < N 1 ∧ zPl F k (fo' k).toNatClampNeg
      rw [ep]
      exact ⟨hk.1, (zAi hb).mpr (A' k p hk.1 hp fp), h1, pl⟩
    · have e2 : (fo' l).toNatClampNeg = (fo' k).toNatClampNeg := e2
      rcases sb l hl.1 with z | ⟨p', hp', fp', -⟩
      · exact absurd z hl.2
      · rw [ep, fp', nI_clamp (by omega)] at e2
        subst e2
        exact inj l k hl.1 hk.1 (fp'.trans fp.symm) hl.2
end KUHN
