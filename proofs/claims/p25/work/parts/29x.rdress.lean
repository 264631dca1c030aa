/-! ===== dressing, as the reference goes about it ===== -/
def rCoB (N : Nat → Nat) (F : Nat → Nat → Int32) : Prop := (∀ c, c < N 3 → ∃ v, v < 4 ∧ F (32 + c) 0 = nI v) ∧ (∀ c, c < N 3 → ∃ v, v < 10 ∧ F (32 + c) 1 = nI v) ∧ (∀ p, p < N 0 → ∃ v, v < 4 ∧ F (14 + p) 1 = nI v) ∧ ∀ i, i < N 1 → ∃ v, v < 10 ∧ F (21 + i) 1 = nI v
def rW1 (N : Nat → Nat) (F : Nat → Nat → Int32) (rp sp c u : Nat) : Prop := c < N 3 ∧ F (32 + c) 3 = 0 ∧ ∃ rc sc : Nat, rc < 4 ∧ sc < 10 ∧ F (32 + c) 0 = nI rc ∧ F (32 + c) 1 = nI sc ∧ rp ≤ rc ∧ (sc - sp) + (sp - sc) ≤ 2 ∧ u = rc - rp + ((sc - sp) + (sp - sc))
def rWw (N : Nat → Nat) (F : Nat → Nat → Int32) (h : Nat → Nat) (c p u : Nat) : Prop := rW1 N F (F (14 + p) 1).toNatClampNeg (F (21 + h p) 1).toNatClampNeg c u
section RW1
variable {N : Nat → Nat} {F G : Nat → Nat → Int32} {rp sp c u u' rc sc p : Nat} {h : Nat → Nat}
theorem rW1_no (e1 : F (32 + c) 0 = nI rc) (e2 : F (32 + c) 1 = nI sc) (h1 : rc < 4) (h2 : sc < 10) (h : ¬ F (32 + c) 3 = 0 ∨ rc < rp ∨ 2 < (sc - sp) + (sp - sc)) : ∀ u, ¬ rW1 N F rp sp c u := fun u ⟨_, hz, rc', sc', a1, a2, a3, a4, a5, a6, _⟩ => by
  have r : rc' = rc := (nI_eq (by omega) (by omega)).mp (a3.symm.trans e1)
  have s : sc' = sc := (nI_eq (by omega) (by omega)).mp (a4.symm.trans e2)
  subst r
  subst s
  rcases h with h | h | h
  · exact h hz
  · omega
  · omega
theorem rW1_le (k : rW1 N F rp sp c u) : u ≤ 5 := by
  obtain ⟨_, _, rc, sc, a1, a2, a3, a4, a5, a6, rfl⟩ := k
  omega
theorem rW1_un (k : rW1 N F rp sp c u) (k' : rW1 N F rp sp c u') : u = u' := by
  obtain ⟨_, _, rc, sc, a1, a2, a3, a4, a5, a6, rfl⟩ := k
  obtain ⟨_, _, rc', sc', b1, b2, b3, b4, b5, b6, rfl⟩ := k'
  have r : rc' = rc := (nI_eq (by omega) (by omega)).mp (b3.symm.trans a3)
  have s : sc' = sc := (nI_eq (by omega) (by omega)).mp (b4.symm.trans a4)
  subst r
  subst s
  rfl
theorem rWw_5 : ∀ c q u, rWw N F h c q u → u ≤ 5 := fun _ _ _ k => rW1_le k
theorem rWw_C : ∀ c q u, rWw N F h c q u → c < N 3 := fun _ _ _ k => k.1
theorem rWw_at (e1 : F (14 + p) 1 = nI rp) (e2 : F (21 + h p) 1 = nI sp) (hr : rp < 4) (hs : sp < 10) : rWw N F h c p u ↔ rW1 N F rp sp c u := by
  unfold rWw
  rw [e1, e2, nI_clamp (by omega), nI_clamp (by omega)]
theorem rW1_mv (b3 : N 3 ≤ 6) (e : rJ F G) : rW1 N G rp sp c u ↔ rW1 N F rp sp c u := by
  unfold rW1
  constructor
  · rintro ⟨a, k⟩
    rw [e (32 + c) 3 (rsc_f (by omega)), e (32 + c) 0 (rsc_f (by omega)), e (32 + c) 1 (rsc_f (by omega))] at k
    exact ⟨a, k⟩
  · rintro ⟨a, k⟩
    rw [← e (32 + c) 3 (rsc_f (by omega)), ← e (32 + c) 0 (rsc_f (by omega)), ← e (32 + c) 1 (rsc_f (by omega))] at k
    exact ⟨a, k⟩
theorem zlt_rk : ∀ a, a < 4 → ∀ b, b < 4 → (nI a - nI b < 0 ↔ a < b) := by decide +kernel
theorem zle_ds : ∀ a, a < 10 → ∀ b, b < 10 → (nI ((a - b) + (b - a)) ≤ nI 2 ↔ (a - b) + (b - a) ≤ 2) := by decide +kernel
theorem zad_rk : ∀ a, a < 4 → ∀ b, b < 4 → b ≤ a → ∀ d, d < 10 → nI a - nI b + nI d = nI (a - b + d) := by decide +kernel
end RW1
/-- what is weighed of a part t behind so many coats: the coats used so far are not taken again -/
def dRq (w : Nat → Nat → Nat → Prop) (L : List Nat) (t uu sum i v : Nat) : Prop := ∃ (c u : Nat) (S : Nat → Prop) (x : Nat), c < i ∧ uu.testBit c = false ∧ w c t u ∧ (∀ d, S d → (uu ||| 2 ^ c).testBit d = false) ∧ Dy w L S x ∧ v = sum + u + x
/-- what is weighed of a list of parts -/
def dRl (w : Nat → Nat → Nat → Prop) (L : List Nat) (uu sum v : Nat) : Prop := ∃ (S : Nat → Prop) (x : Nat), (∀ d, S d → uu.testBit d = false) ∧ Dy w L S x ∧ v = sum + x
section RQ
variable {w : Nat → Nat → Nat → Prop} {L : List Nat} {t uu sum i n v : Nat} {x y : Int32} {P Q : Nat → Prop}
theorem dRq_0 : ¬ dRq w L t uu sum 0 v := fun ⟨c, _, _, _, h, _⟩ => absurd h (Nat.not_lt_zero c)
theorem dRq_pass (h : uu.testBit i = true ∨ ∀ u, ¬ w i t u) : dRq w L t uu sum (i + 1) v ↔ dRq w L t uu sum i v := by
  constructor
  · rintro ⟨c, u, S, x, a, b, d, e⟩
    refine ⟨c, u, S, x, ?_, b, d, e⟩
    rcases Nat.lt_succ_iff_lt_or_eq.mp a with k | k
    · exact k
    · subst k
      rcases h with h | h
      · rw [h] at b
        cases b
      · exact absurd d (h u)
  · rintro ⟨c, u, S, x, a, b⟩
    exact ⟨c, u, S, x, by omega, b⟩
theorem dRq_take {u : Nat} (hb : uu.testBit i = false) (hw : w i t u) (hun : ∀ u', w i t u' → u' = u) : dRq w L t uu sum (i + 1) v ↔ dRq w L t uu sum i v ∨ dRl w L (uu ||| 2 ^ i) (sum + u) v := by
  constructor
  · rintro ⟨c, u', S, x, a, b, d, e, k, z⟩
    rcases Nat.lt_succ_iff_lt_or_eq.mp a with q | q
    · exact Or.inl ⟨c, u', S, x, q, b, d, e, k, z⟩
    · subst q
      obtain rfl := hun u' d
      exact Or.inr ⟨S, x, e, k, z⟩
  · rintro (⟨c, u', S, x, a, b⟩ | ⟨S, x, a, b, e⟩)
    · exact ⟨c, u', S, x, by omega, b⟩
    · exact ⟨i, u, S, x, Nat.lt_succ_self i, hb, hw, a, b, e⟩
theorem dRq_end (hwC : ∀ c q u, w c q u → c < n) : dRq w L t uu sum n v ↔ dRl w (t :: L) uu sum v := by
  constructor
  · rintro ⟨c, u, S, x, a, b, d, e, k, rfl⟩
    have hc : ¬ S c := fun q => by
      have := e c q
      rw [tb_or2.mpr (Or.inr rfl)] at this
      cases this
    refine ⟨fun d => S d ∨ d = c, x + u, fun d hd => ?_, ⟨c, u, x, Or.inr rfl, ‹w c t u›, Dy_cg (fun d => ⟨fun q => ⟨Or.inl q, fun z => hc (z ▸ q)⟩, fun q => q.1.resolve_right q.2⟩) k, rfl⟩, by omega⟩
    rcases hd with hd | rfl
    · have := e d hd
      cases q : uu.testBit d with
      | false => rfl
      | true =>
        rw [tb_or2.mpr (Or.inl q)] at this
        cases this
    · exact b
  · rintro ⟨S, y, a, ⟨c, u, x, h1, h2, h3, h4⟩, rfl⟩
    refine ⟨c, u, _, x, hwC c t u h2, a c h1, h2, fun d hd => ?_, h3, by omega⟩
    cases q : (uu ||| 2 ^ c).testBit d with
    | false => rfl
    | true =>
      rcases tb_or2.mp q with z | z
      · rw [a d hd.1] at z
        cases z
      · exact absurd z hd.2
theorem lvX_prune (h : lvX x P) (hx : ¬ x = -1) (hs : ¬ nI sum < x) (hb : sum < 2 ^ 31) (hP : ∀ v, P v → v < 2 ^ 31) (hQ : ∀ v, Q v → sum ≤ v) : lvX x (fun v => P v ∨ Q v) := by
  rcases h with ⟨a, -⟩ | ⟨k, rfl, b, c⟩
  · exact absurd a hx
  · refine Or.inr ⟨k, rfl, Or.inl b, fun u hu => ?_⟩
    rcases hu with hu | hu
    · exact c u hu
    · rw [Int32.lt_iff_toInt_lt, nI_toInt hb, nI_toInt (hP k b)] at hs
      have := hQ u hu
      omega
theorem dRl_le : dRl w L uu sum v → sum ≤ v := fun ⟨_, _, _, _, e⟩ => by omega
theorem dRl_nil : dRl w [] uu sum v ↔ v = sum := by
  constructor
  · rintro ⟨S, x, _, ⟨_, rfl⟩, e⟩
    omega
  · rintro rfl
    exact ⟨fun _ => False, 0, fun _ => False.elim, ⟨fun _ => id, rfl⟩, by omega⟩
end RQ
/-- the parts of a set, the lowest first -/
def aLs (m : Nat) : List Nat := (pLs m 7).reverse
theorem aLs_0 : aLs 0 = [] := by decide
theorem aLs_low {m t : Nat} (hm : m < 128) (ht : t < 7) (hb : m.testBit t = true) (hl : ∀ s, s < t → m.testBit s = false) : aLs m = t :: aLs (m &&& (m - 1)) := by
  unfold aLs
  rw [pLs_low hm t ht hb hl 7 ht (Nat.le_refl 7), List.reverse_append]
  rfl
theorem zctz_low : ∀ m, m < 128 → m ≠ 0 → ∀ s, s < zctz m → m.testBit s = false := by
  have key : ∀ m, m < 128 → m ≠ 0 → ∀ s, s < 7 → s < zctz m → m.testBit s = false := by decide +kernel
  exact fun m hm h0 s hs => key m hm h0 s (by have := (zpc_low m hm h0).2.2.1; omega) hs
theorem aLs_len {m : Nat} : (aLs m).length ≤ 7 := by
  unfold aLs
  rw [List.length_reverse]
  exact pLs_len 7
theorem dRq_b {w : Nat → Nat → Nat → Prop} {L : List Nat} {t uu sum i v : Nat} (hw : ∀ c q u, w c q u → u ≤ 5) (hL : L.length ≤ 7) (hs : sum ≤ 100) (h : dRq w L t uu sum i v) : v < 2 ^ 31 := by
  obtain ⟨c, u, S, x, _, _, h3, _, h5, rfl⟩ := h
  have a := Dy_le hw h5
  have b := hw c t u h3
  omega
theorem tbFr {b : Bool} (h : ¬ b = true) : b = false := by
  cases b
  · rfl
  · exact absurd rfl h
theorem rCoB.mv {N : Nat → Nat} {F G : Nat → Nat → Int32} (k : rCoB N F) (hM : rM N F G) (hI : rI N F) : rCoB N G := by
  obtain ⟨b0, b1, b2, b3, b4⟩ := hI.bnd
  have o : ∀ k j, 14 ≤ k → k < 43 → G k j = F k j := fun k j q1 q2 => hM.1 k j (Or.inl ⟨q1, q2⟩)
  exact ⟨fun c hc => by rw [o (32 + c) 0 (by omega) (by omega)]; exact k.1 c hc, fun c hc => by rw [o (32 + c) 1 (by omega) (by omega)]; exact k.2.1 c hc, fun c hc => by rw [o (14 + c) 1 (by omega) (by omega)]; exact k.2.2.1 c hc, fun c hc => by rw [o (21 + c) 1 (by omega) (by omega)]; exact k.2.2.2 c hc⟩
theorem pLs_top {m n : Nat} (h : m < 2 ^ n) : ∀ k, pLs m (n + k) = pLs m n := by
  intro k
  induction k with
  | zero => rfl
  | succ k ih =>
    show pLs m (n + k + 1) = _
    rw [pLs_0 (fun q => by have := tb_lt h q; omega), ih]
/-- over no coats used, from the lowest part on: the same as the class's -/
theorem rds_iff {N : Nat → Nat} {F G : Nat → Nat → Int32} {h : Nat → Nat} {m v : Nat} (hM : rM N F G) (hI : rI N F) (hm : m < 128) (hm9 : m < 2 ^ N 0) (hc : ∀ p, m.testBit p = true → h p < N 1) : (False ∨ dRl (rWw N G h) (aLs m) 0 0 v) ↔ dLs (rWw N F h) (pLs m (N 0)) v := by
  obtain ⟨b0, b1, b2, b3, b4⟩ := hI.bnd
  have o : ∀ k j, 14 ≤ k → k < 43 → G k j = F k j := fun k j q1 q2 => hM.1 k j (Or.inl ⟨q1, q2⟩)
  have e7 : pLs m 7 = pLs m (N 0) := by
    obtain ⟨x, ex⟩ : ∃ x, 7 = N 0 + x := ⟨7 - N 0, by omega⟩
    rw [ex, pLs_top hm9]
  have ew : ∀ c p u, p ∈ pLs m (N 0) → h p < N 1 → (rWw N G h c p u ↔ rWw N F h c p u) := fun c p u hp h1 => by
    have hp9 := (pLs_mem _ hp).1
    unfold rWw
    rw [o (14 + p) 1 (by omega) (by omega), o (21 + h p) 1 (by omega) (by omega)]
    unfold rW1
    constructor
    · rintro ⟨a, k⟩
      rw [o (32 + c) 3 (by omega) (by omega), o (32 + c) 0 (by omega) (by omega), o (32 + c) 1 (by omega) (by omega)] at k
      exact ⟨a, k⟩
    · rintro ⟨a, k⟩
      rw [← o (32 + c) 3 (by omega) (by omega), ← o (32 + c) 0 (by omega) (by omega), ← o (32 + c) 1 (by omega) (by omega)] at k
      exact ⟨a, k⟩
  unfold aLs dRl dLs
  rw [e7]
  constructor
  · rintro (z | ⟨S, x, -, k, e⟩)
    · exact z.elim
    · rw [Nat.zero_add] at e
      rw [e]
      exact ⟨S, Dy_w (fun c p u hp => ew c p u hp (hc p (pLs_mem _ hp).2)) (Dy_perm (List.reverse_perm _) k)⟩
  · rintro ⟨S, k⟩
    exact Or.inr ⟨S, v, fun d _ => Nat.zero_testBit d, Dy_perm (List.reverse_perm _).symm (Dy_w (fun c p u hp => (ew c p u hp (hc p (pLs_mem _ hp).2)).symm) k), by omega⟩
abbrev rPm (N : Nat → Nat) (F : Nat → Nat → Int32) : Nat → Nat → Prop := fun i p => i < N 1 ∧ zPl F i p
def rSc (N : Nat → Nat) (F : Nat → Nat → Int32) (p w : Nat) (x : Int32) : Prop := (w = 0 ∧ x = F (26 + p) 0) ∨ (w = 1 ∧ x = F (26 + p) 1) ∨ (w = 2 ∧ ∃ m k, m < 2 ^ N 0 ∧ F (26 + p) 0 = nI m ∧ x = nI k ∧ MxK (rPm N F) (fun q => q < N 0 ∧ m.testBit q = true) k) ∨ (w = 3 ∧ ∃ m c e, m < 2 ^ N 0 ∧ F (26 + p) 0 = nI m ∧ x = nI c ∧ zLk (zEk (rPm N F) (N 0)) m (m + 1) c e) ∨ (w = 4 ∧ ∃ m c e, m < 2 ^ N 0 ∧ F (26 + p) 0 = nI m ∧ x = e ∧ zLk (zEk (rPm N F) (N 0)) m (m + 1) c e) ∨ (w = 5 ∧ ∃ m b h, m < 2 ^ N 0 ∧ F (26 + p) 0 = nI m ∧ rBs N F b h ∧ ((b = -1 ∧ x = -1) ∨ (¬ b = -1 ∧ lvX x (dLs (rWw N F h) (pLs m (N 0))))))
theorem rBs_Mj {N : Nat → Nat} {F G : Nat → Nat → Int32} {b : Int32} {h : Nat → Nat} (hM : rM N F G) (hI : rI N F) : rBs N G b h ↔ rBs N F b h := ⟨fun q => rBs_mv hI.bnd.1 hI.bnd.2.1 hI.bnd.2.2.1 (fun k j q1 q2 _ => (hM.1 k j (Or.inl ⟨q1, by omega⟩)).symm) q, rBs_M hM hI⟩
section RSC
variable {N : Nat → Nat} {F G : Nat → Nat → Int32} {p w : Nat} {x : Int32} {h : Nat → Nat}
theorem zPl_o (hM : rM N F G) (hI : rI N F) {i q : Nat} (hq : q < N 0) : rPm N G i q ↔ rPm N F i q := by
  obtain ⟨b0, b1, b2, b3, b4⟩ := hI.bnd
  refine and_congr_right fun hi => ?_
  unfold zPl
  rw [hM.1 (21 + i) 3 (Or.inl ⟨by omega, by omega⟩), hM.1 (21 + i) 0 (Or.inl ⟨by omega, by omega⟩), hM.1 (14 + q) 0 (Or.inl ⟨by omega, by omega⟩)]
theorem rWw_M (hM : rM N F G) (hI : rI N F) {c q u : Nat} (hq : q < N 0) (h1 : h q < N 1) : rWw N G h c q u ↔ rWw N F h c q u := by
  obtain ⟨b0, b1, b2, b3, b4⟩ := hI.bnd
  have o : ∀ k j, 14 ≤ k → k < 43 → G k j = F k j := fun k j q1 q2 => hM.1 k j (Or.inl ⟨q1, q2⟩)
  unfold rWw
  rw [o (14 + q) 1 (by omega) (by omega), o (21 + h q) 1 (by omega) (by omega)]
  unfold rW1
  constructor
  · rintro ⟨a, k⟩
    rw [o (32 + c) 3 (by omega) (by omega), o (32 + c) 0 (by omega) (by omega), o (32 + c) 1 (by omega) (by omega)] at k
    exact ⟨a, k⟩
  · rintro ⟨a, k⟩
    rw [← o (32 + c) 3 (by omega) (by omega), ← o (32 + c) 0 (by omega) (by omega), ← o (32 + c) 1 (by omega) (by omega)] at k
    exact ⟨a, k⟩
theorem sc_due (hI : rI N F) (hp : p < N 2) {m : Nat} (hm : m < 2 ^ N 0) (em : F (26 + p) 0 = nI m) {q : Nat} (hb : m.testBit q = true) : rDu N F q := by
  obtain ⟨b0, b1, b2, b3, b4⟩ := hI.bnd
  have hq : q < N 0 := tb_lt hm hb
  have h7 : m < 128 := Nat.lt_of_lt_of_le hm (zp2 (n := 7) (by omega))
  refine ⟨by omega, p, hp, zall b2 hp, ?_⟩
  show zIn (F (26 + p) 0) (nI q)
  rw [em]
  exact (zIn_nat (by omega) (by omega)).mpr hb
theorem rSc_M (hM : rM N F G) (hI : rI N F) (hp : p < N 2) (hq : rSc N G p w x) : rSc N F p w x := by
  obtain ⟨b0, b1, b2, b3, b4⟩ := hI.bnd
  have o : ∀ j, G (26 + p) j = F (26 + p) j := fun j => hM.1 _ j (Or.inl ⟨by omega, by omega⟩)
  have eE : ∀ u x, zEk (rPm N G) (N 0) u x ↔ zEk (rPm N F) (N 0) u x := fun u x => ⟨zEk_cg fun i q h1 _ => zPl_o hM hI h1, zEk_cg fun i q h1 _ => (zPl_o hM hI h1).symm⟩
  rcases hq with ⟨e, q⟩ | ⟨e, q⟩ | ⟨e, m, k, q1, q2, q3, q4⟩ | ⟨e, m, c, e', q1, q2, q3, q4⟩ | ⟨e, m, c, e', q1, q2, q3, q4⟩ | ⟨e, m, b, h, q1, q2, q3, q4⟩
  · exact Or.inl ⟨e, q.trans (o 0)⟩
  · exact Or.inr (Or.inl ⟨e, q.trans (o 1)⟩)
  · exact Or.inr (Or.inr (Or.inl ⟨e, m, k, q1, (o 0).symm.trans q2, q3, MxK_cg (fun _ => Iff.rfl) (fun i q hq => zPl_o hM hI hq.1) q4⟩))
  · exact Or.inr (Or.inr (Or.inr (Or.inl ⟨e, m, c, e', q1, (o 0).symm.trans q2, q3, zLk_cgE eE q4⟩)))
  · exact Or.inr (Or.inr (Or.inr (Or.inr (Or.inl ⟨e, m, c, e', q1, (o 0).symm.trans q2, q3, zLk_cgE eE q4⟩))))
  · have em := (o 0).symm.trans q2
    have hb := (rBs_Mj hM hI).mp q3
    refine Or.inr (Or.inr (Or.inr (Or.inr (Or.inr ⟨e, m, b, h, q1, em, hb, q4.imp id fun ⟨nb, k⟩ => ⟨nb, lvX_cg (fun v => ?_) k⟩⟩))))
    have at1 : ∀ q, q ∈ pLs m (N 0) → q < N 0 ∧ h q < N 1 := fun q hq => by
      obtain ⟨z1, z2⟩ := pLs_mem _ hq
      exact ⟨z1, (hb.pmi (fun _ k => k.1) nb (sc_due hI hp q1 em z2)).1⟩
    exact exists_congr fun S => ⟨Dy_w fun c q u hq => rWw_M hM hI (at1 q hq).1 (at1 q hq).2, Dy_w fun c q u hq => (rWw_M hM hI (at1 q hq).1 (at1 q hq).2).symm⟩
end RSC
set_option maxRecDepth 100000 in
set_option maxHeartbeats 4000000 in
theorem k_X12_waste_x {g : zG} {t : Nat × Nat} {ad N : Nat → Nat} {S : Int64} {σ0 : Nat → Option va_E} {F : Nat → Nat → Int32} (hK : rK g ad N) (hI : rI N F) (c p q : Nat) (hc : c < N 3) (hp : p < N 0) (hq : q < N 1) (eq9 : F 11 p = nI q) (rc sc rp sp : Nat) (hrc : rc < 4) (hsc : sc < 10) (hrp : rp < 4) (hsp : sp < 10) (e1 : F (32 + c) 0 = nI rc) (e2 : F (32 + c) 1 = nI sc) (e3 : F (14 + p) 1 = nI rp) (e4 : F (21 + q) 1 = nI sp) : Ct g 13 yX12_waste cX12_waste 5 (some FieldType.int) 0 0 [.ref (ad (0)), .ref (ad (32 + (c))), .int (nI (p))] (t, rO g ad N S F σ0) (fun v σ' => ((v = some (.int (-1)) ∧ ∀ u, ¬ rW1 N F rp sp c u) ∨ ∃ u, v = some (.int (nI u)) ∧ rW1 N F rp sp c u) ∧ σ' = (t, rO g ad N S F σ0)) zNo := by
  refine Ct.of (lv := [(0, .ref (ad (0))), (1, .ref (ad (32 + (c)))), (2, .int (nI (p)))]) (by decide) (Nat.le_of_ble_eq_true rfl) rfl ?_
  intro κ X E B _
  have X : zX g κ RX12 cX12_waste 5 := X
  obtain ⟨b0, b1, b2, b3, b4⟩ := hI.bnd
  refine V_aload_n X dX12_waste_0 1 rfl ?_
  refine R_getf X fl_X12_128 hK (32 + (c)) (rlv (by omega)) (rCell_coat (by omega)) rfl dX12_waste_1 (V.topi (fun x1 ex1 => ?_))
  refine V_aload_n X dX12_waste_4 0 rfl ?_
  refine R_getf X fl_X12_16 hK (0) (rlv (by omega)) rfl rfl dX12_waste_5 ?_
  refine V_aload_n X dX12_waste_8 0 rfl ?_
  refine R_getf X fl_X12_28 hK (0) (rlv (by omega)) rfl rfl dX12_waste_9 ?_
  refine V_iload_n X dX12_waste_12 2 rfl ?_
  refine R_iald X hK (11) (by omega) (p) rfl (by omega) dX12_waste_13 ?_
  rw [eq9]
  refine V_callV (rest := [.int (x1)]) X E.room ml_X12_97 in_Jx4a65c_get_915e3 (ci := 3) rfl se_Jx4a65c_get_915e3 (rO_list hK (i := 1) (by decide)) (by omega) (by decide) (r_get hK 1 (by decide) (j := q) (by omega) (by omega)) rfl rfl (Nat.le_of_ble_eq_true rfl) ⟨by omega, by omega⟩ dX12_waste_14 (fun _ _ h => False.elim h) (fun v2 σ' hp3 => ?_)
  obtain ⟨hp3, rfl⟩ := hp3
  cases (hp3 : _ = some (Value.ref (ad (21 + (q)))))
  show V g κ 5 (0) (0) (t, rO g ad N S F σ0) 17 [(0, .ref (ad (0))), (1, .ref (ad (32 + (c)))), (2, .int (nI (p)))] [.ref (ad (21 + (q))), .int (x1)]
  refine V_cast X (C := RX9) rfl cl_X12_74 (R_recv hK (q := 21 + (q)) (rlv (by omega)) (rCell_player (by omega))) dX12_waste_17 ?_
  refine R_getf X fl_X12_80 hK (21 + (q)) (rlv (by omega)) (rCell_player (by omega)) rfl dX12_waste_20 (V.topi (fun x4 ex4 => ?_))
  refine V_isub X dX12_waste_23 (V.topi (fun w5 ew5 => ?_))
  refine V_mabs X E.room (by omega) (by omega) (by decide) ml_X12_200 st_J9_abs_0f7a4 rfl rfl (Nat.le_of_ble_eq_true rfl) dX12_waste_24 (V.topi (fun w6 ew6 => ?_))
  refine V_istore_n X [(3, .int (w6)), (0, .ref (ad (0))), (1, .ref (ad (32 + (c)))), (2, .int (nI (p)))] dX12_waste_27 (by decide) rfl ?_
  have hds : w6 = nI ((sc - sp) + (sp - sc)) := by rw [ew6, ew5, ex1, ex4, e2, e4, zab_ds sc hsc sp hsp]
  refine V_aload_n X dX12_waste_28 2 rfl ?_
  refine R_getf X fl_X12_127 hK (32 + (c)) (rlv (by omega)) (rCell_coat (by omega)) rfl dX12_waste_29 (V.topi (fun x7 ex7 => ?_))
  refine V_aload_n X dX12_waste_32 1 rfl ?_
  refine R_getf X fl_X12_10 hK (0) (rlv (by omega)) rfl rfl dX12_waste_33 ?_
  refine V_iload_n X dX12_waste_36 3 rfl ?_
  refine V_callV (rest := [.int (x7)]) X E.room ml_X12_97 in_Jx4a65c_get_915e3 (ci := 3) rfl se_Jx4a65c_get_915e3 (rO_list hK (i := 0) (by decide)) (by omega) (by decide) (r_get hK 0 (by decide) (j := p) (by omega) (by omega)) rfl rfl (Nat.le_of_ble_eq_true rfl) ⟨by omega, by omega⟩ dX12_waste_37 (fun _ _ h => False.elim h) (fun v8 σ' hp9 => ?_)
  obtain ⟨hp9, rfl⟩ := hp9
  cases (hp9 : _ = some (Value.ref (ad (14 + (p)))))
  show V g κ 5 (0) (0) (t, rO g ad N S F σ0) 40 [(3, .int (w6)), (0, .ref (ad (0))), (1, .ref (ad (32 + (c)))), (2, .int (nI (p)))] [.ref (ad (14 + (p))), .int (x7)]
  refine V_cast X (C := RX8) rfl cl_X12_54 (R_recv hK (q := 14 + (p)) (rlv (by omega)) (rCell_part (by omega))) dX12_waste_40 ?_
  refine R_getf X fl_X12_60 hK (14 + (p)) (rlv (by omega)) (rCell_part (by omega)) rfl dX12_waste_43 (V.topi (fun x10 ex10 => ?_))
  refine V_isub X dX12_waste_46 (V.topi (fun w11 ew11 => ?_))
  refine V_istore X [(4, .int (w11)), (3, .int (w6)), (0, .ref (ad (0))), (1, .ref (ad (32 + (c)))), (2, .int (nI (p)))] dX12_waste_47 (by decide) rfl ?_
  have hrk : w11 = nI rc - nI rp := by rw [ew11, ex7, ex10, e1, e3]
  refine V_aload_n X dX12_waste_49 3 rfl ?_
  refine R_getf X fl_X12_135 hK (32 + (c)) (rlv (by omega)) (rCell_coat (by omega)) rfl dX12_waste_50 (V.topi (fun x12 ex12 => ?_))
  refine V_ifne X (tgt := 66) dX12_waste_53 (by decide) (fun h13 => ?_) (fun h13 => ?_)
  · -- 53 true
    refine V_iconst (v := (-1)) X dX12_waste_66 (by decide) ?_
    refine V_goto (tgt := 74) X dX12_waste_67 (by decide) ?_
    exact V_iret X E (by omega) (by omega) ⟨Or.inl ⟨rfl, rW1_no e1 e2 hrc hsc (Or.inl (fun z => h13 (ex12.trans z)))⟩, rfl⟩ dX12_waste_74
  · -- 53 false
    refine V_iload X dX12_waste_56 0 rfl ?_
    refine V_iflt X (tgt := 66) dX12_waste_58 (by decide) (fun h14 => ?_) (fun h14 => ?_)
    · -- 58 true
      refine V_iconst (v := (-1)) X dX12_waste_66 (by decide) ?_
      refine V_goto (tgt := 74) X dX12_waste_67 (by decide) ?_
      exact V_iret X E (by omega) (by omega) ⟨Or.inl ⟨rfl, rW1_no e1 e2 hrc hsc (Or.inr (Or.inl ((zlt_rk rc hrc rp hrp).mp (by rw [← hrk]; exact h14))))⟩, rfl⟩ dX12_waste_74
    · -- 58 false
      refine V_iload_n X dX12_waste_61 1 rfl ?_
      refine V_iconst (v := nI 2) X dX12_waste_62 (by decide) ?_
      refine V_icmple X (tgt := 70) dX12_waste_63 (by decide) (fun h15 => ?_) (fun h15 => ?_)
      · -- 63 true
        refine V_iload X dX12_waste_70 0 rfl ?_
        refine V_iload_n X dX12_waste_72 1 rfl ?_
        refine V_iadd X dX12_waste_73 (V.topi (fun w16 ew16 => ?_))
        exact V_iret X E (by omega) (by omega) ⟨Or.inr ⟨_, by rw [ew16, hrk, hds, zad_rk rc hrc rp hrp (Nat.not_lt.mp (mt (zlt_rk rc hrc rp hrp).mpr (by rw [← hrk]; exact h14))) _ (by omega)], hc, (ex12.symm.trans h13), rc, sc, hrc, hsc, e1, e2, (Nat.not_lt.mp (mt (zlt_rk rc hrc rp hrp).mpr (by rw [← hrk]; exact h14))), (zle_ds sc hsc sp hsp).mp (by rw [← hds]; exact h15), rfl⟩, rfl⟩ dX12_waste_74
      · -- 63 false
        refine V_iconst (v := (-1)) X dX12_waste_66 (by decide) ?_
        refine V_goto (tgt := 74) X dX12_waste_67 (by decide) ?_
        exact V_iret X E (by omega) (by omega) ⟨Or.inl ⟨rfl, rW1_no e1 e2 hrc hsc (Or.inr (Or.inr (Nat.not_le.mp (mt (zle_ds sc hsc sp hsp).mpr (by rw [← hds]; exact h15)))))⟩, rfl⟩ dX12_waste_74
set_option maxRecDepth 100000 in
set_option maxHeartbeats 4000000 in
theorem k_X12_dress_x {g : zG} {t : Nat × Nat} {ad N : Nat → Nat} {S : Int64} {σ0 : Nat → Option va_E} {F0 : Nat → Nat → Int32} (hK : rK g ad N) {h : Nat → Nat} (hB : rCoB N F0) : ∀ (r : Nat) {F : Nat → Nat → Int32} (hI : rI N F) (m : Nat) (hm : m < 128) (hr : zpc m ≤ r) (hc : ∀ p, m.testBit p = true → p < N 0 ∧ h p < N 1 ∧ F0 11 p = nI (h p)) (uu sum : Nat) (hu : uu < 64) (hs : sum + 5 * zpc m ≤ 100) (P : Nat → Prop) (hP : ∀ v, P v → v < 2 ^ 31) (hl : lvX (F 0 15) P) (hJ0 : rJ F0 F), Ct g (16 + r) yX12_dress cX12_dress 7 none 0 0 [.ref (ad (0)), .int (nI m), .int (nI uu), .int (nI sum)] (t, rO g ad N S F σ0) (fun v σ' => v = none ∧ ∃ F' : Nat → Nat → Int32, σ' = (t, rO g ad N S F' σ0) ∧ rJ F F' ∧ lvX (F' 0 15) (fun v => P v ∨ dRl (rWw N F0 h) (aLs m) uu sum v) ∧ F' 0 0 = F 0 0) zNo := by
  intro r
  induction r using Nat.strongRecOn with
  | ind r ihr =>
  intro F hI m hm hr hc uu sum hu hs P hP hl hJ0
  refine Ct.of (lv := [(0, .ref (ad (0))), (1, .int (nI (m))), (2, .int (nI (uu))), (3, .int (nI (sum)))]) (by decide) (Nat.le_of_ble_eq_true rfl) rfl ?_
  intro κ X E B _
  have X : zX g κ RX12 cX12_dress 7 := X
  obtain ⟨b0, b1, b2, b3, b4⟩ := hI.bnd
  refine V_aload_n X dX12_dress_0 0 rfl ?_
  refine R_getf X fl_X12_205 hK (0) (rlv (by omega)) rfl rfl dX12_dress_1 (V.topi (fun x1 ex1 => ?_))
  refine V_iconst (v := (-1)) X dX12_dress_4 (by decide) ?_
  refine V_icmpeq X (tgt := 17) dX12_dress_5 (by decide) (fun h2 => ?_) (fun h2 => ?_)
  · -- 5 true
    refine V_iload_n X dX12_dress_17 1 rfl ?_
    refine V_ifneN X (by omega) (tgt := 27) dX12_dress_18 (by decide) (fun h3 => ?_) (fun h3 => ?_)
    · -- 18 true
      refine V_iload_n X dX12_dress_27 1 rfl ?_
      refine V_callS (rest := []) X E.room ml_X12_208 st_J6_numberOfTrailingZeros_0f7a4 (by omega) (by decide) (k_J6_numberOfTrailingZeros_0f7a4 (σ := (t, rO g ad N S F σ0)) m (by omega) (by assumption)) rfl rfl (Nat.le_of_ble_eq_true rfl) ⟨by omega, by omega⟩ dX12_dress_28 (fun _ _ h => False.elim h) (fun v28 σ' hp28 => ?_)
      obtain ⟨hp28, rfl⟩ := hp28
      cases (hp28 : _ = some (Value.int (nI (zctz m))))
      show V g κ 7 (0) (0) (t, rO g ad N S F σ0) 31 [(0, .ref (ad (0))), (1, .int (nI (m))), (2, .int (nI (uu))), (3, .int (nI (sum)))] [.int (nI (zctz m))]
      obtain ⟨y1, y2, y3, y4⟩ := zpc_low m hm h3
      obtain ⟨hz9, hn9, eq9⟩ := hc _ y4
      obtain ⟨rp, hrp, erp⟩ := hB.2.2.1 (zctz m) hz9
      obtain ⟨sp, hsp, esp⟩ := hB.2.2.2 (h (zctz m)) hn9
      refine V_istore X [(4, .int (nI (zctz m))), (0, .ref (ad (0))), (1, .int (nI (m))), (2, .int (nI (uu))), (3, .int (nI (sum)))] dX12_dress_31 (by decide) rfl ?_
      refine V_iconst (v := nI 0) X dX12_dress_33 (by decide) ?_
      refine V_istore X [(5, .int (nI (0))), (4, .int (nI (zctz m))), (0, .ref (ad (0))), (1, .int (nI (m))), (2, .int (nI (uu))), (3, .int (nI (sum)))] dX12_dress_34 (by decide) rfl ?_
      have L36 : ∀ (n36 : Nat) (i36 : Nat) (G36 : Nat → Nat → Int32), n36 = N 3 - i36 → i36 ≤ N 3 → rJ F G36 → (lvX (G36 0 15) (fun v => P v ∨ dRq (rWw N F0 h) (aLs (m &&& (m - 1))) (zctz m) uu sum i36 v)) → (G36 0 0 = F 0 0) → V g κ 7 (0) (0) (t, rO g ad N S G36 σ0) 36 [(5, .int (nI (i36))), (4, .int (nI (zctz m))), (0, .ref (ad (0))), (1, .int (nI (m))), (2, .int (nI (uu))), (3, .int (nI (sum)))] [] := by
        intro n36
        induction n36 using Nat.strongRecOn with
        | ind n36 ih36 =>
          intro i36 G36 hn36 hi36 hJ36 hv36_0 hv36_1
          refine V_iload X dX12_dress_36 0 rfl ?_
          refine V_aload_n X dX12_dress_38 2 rfl ?_
          refine R_getf X fl_X12_22 hK (0) (rlv (by omega)) rfl rfl dX12_dress_39 ?_
          refine V_callV (rest := [.int (nI (i36))]) X E.room ml_X12_42 in_Jx4a65c_size_8abf5 (ci := 3) rfl se_Jx4a65c_size_8abf5 (rO_list hK (i := 3) (by decide)) (by omega) (by decide) (r_size hK 3 (by decide)) rfl rfl (Nat.le_of_ble_eq_true rfl) ⟨by omega, by omega⟩ dX12_dress_42 (fun _ _ h => False.elim h) (fun v4 σ' hp5 => ?_)
          obtain ⟨hp5, rfl⟩ := hp5
          cases (hp5 : _ = some (Value.int (nI (N 3))))
          show V g κ 7 (0) (0) (t, rO g ad N S G36 σ0) 45 [(5, .int (nI (i36))), (4, .int (nI (zctz m))), (0, .ref (ad (0))), (1, .int (nI (m))), (2, .int (nI (uu))), (3, .int (nI (sum)))] [.int (nI (N 3)), .int (nI (i36))]
          refine V_icmpgeN X (by omega) (by omega) (tgt := 112) dX12_dress_45 (by decide) (fun h6 => ?_) (fun h6 => ?_)
          · -- 45 true
            exact V_vret X E (by omega) (by omega) ⟨rfl, _, rfl, hJ36, lvX_cg (P := fun v => P v ∨ dRq (rWw N F0 h) (aLs (m &&& (m - 1))) (zctz m) uu sum (N 3) v) (fun v => or_congr_right (by rw [aLs_low hm y3 y4 (zctz_low m hm h3)]; exact dRq_end rWw_C)) (by rw [← show i36 = N 3 by omega]; exact hv36_0), hv36_1⟩ dX12_dress_112
          · -- 45 false
            refine V_iload_n X dX12_dress_48 4 rfl ?_
            refine V_iload X dX12_dress_49 0 rfl ?_
            refine V_callS (rest := []) X E.room ml_X12_159 st_X12_isIn (by omega) (by decide) (k_X12_isIn (σ := (t, rO g ad N S G36 σ0)) (nI (uu)) (nI (i36))) rfl rfl (Nat.le_of_ble_eq_true rfl) ⟨by omega, by omega⟩ dX12_dress_51 (fun _ _ h => False.elim h) (fun v51 σ' hp51 => ?_)
            obtain ⟨hp51, rfl⟩ := hp51
            rcases hp51 with ⟨rfl, z7⟩ | ⟨rfl, z7⟩
            · -- yes
              show V g κ 7 (0) (0) (t, rO g ad N S G36 σ0) 54 [(5, .int (nI (i36))), (4, .int (nI (zctz m))), (0, .ref (ad (0))), (1, .int (nI (m))), (2, .int (nI (uu))), (3, .int (nI (sum)))] [.int (nI (1))]
              refine V_ifeqN X (by omega) (tgt := 61) dX12_dress_54 (by decide) (fun h8 => absurd h8 (by omega)) (fun h8 => ?_)
              refine V_iconst (v := (-1)) X dX12_dress_57 (by decide) ?_
              refine V_goto (tgt := 79) X dX12_dress_58 (by decide) ?_
              refine V_istore X [(6, .int (-1)), (5, .int (nI (i36))), (4, .int (nI (zctz m))), (0, .ref (ad (0))), (1, .int (nI (m))), (2, .int (nI (uu))), (3, .int (nI (sum)))] dX12_dress_79 (by decide) rfl ?_
              refine V_iload X dX12_dress_81 0 rfl ?_
              refine V_iconst (v := (-1)) X dX12_dress_83 (by decide) ?_
              refine V_icmpeq X (tgt := 106) dX12_dress_84 (by decide) (fun h9 => ?_) (fun h9 => absurd h9 (not_not_intro rfl))
              refine V_iinc X (nI (i36 + 1)) [(5, .int (nI (i36 + 1))), (6, .int (-1)), (4, .int (nI (zctz m))), (0, .ref (ad (0))), (1, .int (nI (m))), (2, .int (nI (uu))), (3, .int (nI (sum)))] dX12_dress_106 1 rfl (zinc _) (by decide) rfl ?_
              refine V_goto (tgt := 36) X dX12_dress_109 (by decide) ?_
              exact V.sub [0, 2, 3, 4, 5, 6] rfl (ih36 _ (by omega) (i36 + 1) G36 rfl (by omega) hJ36 (lvX_cg (fun v => or_congr_right (dRq_pass (Or.inl ((zIn_nat (by omega) (by omega)).mp z7))).symm) hv36_0) (hv36_1))
            · -- no
              show V g κ 7 (0) (0) (t, rO g ad N S G36 σ0) 54 [(5, .int (nI (i36))), (4, .int (nI (zctz m))), (0, .ref (ad (0))), (1, .int (nI (m))), (2, .int (nI (uu))), (3, .int (nI (sum)))] [.int (nI (0))]
              refine V_ifeqN X (by omega) (tgt := 61) dX12_dress_54 (by decide) (fun h10 => ?_) (fun h10 => absurd h10 (by omega))
              refine V_aload_n X dX12_dress_61 2 rfl ?_
              refine V_aload_n X dX12_dress_62 2 rfl ?_
              refine R_getf X fl_X12_22 hK (0) (rlv (by omega)) rfl rfl dX12_dress_63 ?_
              refine V_iload X dX12_dress_66 0 rfl ?_
              refine V_callV (rest := [.ref (ad (0))]) X E.room ml_X12_97 in_Jx4a65c_get_915e3 (ci := 3) rfl se_Jx4a65c_get_915e3 (rO_list hK (i := 3) (by decide)) (by omega) (by decide) (r_get hK 3 (by decide) (j := i36) (by omega) (by omega)) rfl rfl (Nat.le_of_ble_eq_true rfl) ⟨by omega, by omega⟩ dX12_dress_68 (fun _ _ h => False.elim h) (fun v11 σ' hp12 => ?_)
              obtain ⟨hp12, rfl⟩ := hp12
              cases (hp12 : _ = some (Value.ref (ad (32 + (i36)))))
              show V g κ 7 (0) (0) (t, rO g ad N S G36 σ0) 71 [(5, .int (nI (i36))), (4, .int (nI (zctz m))), (0, .ref (ad (0))), (1, .int (nI (m))), (2, .int (nI (uu))), (3, .int (nI (sum)))] [.ref (ad (32 + (i36))), .ref (ad (0))]
              refine V_cast X (C := RX7) rfl cl_X12_124 (R_recv hK (q := 32 + (i36)) (rlv (by omega)) (rCell_coat (by omega))) dX12_dress_71 ?_
              refine V_iload X dX12_dress_74 1 rfl ?_
              obtain ⟨rc, hrc, erc⟩ := hB.1 (i36) (by omega)
              obtain ⟨sc, hsc, esc⟩ := hB.2.1 (i36) (by omega)
              have hJz := hJ0.trans (hJ36 : rJ F G36)
              refine V_callV (rest := []) X E.room ml_X12_211 in_X12_waste (ci := 16) rfl se_X12_waste (R_recv hK (q := 0) (rlv (by omega)) rfl) (by omega) (by decide) (k_X12_waste_x hK (hI.mv hJ36) (i36) (zctz m) (h (zctz m)) (by omega) hz9 hn9 ((hJz 11 _ (rsc_f (by omega))).trans eq9) rc sc rp sp hrc hsc hrp hsp ((hJz (32 + (i36)) 0 (rsc_f (by omega))).trans erc) ((hJz (32 + (i36)) 1 (rsc_f (by omega))).trans esc) ((hJz (14 + (zctz m)) 1 (rsc_f (by omega))).trans erp) ((hJz (21 + (h (zctz m))) 1 (rsc_f (by omega))).trans esp)) rfl rfl (Nat.le_of_ble_eq_true rfl) ⟨by omega, by omega⟩ dX12_dress_76 (fun _ _ h => False.elim h) (fun v76 σ' hp76 => ?_)
              have hwi : ∀ u, rWw N F0 h (i36) (zctz m) u ↔ rW1 N G36 rp sp (i36) u := fun u => (rWw_at erp esp hrp hsp).trans (rW1_mv b3 hJz).symm
              obtain ⟨hp76, rfl⟩ := hp76
              rcases hp76 with ⟨rfl, nw⟩ | ⟨u9, rfl, hw9⟩
              · -- no
                show V g κ 7 (0) (0) (t, rO g ad N S G36 σ0) 79 [(5, .int (nI (i36))), (4, .int (nI (zctz m))), (0, .ref (ad (0))), (1, .int (nI (m))), (2, .int (nI (uu))), (3, .int (nI (sum)))] [.int (-1)]
                refine V_istore X [(6, .int (-1)), (5, .int (nI (i36))), (4, .int (nI (zctz m))), (0, .ref (ad (0))), (1, .int (nI (m))), (2, .int (nI (uu))), (3, .int (nI (sum)))] dX12_dress_79 (by decide) rfl ?_
                refine V_iload X dX12_dress_81 0 rfl ?_
                refine V_iconst (v := (-1)) X dX12_dress_83 (by decide) ?_
                refine V_icmpeq X (tgt := 106) dX12_dress_84 (by decide) (fun h13 => ?_) (fun h13 => absurd h13 (not_not_intro rfl))
                refine V_iinc X (nI (i36 + 1)) [(5, .int (nI (i36 + 1))), (6, .int (-1)), (4, .int (nI (zctz m))), (0, .ref (ad (0))), (1, .int (nI (m))), (2, .int (nI (uu))), (3, .int (nI (sum)))] dX12_dress_106 1 rfl (zinc _) (by decide) rfl ?_
                refine V_goto (tgt := 36) X dX12_dress_109 (by decide) ?_
                exact V.sub [0, 2, 3, 4, 5, 6] rfl (ih36 _ (by omega) (i36 + 1) G36 rfl (by omega) hJ36 (lvX_cg (fun v => or_congr_right (dRq_pass (Or.inr (fun u q => nw u ((hwi u).mp q)))).symm) hv36_0) (hv36_1))
              · -- fits
                have u5 : u9 ≤ 5 := rW1_le hw9
                show V g κ 7 (0) (0) (t, rO g ad N S G36 σ0) 79 [(5, .int (nI (i36))), (4, .int (nI (zctz m))), (0, .ref (ad (0))), (1, .int (nI (m))), (2, .int (nI (uu))), (3, .int (nI (sum)))] [.int (nI (u9))]
                refine V_istore X [(6, .int (nI (u9))), (5, .int (nI (i36))), (4, .int (nI (zctz m))), (0, .ref (ad (0))), (1, .int (nI (m))), (2, .int (nI (uu))), (3, .int (nI (sum)))] dX12_dress_79 (by decide) rfl ?_
                refine V_iload X dX12_dress_81 0 rfl ?_
                refine V_iconst (v := (-1)) X dX12_dress_83 (by decide) ?_
                refine V_icmpeq X (tgt := 106) dX12_dress_84 (by decide) (fun h14 => absurd h14 (znm1 (by omega))) (fun h14 => ?_)
                refine V_aload_n X dX12_dress_87 3 rfl ?_
                refine V_iload_n X dX12_dress_88 4 rfl ?_
                refine V_iload_n X dX12_dress_89 4 rfl ?_
                refine V_iconst (v := nI 1) X dX12_dress_90 (by decide) ?_
                refine V_isubN X (by omega) dX12_dress_91 ?_
                refine V_iandN X dX12_dress_92 ?_
                refine V_iload_n X dX12_dress_93 5 rfl ?_
                refine V_iconst (v := nI 1) X dX12_dress_94 (by decide) ?_
                refine V_iload X dX12_dress_95 1 rfl ?_
                refine V_ishl1 X (by omega) dX12_dress_97 ?_
                refine V_iorN X dX12_dress_98 ?_
                refine V_iload_n X dX12_dress_99 6 rfl ?_
                refine V_iload X dX12_dress_100 0 rfl ?_
                refine V_iaddN X dX12_dress_102 ?_
                refine V_callV (rest := []) X E.room ml_X12_215 in_X12_dress (ci := 16) rfl se_X12_dress (R_recv hK (q := 0) (rlv (by omega)) rfl) (by omega) (by decide) (ihr (r - 1) (by omega) (hI.mv hJ36) (m &&& (m - 1)) y2 (by omega) (fun p hb => hc p (zsub hb)) (uu ||| 2 ^ i36) (sum + u9) (Nat.or_lt_two_pow (n := 6) hu (Nat.pow_lt_pow_right (by decide : 1 < 2) (show i36 < 6 by omega) : 2 ^ i36 < 2 ^ 6)) (by omega) (fun v => P v ∨ dRq (rWw N F0 h) (aLs (m &&& (m - 1))) (zctz m) uu sum i36 v) (fun v hv => hv.elim (hP v) (dRq_b rWw_5 aLs_len (by omega))) hv36_0 hJz) rfl rfl (Nat.le_of_ble_eq_true rfl) ⟨by omega, by omega⟩ dX12_dress_103 (fun _ _ h => False.elim h) (fun v103 σ' hp103 => ?_)
                obtain ⟨rfl, F15, rfl, hKF15, hLF15, hZF15⟩ := hp103
                have hJF15 : rJ F F15 := (hJ36 : rJ F G36).trans hKF15
                show V g κ 7 (0) (0) (t, rO g ad N S F15 σ0) 106 [(6, .int (nI (u9))), (5, .int (nI (i36))), (4, .int (nI (zctz m))), (0, .ref (ad (0))), (1, .int (nI (m))), (2, .int (nI (uu))), (3, .int (nI (sum)))] []
                refine V_iinc X (nI (i36 + 1)) [(5, .int (nI (i36 + 1))), (6, .int (nI (u9))), (4, .int (nI (zctz m))), (0, .ref (ad (0))), (1, .int (nI (m))), (2, .int (nI (uu))), (3, .int (nI (sum)))] dX12_dress_106 1 rfl (zinc _) (by decide) rfl ?_
                refine V_goto (tgt := 36) X dX12_dress_109 (by decide) ?_
                exact V.sub [0, 2, 3, 4, 5, 6] rfl (ih36 _ (by omega) (i36 + 1) F15 rfl (by omega) hJF15 (lvX_cg (fun v => or_assoc.trans (or_congr_right (dRq_take (tbFr (fun q => z7 ((zIn_nat (by omega) (by omega)).mpr q))) ((hwi u9).mpr hw9) (fun u q => rW1_un ((hwi u).mp q) hw9)).symm)) hLF15) (hZF15.trans hv36_1))
      exact L36 _ (0) F rfl (by omega) rJ.rfl' (lvX_cg (fun v => (or_iff_left dRq_0).symm) hl) (rfl)
    · -- 18 false
      refine V_aload_n X dX12_dress_21 0 rfl ?_
      refine V_iload_n X dX12_dress_22 3 rfl ?_
      refine R_putf X fl_X12_205 zt_X12 hK (0) (rlv (by omega)) (by omega) rfl (Nat.le_of_ble_eq_true rfl) rfl rfl rfl rfl rfl dX12_dress_23 (fun F16 hF16 => ?_)
      have hJF16 := (rJ.rfl' : rJ F F).set hF16 (rsc_t (by omega))
      exact V_vret X E (by omega) (by omega) ⟨rfl, _, rfl, hJF16, by rw [hF16, fset_eq]; exact lvX_cg (fun v => or_congr_right (by rw [h3, aLs_0]; exact dRl_nil.symm)) (lvX_yes hl (by omega) hP (Or.inl (ex1.symm.trans h2))), by rw [hF16, fset_ne (by omega)]⟩ dX12_dress_26
  · -- 5 false
    refine V_iload_n X dX12_dress_8 3 rfl ?_
    refine V_aload_n X dX12_dress_9 0 rfl ?_
    refine R_getf X fl_X12_205 hK (0) (rlv (by omega)) rfl rfl dX12_dress_10 (V.topi (fun x17 ex17 => ?_))
    refine V_icmplt X (tgt := 17) dX12_dress_13 (by decide) (fun h18 => ?_) (fun h18 => ?_)
    · -- 13 true
      refine V_iload_n X dX12_dress_17 1 rfl ?_
      refine V_ifneN X (by omega) (tgt := 27) dX12_dress_18 (by decide) (fun h19 => ?_) (fun h19 => ?_)
      · -- 18 true
        refine V_iload_n X dX12_dress_27 1 rfl ?_
        refine V_callS (rest := []) X E.room ml_X12_208 st_J6_numberOfTrailingZeros_0f7a4 (by omega) (by decide) (k_J6_numberOfTrailingZeros_0f7a4 (σ := (t, rO g ad N S F σ0)) m (by omega) (by assumption)) rfl rfl (Nat.le_of_ble_eq_true rfl) ⟨by omega, by omega⟩ dX12_dress_28 (fun _ _ h => False.elim h) (fun v28 σ' hp28 => ?_)
        obtain ⟨hp28, rfl⟩ := hp28
        cases (hp28 : _ = some (Value.int (nI (zctz m))))
        show V g κ 7 (0) (0) (t, rO g ad N S F σ0) 31 [(0, .ref (ad (0))), (1, .int (nI (m))), (2, .int (nI (uu))), (3, .int (nI (sum)))] [.int (nI (zctz m))]
        obtain ⟨y1, y2, y3, y4⟩ := zpc_low m hm h19
        obtain ⟨hz9, hn9, eq9⟩ := hc _ y4
        obtain ⟨rp, hrp, erp⟩ := hB.2.2.1 (zctz m) hz9
        obtain ⟨sp, hsp, esp⟩ := hB.2.2.2 (h (zctz m)) hn9
        refine V_istore X [(4, .int (nI (zctz m))), (0, .ref (ad (0))), (1, .int (nI (m))), (2, .int (nI (uu))), (3, .int (nI (sum)))] dX12_dress_31 (by decide) rfl ?_
        refine V_iconst (v := nI 0) X dX12_dress_33 (by decide) ?_
        refine V_istore X [(5, .int (nI (0))), (4, .int (nI (zctz m))), (0, .ref (ad (0))), (1, .int (nI (m))), (2, .int (nI (uu))), (3, .int (nI (sum)))] dX12_dress_34 (by decide) rfl ?_
        have L36 : ∀ (n36 : Nat) (i36 : Nat) (G36 : Nat → Nat → Int32), n36 = N 3 - i36 → i36 ≤ N 3 → rJ F G36 → (lvX (G36 0 15) (fun v => P v ∨ dRq (rWw N F0 h) (aLs (m &&& (m - 1))) (zctz m) uu sum i36 v)) → (G36 0 0 = F 0 0) → V g κ 7 (0) (0) (t, rO g ad N S G36 σ0) 36 [(5, .int (nI (i36))), (4, .int (nI (zctz m))), (0, .ref (ad (0))), (1, .int (nI (m))), (2, .int (nI (uu))), (3, .int (nI (sum)))] [] := by
          intro n36
          induction n36 using Nat.strongRecOn with
          | ind n36 ih36 =>
            intro i36 G36 hn36 hi36 hJ36 hv36_0 hv36_1
            refine V_iload X dX12_dress_36 0 rfl ?_
            refine V_aload_n X dX12_dress_38 2 rfl ?_
            refine R_getf X fl_X12_22 hK (0) (rlv (by omega)) rfl rfl dX12_dress_39 ?_
            refine V_callV (rest := [.int (nI (i36))]) X E.room ml_X12_42 in_Jx4a65c_size_8abf5 (ci := 3) rfl se_Jx4a65c_size_8abf5 (rO_list hK (i := 3) (by decide)) (by omega) (by decide) (r_size hK 3 (by decide)) rfl rfl (Nat.le_of_ble_eq_true rfl) ⟨by omega, by omega⟩ dX12_dress_42 (fun _ _ h => False.elim h) (fun v20 σ' hp21 => ?_)
            obtain ⟨hp21, rfl⟩ := hp21
            cases (hp21 : _ = some (Value.int (nI (N 3))))
            show V g κ 7 (0) (0) (t, rO g ad N S G36 σ0) 45 [(5, .int (nI (i36))), (4, .int (nI (zctz m))), (0, .ref (ad (0))), (1, .int (nI (m))), (2, .int (nI (uu))), (3, .int (nI (sum)))] [.int (nI (N 3)), .int (nI (i36))]
            refine V_icmpgeN X (by omega) (by omega) (tgt := 112) dX12_dress_45 (by decide) (fun h22 => ?_) (fun h22 => ?_)
            · -- 45 true
              exact V_vret X E (by omega) (by omega) ⟨rfl, _, rfl, hJ36, lvX_cg (P := fun v => P v ∨ dRq (rWw N F0 h) (aLs (m &&& (m - 1))) (zctz m) uu sum (N 3) v) (fun v => or_congr_right (by rw [aLs_low hm y3 y4 (zctz_low m hm h19)]; exact dRq_end rWw_C)) (by rw [← show i36 = N 3 by omega]; exact hv36_0), hv36_1⟩ dX12_dress_112
            · -- 45 false
              refine V_iload_n X dX12_dress_48 4 rfl ?_
              refine V_iload X dX12_dress_49 0 rfl ?_
              refine V_callS (rest := []) X E.room ml_X12_159 st_X12_isIn (by omega) (by decide) (k_X12_isIn (σ := (t, rO g ad N S G36 σ0)) (nI (uu)) (nI (i36))) rfl rfl (Nat.le_of_ble_eq_true rfl) ⟨by omega, by omega⟩ dX12_dress_51 (fun _ _ h => False.elim h) (fun v51 σ' hp51 => ?_)
              obtain ⟨hp51, rfl⟩ := hp51
              rcases hp51 with ⟨rfl, z23⟩ | ⟨rfl, z23⟩
              · -- yes
                show V g κ 7 (0) (0) (t, rO g ad N S G36 σ0) 54 [(5, .int (nI (i36))), (4, .int (nI (zctz m))), (0, .ref (ad (0))), (1, .int (nI (m))), (2, .int (nI (uu))), (3, .int (nI (sum)))] [.int (nI (1))]
                refine V_ifeqN X (by omega) (tgt := 61) dX12_dress_54 (by decide) (fun h24 => absurd h24 (by omega)) (fun h24 => ?_)
                refine V_iconst (v := (-1)) X dX12_dress_57 (by decide) ?_
                refine V_goto (tgt := 79) X dX12_dress_58 (by decide) ?_
                refine V_istore X [(6, .int (-1)), (5, .int (nI (i36))), (4, .int (nI (zctz m))), (0, .ref (ad (0))), (1, .int (nI (m))), (2, .int (nI (uu))), (3, .int (nI (sum)))] dX12_dress_79 (by decide) rfl ?_
                refine V_iload X dX12_dress_81 0 rfl ?_
                refine V_iconst (v := (-1)) X dX12_dress_83 (by decide) ?_
                refine V_icmpeq X (tgt := 106) dX12_dress_84 (by decide) (fun h25 => ?_) (fun h25 => absurd h25 (not_not_intro rfl))
                refine V_iinc X (nI (i36 + 1)) [(5, .int (nI (i36 + 1))), (6, .int (-1)), (4, .int (nI (zctz m))), (0, .ref (ad (0))), (1, .int (nI (m))), (2, .int (nI (uu))), (3, .int (nI (sum)))] dX12_dress_106 1 rfl (zinc _) (by decide) rfl ?_
                refine V_goto (tgt := 36) X dX12_dress_109 (by decide) ?_
                exact V.sub [0, 2, 3, 4, 5, 6] rfl (ih36 _ (by omega) (i36 + 1) G36 rfl (by omega) hJ36 (lvX_cg (fun v => or_congr_right (dRq_pass (Or.inl ((zIn_nat (by omega) (by omega)).mp z23))).symm) hv36_0) (hv36_1))
              · -- no
                show V g κ 7 (0) (0) (t, rO g ad N S G36 σ0) 54 [(5, .int (nI (i36))), (4, .int (nI (zctz m))), (0, .ref (ad (0))), (1, .int (nI (m))), (2, .int (nI (uu))), (3, .int (nI (sum)))] [.int (nI (0))]
                refine V_ifeqN X (by omega) (tgt := 61) dX12_dress_54 (by decide) (fun h26 => ?_) (fun h26 => absurd h26 (by omega))
                refine V_aload_n X dX12_dress_61 2 rfl ?_
                refine V_aload_n X dX12_dress_62 2 rfl ?_
                refine R_getf X fl_X12_22 hK (0) (rlv (by omega)) rfl rfl dX12_dress_63 ?_
                refine V_iload X dX12_dress_66 0 rfl ?_
                refine V_callV (rest := [.ref (ad (0))]) X E.room ml_X12_97 in_Jx4a65c_get_915e3 (ci := 3) rfl se_Jx4a65c_get_915e3 (rO_list hK (i := 3) (by decide)) (by omega) (by decide) (r_get hK 3 (by decide) (j := i36) (by omega) (by omega)) rfl rfl (Nat.le_of_ble_eq_true rfl) ⟨by omega, by omega⟩ dX12_dress_68 (fun _ _ h => False.elim h) (fun v27 σ' hp28 => ?_)
                obtain ⟨hp28, rfl⟩ := hp28
                cases (hp28 : _ = some (Value.ref (ad (32 + (i36)))))
                show V g κ 7 (0) (0) (t, rO g ad N S G36 σ0) 71 [(5, .int (nI (i36))), (4, .int (nI (zctz m))), (0, .ref (ad (0))), (1, .int (nI (m))), (2, .int (nI (uu))), (3, .int (nI (sum)))] [.ref (ad (32 + (i36))), .ref (ad (0))]
                refine V_cast X (C := RX7) rfl cl_X12_124 (R_recv hK (q := 32 + (i36)) (rlv (by omega)) (rCell_coat (by omega))) dX12_dress_71 ?_
                refine V_iload X dX12_dress_74 1 rfl ?_
                obtain ⟨rc, hrc, erc⟩ := hB.1 (i36) (by omega)
                obtain ⟨sc, hsc, esc⟩ := hB.2.1 (i36) (by omega)
                have hJz := hJ0.trans (hJ36 : rJ F G36)
                refine V_callV (rest := []) X E.room ml_X12_211 in_X12_waste (ci := 16) rfl se_X12_waste (R_recv hK (q := 0) (rlv (by omega)) rfl) (by omega) (by decide) (k_X12_waste_x hK (hI.mv hJ36) (i36) (zctz m) (h (zctz m)) (by omega) hz9 hn9 ((hJz 11 _ (rsc_f (by omega))).trans eq9) rc sc rp sp hrc hsc hrp hsp ((hJz (32 + (i36)) 0 (rsc_f (by omega))).trans erc) ((hJz (32 + (i36)) 1 (rsc_f (by omega))).trans esc) ((hJz (14 + (zctz m)) 1 (rsc_f (by omega))).trans erp) ((hJz (21 + (h (zctz m))) 1 (rsc_f (by omega))).trans esp)) rfl rfl (Nat.le_of_ble_eq_true rfl) ⟨by omega, by omega⟩ dX12_dress_76 (fun _ _ h => False.elim h) (fun v76 σ' hp76 => ?_)
                have hwi : ∀ u, rWw N F0 h (i36) (zctz m) u ↔ rW1 N G36 rp sp (i36) u := fun u => (rWw_at erp esp hrp hsp).trans (rW1_mv b3 hJz).symm
                obtain ⟨hp76, rfl⟩ := hp76
                rcases hp76 with ⟨rfl, nw⟩ | ⟨u9, rfl, hw9⟩
                · -- no
                  show V g κ 7 (0) (0) (t, rO g ad N S G36 σ0) 79 [(5, .int (nI (i36))), (4, .int (nI (zctz m))), (0, .ref (ad (0))), (1, .int (nI (m))), (2, .int (nI (uu))), (3, .int (nI (sum)))] [.int (-1)]
                  refine V_istore X [(6, .int (-1)), (5, .int (nI (i36))), (4, .int (nI (zctz m))), (0, .ref (ad (0))), (1, .int (nI (m))), (2, .int (nI (uu))), (3, .int (nI (sum)))] dX12_dress_79 (by decide) rfl ?_
                  refine V_iload X dX12_dress_81 0 rfl ?_
                  refine V_iconst (v := (-1)) X dX12_dress_83 (by decide) ?_
                  refine V_icmpeq X (tgt := 106) dX12_dress_84 (by decide) (fun h29 => ?_) (fun h29 => absurd h29 (not_not_intro rfl))
                  refine V_iinc X (nI (i36 + 1)) [(5, .int (nI (i36 + 1))), (6, .int (-1)), (4, .int (nI (zctz m))), (0, .ref (ad (0))), (1, .int (nI (m))), (2, .int (nI (uu))), (3, .int (nI (sum)))] dX12_dress_106 1 rfl (zinc _) (by decide) rfl ?_
                  refine V_goto (tgt := 36) X dX12_dress_109 (by decide) ?_
                  exact V.sub [0, 2, 3, 4, 5, 6] rfl (ih36 _ (by omega) (i36 + 1) G36 rfl (by omega) hJ36 (lvX_cg (fun v => or_congr_right (dRq_pass (Or.inr (fun u q => nw u ((hwi u).mp q)))).symm) hv36_0) (hv36_1))
                · -- fits
                  have u5 : u9 ≤ 5 := rW1_le hw9
                  show V g κ 7 (0) (0) (t, rO g ad N S G36 σ0) 79 [(5, .int (nI (i36))), (4, .int (nI (zctz m))), (0, .ref (ad (0))), (1, .int (nI (m))), (2, .int (nI (uu))), (3, .int (nI (sum)))] [.int (nI (u9))]
                  refine V_istore X [(6, .int (nI (u9))), (5, .int (nI (i36))), (4, .int (nI (zctz m))), (0, .ref (ad (0))), (1, .int (nI (m))), (2, .int (nI (uu))), (3, .int (nI (sum)))] dX12_dress_79 (by decide) rfl ?_
                  refine V_iload X dX12_dress_81 0 rfl ?_
                  refine V_iconst (v := (-1)) X dX12_dress_83 (by decide) ?_
                  refine V_icmpeq X (tgt := 106) dX12_dress_84 (by decide) (fun h30 => absurd h30 (znm1 (by omega))) (fun h30 => ?_)
                  refine V_aload_n X dX12_dress_87 3 rfl ?_
                  refine V_iload_n X dX12_dress_88 4 rfl ?_
                  refine V_iload_n X dX12_dress_89 4 rfl ?_
                  refine V_iconst (v := nI 1) X dX12_dress_90 (by decide) ?_
                  refine V_isubN X (by omega) dX12_dress_91 ?_
                  refine V_iandN X dX12_dress_92 ?_
                  refine V_iload_n X dX12_dress_93 5 rfl ?_
                  refine V_iconst (v := nI 1) X dX12_dress_94 (by decide) ?_
                  refine V_iload X dX12_dress_95 1 rfl ?_
                  refine V_ishl1 X (by omega) dX12_dress_97 ?_
                  refine V_iorN X dX12_dress_98 ?_
                  refine V_iload_n X dX12_dress_99 6 rfl ?_
                  refine V_iload X dX12_dress_100 0 rfl ?_
                  refine V_iaddN X dX12_dress_102 ?_
                  refine V_callV (rest := []) X E.room ml_X12_215 in_X12_dress (ci := 16) rfl se_X12_dress (R_recv hK (q := 0) (rlv (by omega)) rfl) (by omega) (by decide) (ihr (r - 1) (by omega) (hI.mv hJ36) (m &&& (m - 1)) y2 (by omega) (fun p hb => hc p (zsub hb)) (uu ||| 2 ^ i36) (sum + u9) (Nat.or_lt_two_pow (n := 6) hu (Nat.pow_lt_pow_right (by decide : 1 < 2) (show i36 < 6 by omega) : 2 ^ i36 < 2 ^ 6)) (by omega) (fun v => P v ∨ dRq (rWw N F0 h) (aLs (m &&& (m - 1))) (zctz m) uu sum i36 v) (fun v hv => hv.elim (hP v) (dRq_b rWw_5 aLs_len (by omega))) hv36_0 hJz) rfl rfl (Nat.le_of_ble_eq_true rfl) ⟨by omega, by omega⟩ dX12_dress_103 (fun _ _ h => False.elim h) (fun v103 σ' hp103 => ?_)
                  obtain ⟨rfl, F31, rfl, hKF31, hLF31, hZF31⟩ := hp103
                  have hJF31 : rJ F F31 := (hJ36 : rJ F G36).trans hKF31
                  show V g κ 7 (0) (0) (t, rO g ad N S F31 σ0) 106 [(6, .int (nI (u9))), (5, .int (nI (i36))), (4, .int (nI (zctz m))), (0, .ref (ad (0))), (1, .int (nI (m))), (2, .int (nI (uu))), (3, .int (nI (sum)))] []
                  refine V_iinc X (nI (i36 + 1)) [(5, .int (nI (i36 + 1))), (6, .int (nI (u9))), (4, .int (nI (zctz m))), (0, .ref (ad (0))), (1, .int (nI (m))), (2, .int (nI (uu))), (3, .int (nI (sum)))] dX12_dress_106 1 rfl (zinc _) (by decide) rfl ?_
                  refine V_goto (tgt := 36) X dX12_dress_109 (by decide) ?_
                  exact V.sub [0, 2, 3, 4, 5, 6] rfl (ih36 _ (by omega) (i36 + 1) F31 rfl (by omega) hJF31 (lvX_cg (fun v => or_assoc.trans (or_congr_right (dRq_take (tbFr (fun q => z23 ((zIn_nat (by omega) (by omega)).mpr q))) ((hwi u9).mpr hw9) (fun u q => rW1_un ((hwi u).mp q) hw9)).symm)) hLF31) (hZF31.trans hv36_1))
        exact L36 _ (0) F rfl (by omega) rJ.rfl' (lvX_cg (fun v => (or_iff_left dRq_0).symm) hl) (rfl)
      · -- 18 false
        refine V_aload_n X dX12_dress_21 0 rfl ?_
        refine V_iload_n X dX12_dress_22 3 rfl ?_
        refine R_putf X fl_X12_205 zt_X12 hK (0) (rlv (by omega)) (by omega) rfl (Nat.le_of_ble_eq_true rfl) rfl rfl rfl rfl rfl dX12_dress_23 (fun F32 hF32 => ?_)
        have hJF32 := (rJ.rfl' : rJ F F).set hF32 (rsc_t (by omega))
        exact V_vret X E (by omega) (by omega) ⟨rfl, _, rfl, hJF32, by rw [hF32, fset_eq]; exact lvX_cg (fun v => or_congr_right (by rw [h19, aLs_0]; exact dRl_nil.symm)) (lvX_yes hl (by omega) hP (Or.inr (by rw [← ex17]; exact h18))), by rw [hF32, fset_ne (by omega)]⟩ dX12_dress_26
    · -- 13 false
      exact V_vret X E (by omega) (by omega) ⟨rfl, _, rfl, rJ.rfl', lvX_prune hl (fun q => h2 (ex1.trans q)) (by rw [← ex17]; exact h18) (by omega) hP (fun v => dRl_le), rfl⟩ dX12_dress_16
set_option maxRecDepth 100000 in
set_option maxHeartbeats 4000000 in
theorem k_X12_dressed_x {g : zG} {t : Nat × Nat} {ad N : Nat → Nat} {S : Int64} {σ0 : Nat → Option va_E} {F : Nat → Nat → Int32} (hK : rK g ad N) (hI : rI N F) (m s9 : Nat) (hs9 : s9 < N 2) (hm9 : m < 2 ^ N 0) (em : F (26 + s9) 0 = nI m) (hKn : rKn N F) (b : Int32) (h : Nat → Nat) (hb : rBs N F b h) (hB : rCoB N F) : Ct g 26 yX12_dressed cX12_dressed 2 (some FieldType.int) 0 0 [.ref (ad (0)), .int (nI (m))] (t, rO g ad N S F σ0) (fun v σ' => ∃ x : Int32, v = some (.int x) ∧ ((b = -1 ∧ x = -1) ∨ (¬ b = -1 ∧ lvX x (dLs (rWw N F h) (pLs m (N 0))))) ∧ ∃ (t' : Nat × Nat) (F' : Nat → Nat → Int32), σ' = (t', rO g ad N S F' σ0) ∧ rM N F F' ∧ rI N F' ∧ F' 0 0 = F 0 0) zNo := by
  refine Ct.of (lv := [(0, .ref (ad (0))), (1, .int (nI (m)))]) (by decide) (Nat.le_of_ble_eq_true rfl) rfl ?_
  intro κ X E B _
  have X : zX g κ RX12 cX12_dressed 2 := X
  obtain ⟨b0, b1, b2, b3, b4⟩ := hI.bnd
  refine V_aload_n X dX12_dressed_0 0 rfl ?_
  refine V_iconst (v := (-1)) X dX12_dressed_1 (by decide) ?_
  refine R_putf X fl_X12_205 zt_X12 hK (0) (rlv (by omega)) (by omega) rfl (Nat.le_of_ble_eq_true rfl) rfl rfl rfl rfl rfl dX12_dressed_2 (fun F1 hF1 => ?_)
  have hJF1 := (rM.rfl' : rM N F F).set hF1 (by omega)
  have hIF1 := hI.st hF1 (by omega)
  have hyF1 : F1 0 0 = F 0 0 := by rw [hF1, fset_ne (by omega)]
  refine V_aload_n X dX12_dressed_5 0 rfl ?_
  refine V_callV (rest := []) X E.room ml_X12_219 in_X12_isCast (ci := 16) rfl se_X12_isCast (R_recv hK (q := 0) (rlv (by omega)) rfl) (by omega) (by decide) (k_X12_isCast hK hIF1) rfl rfl (Nat.le_of_ble_eq_true rfl) ⟨by omega, by omega⟩ dX12_dressed_6 (fun _ _ h => False.elim h) (fun v6 σ' hp6 => ?_)
  obtain ⟨F2, rfl, hCF2, hIF2, hMF2, hZF2, hkF2, hp6⟩ := hp6
  have hKF2 : rM N F F2 := (hJF1 : rM N F F1).trans hMF2
  have hyF2 : F2 0 0 = F 0 0 := hZF2.trans hyF1
  obtain ⟨ebF2, hrF2⟩ := rBest_at hKn hKF2 hkF2 hb
  rcases hp6 with ⟨rfl, hn6, hc6⟩ | ⟨rfl, hn6⟩
  · -- a cast
    show V g κ 2 (0) (0) (t, rO g ad N S F2 σ0) 9 [(0, .ref (ad (0))), (1, .int (nI (m)))] [.int (nI (1))]
    refine V_ifeqN X (by omega) (tgt := 19) dX12_dressed_9 (by decide) (fun h3 => absurd h3 (by omega)) (fun h3 => ?_)
    refine V_aload_n X dX12_dressed_12 0 rfl ?_
    refine V_iload_n X dX12_dressed_13 1 rfl ?_
    refine V_iconst (v := nI 0) X dX12_dressed_14 (by decide) ?_
    refine V_iconst (v := nI 0) X dX12_dressed_15 (by decide) ?_
    have nb : ¬ b = -1 := (fun z => hn6 (ebF2.trans z))
    have h7 : m < 128 := Nat.lt_of_lt_of_le hm9 (zp2 (n := 7) (by omega))
    have hcast : ∀ p, m.testBit p = true → p < N 0 ∧ h p < N 1 ∧ F2 11 p = nI (h p) := fun p hb9 => by
      have hp9 : p < N 0 := tb_lt hm9 hb9
      have hd9 : rDu N F p := ⟨by omega, s9, hs9, zall b2 hs9, by show zIn (F (26 + s9) 0) (nI p); rw [em]; exact (zIn_nat (by omega) (by omega)).mpr hb9⟩
      exact ⟨hp9, (hb.pmi (fun _ q => q.1) nb hd9).1, (hrF2 nb p hp9).1 hd9⟩
    have h15 : F2 0 15 = -1 := (hCF2 0 15 (by decide) (Or.inr ⟨rfl, rfl⟩) (by decide)).trans (by rw [hF1, fset_eq])
    refine V_callV (rest := []) X E.room ml_X12_215 in_X12_dress (ci := 16) rfl se_X12_dress (R_recv hK (q := 0) (rlv (by omega)) rfl) (by omega) (by decide) (k_X12_dress_x (F0 := F2) hK (hB.mv hKF2 hI) 7 hIF2 m h7 (zpc_7 _ h7) hcast 0 0 (by decide) (by have := zpc_7 m h7; omega) (fun _ => False) (fun _ => False.elim) (Or.inl ⟨h15, fun _ => id⟩) rJ.rfl') rfl rfl (Nat.le_of_ble_eq_true rfl) ⟨by omega, by omega⟩ dX12_dressed_16 (fun _ _ h => False.elim h) (fun v16 σ' hp16 => ?_)
    obtain ⟨rfl, F4, rfl, hDF4, hLF4, hZF4⟩ := hp16
    have hIF4 := hIF2.mv hDF4
    have hKF4 : rM N F F4 := hKF2.trans hDF4.m
    have hyF4 : F4 0 0 = F 0 0 := hZF4.trans hyF2
    show V g κ 2 (0) (0) (t, rO g ad N S F4 σ0) 19 [(0, .ref (ad (0))), (1, .int (nI (m)))] []
    refine V_aload_n X dX12_dressed_19 0 rfl ?_
    refine R_getf X fl_X12_205 hK (0) (rlv (by omega)) rfl rfl dX12_dressed_20 (V.topi (fun x5 ex5 => ?_))
    exact V_iret X E (by omega) (by omega) ⟨_, rfl, Or.inr ⟨nb, by rw [ex5]; exact lvX_cg (fun v => rds_iff hKF2 hI h7 hm9 (fun p q => (hcast p q).2.1)) hLF4⟩, _, _, rfl, hKF4, hIF4, hyF4⟩ dX12_dressed_23
  · -- none
    show V g κ 2 (0) (0) (t, rO g ad N S F2 σ0) 9 [(0, .ref (ad (0))), (1, .int (nI (m)))] [.int (nI (0))]
    refine V_ifeqN X (by omega) (tgt := 19) dX12_dressed_9 (by decide) (fun h6 => ?_) (fun h6 => absurd h6 (by omega))
    refine V_aload_n X dX12_dressed_19 0 rfl ?_
    refine R_getf X fl_X12_205 hK (0) (rlv (by omega)) rfl rfl dX12_dressed_20 (V.topi (fun x7 ex7 => ?_))
    exact V_iret X E (by omega) (by omega) ⟨_, rfl, Or.inl ⟨ebF2.symm.trans hn6, ex7.trans ((hCF2 0 15 (by decide) (Or.inr ⟨rfl, rfl⟩) (by decide)).trans (by rw [hF1, fset_eq]))⟩, _, _, rfl, hKF2, hIF2, hyF2⟩ dX12_dressed_23
