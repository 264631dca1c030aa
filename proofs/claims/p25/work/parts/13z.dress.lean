/-! ===== dressing, by the class's table ===== -/
/-- coat c on a part of rank rp, for a player of size sp: not pawned, of no lower rank, it fits; it wastes u -/
def cW1 (F : Nat → Nat → Int32) (nC rp sp c u : Nat) : Prop := c < nC ∧ ¬ zIn (F 18 4) (nI c) ∧ ∃ rc sc : Nat, rc < 4 ∧ sc < 10 ∧ F 19 c = nI rc ∧ F 20 c = nI sc ∧ rp ≤ rc ∧ (sc - sp) + (sp - sc) ≤ 2 ∧ u = rc - rp + ((sc - sp) + (sp - sc))
def cCo (nC : Nat) (F : Nat → Nat → Int32) : Prop := (∀ c, c < nC → ∃ v, v < 4 ∧ F 19 c = nI v) ∧ ∀ c, c < nC → ∃ v, v < 10 ∧ F 20 c = nI v
theorem zab_ds : ∀ a, a < 10 → ∀ b, b < 10 → (if 0 ≤ nI a - nI b then nI a - nI b else 0 - (nI a - nI b)) = nI ((a - b) + (b - a)) := by decide +kernel
section CW1
variable {F F' : Nat → Nat → Int32} {nC rp sp c u u' rc sc : Nat}
theorem cW1_no (e1 : F 19 c = nI rc) (e2 : F 20 c = nI sc) (h1 : rc < 4) (h2 : sc < 10) (h : zIn (F 18 4) (nI c) ∨ rc < rp ∨ 2 < (sc - sp) + (sp - sc)) : ∀ u, ¬ cW1 F nC rp sp c u := fun u ⟨_, hz, rc', sc', a1, a2, a3, a4, a5, a6, _⟩ => by
  have r : rc' = rc := (nI_eq (by omega) (by omega)).mp (a3.symm.trans e1)
  have s : sc' = sc := (nI_eq (by omega) (by omega)).mp (a4.symm.trans e2)
  subst r
  subst s
  rcases h with h | h | h
  · exact hz h
  · omega
  · omega
theorem cW1_le (h : cW1 F nC rp sp c u) : u ≤ 5 := by
  obtain ⟨_, _, rc, sc, a1, a2, a3, a4, a5, a6, rfl⟩ := h
  omega
theorem cW1_un (h : cW1 F nC rp sp c u) (h' : cW1 F nC rp sp c u') : u = u' := by
  obtain ⟨_, _, rc, sc, a1, a2, a3, a4, a5, a6, rfl⟩ := h
  obtain ⟨_, _, rc', sc', b1, b2, b3, b4, b5, b6, rfl⟩ := h'
  have r : rc' = rc := (nI_eq (by omega) (by omega)).mp (b3.symm.trans a3)
  have s : sc' = sc := (nI_eq (by omega) (by omega)).mp (b4.symm.trans a4)
  subst r
  subst s
  rfl
theorem cW1_cg (e : ∀ k j, (k = 18 ∧ j = 4) ∨ k = 19 ∨ k = 20 → F' k j = F k j) : cW1 F' nC rp sp c u ↔ cW1 F nC rp sp c u := by
  unfold cW1
  rw [e 18 4 (by omega), e 19 c (by omega), e 20 c (by omega)]
end CW1
theorem lvX_add {x x' : Int32} {P Q : Nat → Prop} {v : Nat} (h : lvX x P) (hQ : Q v) (hm : ∀ u, Q u → v ≤ u) (hv : v < 2 ^ 31) (hb : ∀ u, P u → u < 2 ^ 31) (hx : (x' = nI v ∧ (x = -1 ∨ nI v < x)) ∨ (x' = x ∧ ¬ x = -1 ∧ ¬ nI v < x)) : lvX x' (fun u => P u ∨ Q u) := by
  rcases hx with ⟨rfl, hx⟩ | ⟨rfl, hx1, hx2⟩
  · refine Or.inr ⟨v, rfl, Or.inr hQ, fun u hu => ?_⟩
    rcases hu with hu | hu
    · rcases h with ⟨-, b⟩ | ⟨k, rfl, b, c⟩
      · exact absurd hu (b u)
      · rcases hx with e | e
        · exact absurd e (znm1 (hb k b))
        · rw [Int32.lt_iff_toInt_lt, nI_toInt hv, nI_toInt (hb k b)] at e
          have := c u hu
          omega
    · exact hm u hu
  · rcases h with ⟨a, -⟩ | ⟨k, rfl, b, c⟩
    · exact absurd a hx1
    · refine Or.inr ⟨k, rfl, Or.inl b, fun u hu => ?_⟩
      rcases hu with hu | hu
      · exact c u hu
      · rw [Int32.lt_iff_toInt_lt, nI_toInt hv, nI_toInt (hb k b)] at hx2
        have := hm u hu
        omega
/-- the table behind the parts of the list -/
def cTb (F : Nat → Nat → Int32) (w : Nat → Nat → Nat → Prop) (L : List Nat) (nC : Nat) : Prop := F 18 6 = nI L.length ∧ ∀ S, S < 2 ^ nC → (zpc S = L.length → lvX (F 22 S) (Dy w L (fun d => S.testBit d = true))) ∧ (L.length < zpc S → F 22 S = -1)
/-- the table while one more part is dressed -/
def cTd (F0 F : Nat → Nat → Int32) (w : Nat → Nat → Nat → Prop) (L : List Nat) (p nC i j : Nat) : Prop := (∀ k l, k ≠ 22 → F k l = F0 k l) ∧ ∀ S, S < 2 ^ nC → (zpc S = L.length → F 22 S = F0 22 S) ∧ (zpc S = L.length + 1 → lvX (F 22 S) (dPq w L p i j S)) ∧ (L.length + 1 < zpc S → F 22 S = -1)
section TD
variable {F0 F F' : Nat → Nat → Int32} {w : Nat → Nat → Nat → Prop} {L : List Nat} {p nC i j v u x : Nat}
theorem dPq_b (hw : ∀ c q u, w c q u → u ≤ 5) (hL : L.length ≤ 7) {S : Nat} (h : dPq w L p i j S v) : v < 2 ^ 31 := by
  obtain ⟨_, c, u, x, _, _, _, _, _, h6, h7, rfl⟩ := h
  have a := Dy_le hw h7
  have b := hw c p u h6
  omega
theorem cTd_0 (h : cTb F0 w L nC) : cTd F0 F0 w L p nC 0 0 := ⟨fun _ _ _ => rfl, fun S hS => ⟨fun _ => rfl, fun e => by rw [(h.2 S hS).2 (by omega)]; exact lvX_0 fun v => dPq_0, fun e => (h.2 S hS).2 (by omega)⟩⟩
theorem cTd_cg {i' j' : Nat} (e : ∀ S, S < 2 ^ nC → ∀ v, dPq w L p i j S v ↔ dPq w L p i' j' S v) (h : cTd F0 F w L p nC i j) : cTd F0 F w L p nC i' j' := ⟨h.1, fun S hS => ⟨(h.2 S hS).1, fun k => lvX_cg (e S hS) ((h.2 S hS).2.1 k), (h.2 S hS).2.2⟩⟩
theorem cTd_next (hn : nC ≤ 6) (hj : j = nC) (hw : ∀ c q u, w c q u → c < nC) (h : cTd F0 F w L p nC i j) : cTd F0 F w L p nC (i + 1) 0 := cTd_cg (fun S _ v => exists_congr fun T => exists_congr fun c => exists_congr fun u => exists_congr fun x => ⟨fun ⟨a, b, k⟩ => ⟨by omega, b, k⟩, fun ⟨a, b, k1, k2, k3, k4, k5⟩ => ⟨by have := hw c p u k4; omega, b, k1, k2, k3, k4, k5⟩⟩) h
theorem Dy31 (hw : ∀ c q u, w c q u → u ≤ 5) (hL : L.length ≤ 7) {S : Nat → Prop} (h : Dy w L S v) : v < 2 ^ 31 := by
  have := Dy_le hw h
  omega
/-- a set that is passed by -/
theorem cTd_skip (hw : ∀ c q u, w c q u → u ≤ 5) (hL : L.length ≤ 7) (h : cTd F0 F w L p nC i 0) (hb : cTb F0 w L nC) (hi : i < 2 ^ nC) (hs : ¬ zpc i = L.length ∨ F 22 i = -1) : cTd F0 F w L p nC (i + 1) 0 := cTd_cg (fun S _ v => exists_congr fun T => exists_congr fun c => exists_congr fun u => exists_congr fun x => ⟨fun ⟨a, b, k⟩ => ⟨by omega, b, k⟩, fun ⟨a, b, k1, k2, k3, k4, k5, k6⟩ => ⟨by
  rcases a with a | a
  · by_cases e : T = i
    · subst e
      rcases hs with hs | hs
      · exact absurd k1 hs
      · rw [(h.2 T hi).1 k1] at hs
        rcases (hb.2 T hi).1 k1 with ⟨-, q⟩ | ⟨m, q, q2, -⟩
        · exact absurd k5 (q x)
        · exact absurd (q.symm.trans hs) (znm1 (Dy31 hw hL q2))
    · omega
  · omega, b, k1, k2, k3, k4, k5, k6⟩⟩) h
/-- a coat that is passed by -/
theorem cTd_pass (h : cTd F0 F w L p nC i j) (hn : (∀ u, ¬ w j p u) ∨ i.testBit j = true) : cTd F0 F w L p nC i (j + 1) := cTd_cg (fun S _ v => exists_congr fun T => exists_congr fun c => exists_congr fun u => exists_congr fun x => ⟨fun ⟨a, b, k⟩ => ⟨by omega, b, k⟩, fun ⟨a, b, k1, k2, k3, k4, k5⟩ => ⟨by
  rcases a with a | ⟨rfl, a⟩
  · exact Or.inl a
  · by_cases e : c = j
    · subst e
      rcases hn with hn | hn
      · exact absurd k4 (hn u)
      · rw [k2] at hn
        cases hn
    · exact Or.inr ⟨rfl, by omega⟩, b, k1, k2, k3, k4, k5⟩⟩) h
theorem cTd_put (hw : ∀ c q u, w c q u → u ≤ 5) (hun : ∀ c q u u', w c q u → w c q u' → u = u') (hL : L.length ≤ 7) (hn : nC ≤ 6) (h : cTd F0 F w L p nC i j) (hi : i < 2 ^ nC) (hj : j < nC) (hz : zpc i = L.length) (hbit : i.testBit j = false) (hu : w j p u) (hx : Dy w L (fun d => i.testBit d = true) x) (hm : ∀ y, Dy w L (fun d => i.testBit d = true) y → x ≤ y) (hk : (F' = fset F 22 (i ||| 2 ^ j) (nI (x + u)) ∧ (F 22 (i ||| 2 ^ j) = -1 ∨ nI (x + u) < F 22 (i ||| 2 ^ j))) ∨ (F' = F ∧ ¬ F 22 (i ||| 2 ^ j) = -1 ∧ ¬ nI (x + u) < F 22 (i ||| 2 ^ j))) : cTd F0 F' w L p nC i (j + 1) := by
  have h6 : i < 64 := Nat.lt_of_lt_of_le hi (zp2 (n := 6) hn)
  have j6 : j < 6 := by omega
  have hz1 : zpc (i ||| 2 ^ j) = L.length + 1 := by rw [zpc_or6 i h6 j j6 hbit, hz]
  have ne : ∀ S, ¬ zpc S = L.length + 1 → S ≠ i ||| 2 ^ j := fun S q e => q (e ▸ hz1)
  have o : ∀ k l, ¬ (k = 22 ∧ l = i ||| 2 ^ j) → F' k l = F k l := fun k l q => by
    rcases hk with ⟨rfl, -⟩ | ⟨rfl, -⟩
    · rw [fset_ne (by omega)]
    · rfl
  have at1 : (F' 22 (i ||| 2 ^ j) = nI (x + u) ∧ (F 22 (i ||| 2 ^ j) = -1 ∨ nI (x + u) < F 22 (i ||| 2 ^ j))) ∨ (F' 22 (i ||| 2 ^ j) = F 22 (i ||| 2 ^ j) ∧ ¬ F 22 (i ||| 2 ^ j) = -1 ∧ ¬ nI (x + u) < F 22 (i ||| 2 ^ j)) := by
    rcases hk with ⟨rfl, k⟩ | ⟨rfl, k⟩
    · exact Or.inl ⟨fset_eq, k⟩
    · exact Or.inr ⟨rfl, k⟩
  have vb : x + u < 2 ^ 31 := by
    have a := Dy_le hw hx
    have b := hw j p u hu
    omega
  refine ⟨fun k l q => (o k l (fun z => q z.1)).trans (h.1 k l q), fun S hS => ⟨fun e => ?_, fun e => ?_, fun e => ?_⟩⟩
  · rw [o 22 S (fun z => ne S (by omega) z.2)]
    exact (h.2 S hS).1 e
  · by_cases es : S = i ||| 2 ^ j
    · subst es
      refine lvX_cg (fun v => ?_) (lvX_add (Q := fun v => ∃ y, Dy w L (fun d => i.testBit d = true) y ∧ v = y + u) ((h.2 _ hS).2.1 e) ⟨x, hx, rfl⟩ (fun v ⟨y, hy, ev⟩ => by have := hm y hy; omega) vb (fun v hv => dPq_b hw hL hv) at1)
      constructor
      · rintro (⟨T, c, u', y, a, b⟩ | ⟨y, hy, rfl⟩)
        · exact ⟨T, c, u', y, by omega, b⟩
        · exact ⟨i, j, u, y, by omega, j6, hz, hbit, rfl, hu, hy, rfl⟩
      · rintro ⟨T, c, u', y, a, b1, b2, b3, b4, b5, b6, b7⟩
        rcases a with a | ⟨rfl, a⟩
        · exact Or.inl ⟨T, c, u', y, Or.inl a, b1, b2, b3, b4, b5, b6, b7⟩
        · by_cases ec : c = j
          · subst ec
            obtain rfl := hun c p u' u b5 hu
            exact Or.inr ⟨y, b6, b7⟩
          · exact Or.inl ⟨T, c, u', y, Or.inr ⟨rfl, by omega⟩, b1, b2, b3, b4, b5, b6, b7⟩
    · rw [o 22 S (fun z => es z.2)]
      refine lvX_cg (fun v => ?_) ((h.2 S hS).2.1 e)
      constructor
      · rintro ⟨T, c, u', y, a, b⟩
        exact ⟨T, c, u', y, by omega, b⟩
      · rintro ⟨T, c, u', y, a, b1, b2, b3, b4, b5⟩
        refine ⟨T, c, u', y, ?_, b1, b2, b3, b4, b5⟩
        rcases a with a | ⟨rfl, a⟩
        · exact Or.inl a
        · by_cases ec : c = j
          · subst ec
            exact absurd b4 es
          · exact Or.inr ⟨rfl, by omega⟩
  · rw [o 22 S (fun z => ne S (by omega) z.2)]
    exact (h.2 S hS).2.2 e
theorem cTd_end (hn : nC ≤ 6) (h : cTd F0 F w L p nC (2 ^ nC) 0) (hb : cTb F0 w L nC) (hF : F' = fset F 18 6 (nI (L.length + 1))) : cTb F' w (p :: L) nC := by
  refine ⟨by rw [hF, fset_eq, List.length_cons], fun S hS => ?_⟩
  have h64 : S < 64 := Nat.lt_of_lt_of_le hS (zp2 (n := 6) hn)
  have e22 : F' 22 S = F 22 S := by rw [hF, fset_ne (by omega)]
  rw [e22, List.length_cons]
  refine ⟨fun e => lvX_cg (fun v => (dPq_end h64 hn hS).trans ⟨And.right, fun q => ⟨e, q⟩⟩) ((h.2 S hS).2.1 e), (h.2 S hS).2.2⟩
end TD
/-- the least waste of so many parts, over all sets of coats -/
def dLs (w : Nat → Nat → Nat → Prop) (L : List Nat) (v : Nat) : Prop := ∃ S, Dy w L S v
/-- the least of the first i sets -/
def cLf (F : Nat → Nat → Int32) (w : Nat → Nat → Nat → Prop) (L : List Nat) (i : Nat) (x : Int32) : Prop := lvX x (fun v => ∃ S, S < i ∧ zpc S = L.length ∧ Dy w L (fun d => S.testBit d = true) v)
section LF
variable {F : Nat → Nat → Int32} {w : Nat → Nat → Nat → Prop} {L : List Nat} {nC i v : Nat} {x : Int32}
theorem cLf_0 : cLf F w L 0 (-1) := lvX_0 fun v ⟨S, h, _⟩ => absurd h (Nat.not_lt_zero S)
theorem cLf_no (h : cLf F w L i x) (hn : ¬ zpc i = L.length ∨ ∀ v, ¬ Dy w L (fun d => i.testBit d = true) v) : cLf F w L (i + 1) x := lvX_cg (fun v => ⟨fun ⟨S, a, b⟩ => ⟨S, by omega, b⟩, fun ⟨S, a, b, c⟩ => ⟨S, by
  by_cases e : S = i
  · subst e
    rcases hn with hn | hn
    · exact absurd b hn
    · exact absurd c (hn v)
  · omega, b, c⟩⟩) h
theorem cLf_yes {x' : Int32} (hw : ∀ c q u, w c q u → u ≤ 5) (hL : L.length ≤ 7) (h : cLf F w L i x) (hz : zpc i = L.length) (hv : Dy w L (fun d => i.testBit d = true) v) (hm : ∀ y, Dy w L (fun d => i.testBit d = true) y → v ≤ y) (hx : (x' = nI v ∧ (x = -1 ∨ nI v < x)) ∨ (x' = x ∧ ¬ x = -1 ∧ ¬ nI v < x)) : cLf F w L (i + 1) x' := by
  refine lvX_cg (fun u => ?_) (lvX_add (Q := fun u => Dy w L (fun d => i.testBit d = true) u) h hv hm (Dy31 hw hL hv) (fun u ⟨_, _, _, k⟩ => Dy31 hw hL k) hx)
  constructor
  · rintro (⟨S, a, b⟩ | k)
    · exact ⟨S, by omega, b⟩
    · exact ⟨i, Nat.lt_succ_self i, hz, k⟩
  · rintro ⟨S, a, b, c⟩
    by_cases e : S = i
    · subst e
      exact Or.inr c
    · exact Or.inl ⟨S, by omega, b, c⟩
end LF
theorem cCo.mvT {nC : Nat} {F F' : Nat → Nat → Int32} (h : cCo nC F) (e : ∀ k l, k ≠ 22 → F' k l = F k l) : cCo nC F' := ⟨fun c hc => by rw [e 19 c (by decide)]; exact h.1 c hc, fun c hc => by rw [e 20 c (by decide)]; exact h.2 c hc⟩
theorem cz_iff {i n : Nat} {x : Int32} (hi : i < 64) (e : x = nI n) (hn : n < 2 ^ 31) : zbc (nI i) = x ↔ zpc i = n := by
  rw [e, zbc_zpc i (by omega)]
  exact nI_eq (by have := zpc_7 i (by omega); omega) hn
theorem tbF {b : Bool} (h : ¬ b = true) : b = false := by
  cases b
  · rfl
  · exact absurd rfl h
theorem cTb_0 {F : Nat → Nat → Int32} {w : Nat → Nat → Nat → Prop} {nC : Nat} (hn : nC ≤ 6) (h6 : F 18 6 = nI 0) (h0 : F 22 0 = nI 0) (h : ∀ s, 0 < s → s < 64 → F 22 s = -1) : cTb F w [] nC := ⟨h6, fun S hS => by
  have h64 : S < 64 := Nat.lt_of_lt_of_le hS (zp2 (n := 6) hn)
  have key : ∀ S, S < 64 → zpc S = 0 → S = 0 := by decide +kernel
  refine ⟨fun e => ?_, fun e => ?_⟩
  · obtain rfl := key S h64 e
    exact Or.inr ⟨0, h0, ⟨fun c => by show ¬ Nat.testBit 0 c = true; rw [Nat.zero_testBit]; decide, rfl⟩, fun u _ => Nat.zero_le u⟩
  · refine h S (Nat.pos_of_ne_zero fun z => ?_) h64
    rw [z] at e
    exact absurd e (by decide)⟩
theorem Dy_mask {w : Nat → Nat → Nat → Prop} {nC : Nat} (hn : nC ≤ 6) (hwC : ∀ c q u, w c q u → c < nC) : ∀ {L : List Nat} {S : Nat → Prop} {v : Nat}, Dy w L S v → ∃ T, T < 2 ^ nC ∧ (∀ d, T.testBit d = true ↔ S d) ∧ zpc T = L.length := by
  intro L
  induction L with
  | nil =>
    intro S v h
    exact ⟨0, Nat.two_pow_pos _, fun d => by rw [Nat.zero_testBit]; exact ⟨fun q => (by cases q), fun q => absurd q (h.1 d)⟩, rfl⟩
  | cons p L ih =>
    intro S v h
    obtain ⟨c, u, x, h1, h2, h3, h4⟩ := h
    obtain ⟨T, t1, t2, t3⟩ := ih h3
    have hc := hwC c p u h2
    have h64 : T < 64 := Nat.lt_of_lt_of_le t1 (zp2 (n := 6) hn)
    have tc : T.testBit c = false := tbF fun q => ((t2 c).mp q).2 rfl
    refine ⟨T ||| 2 ^ c, Nat.or_lt_two_pow t1 (Nat.pow_lt_pow_right (by decide) hc), fun d => ?_, by rw [zpc_or6 T h64 c (by omega) tc, t3, List.length_cons]⟩
    rw [tb_or2, t2 d]
    constructor
    · rintro (⟨a, -⟩ | rfl)
      · exact a
      · exact h1
    · intro a
      by_cases e : d = c
      · exact Or.inr e
      · exact Or.inl ⟨a, e⟩
/-- over all sets of coats -/
theorem cLf_end {F : Nat → Nat → Int32} {w : Nat → Nat → Nat → Prop} {L : List Nat} {nC : Nat} {x : Int32} (hn : nC ≤ 6) (hwC : ∀ c q u, w c q u → c < nC) (h : cLf F w L (2 ^ nC) x) : lvX x (dLs w L) := lvX_cg (fun v => ⟨fun ⟨S, _, _, k⟩ => ⟨_, k⟩, fun ⟨S, k⟩ => by
  obtain ⟨T, t1, t2, t3⟩ := Dy_mask hn hwC k
  exact ⟨T, t1, t3, Dy_cg (fun d => (t2 d).symm) k⟩⟩) h
/-- coat c on part p for the player who has it wastes u -/
def cWw (F : Nat → Nat → Int32) (nC : Nat) (h : Nat → Nat) (c p u : Nat) : Prop := cW1 F nC (F 3 p).toNatClampNeg (F 9 (h p)).toNatClampNeg c u
section WW
variable {F G : Nat → Nat → Int32} {nC rp sp p : Nat} {h : Nat → Nat}
theorem cWw_5 : ∀ c q u, cWw F nC h c q u → u ≤ 5 := fun _ _ _ k => cW1_le k
theorem cWw_C : ∀ c q u, cWw F nC h c q u → c < nC := fun _ _ _ k => k.1
theorem cWw_un : ∀ c q u u', cWw F nC h c q u → cWw F nC h c q u' → u = u' := fun _ _ _ _ k k' => cW1_un k k'
theorem cCo.mvJ (k : cCo nC F) (e : cJ F G) : cCo nC G := ⟨fun c hc => by rw [e 19 c (by simp [scr])]; exact k.1 c hc, fun c hc => by rw [e 20 c (by simp [scr])]; exact k.2 c hc⟩
theorem cWw_at (e : cJ F G) (e1 : F 3 p = nI rp) (e2 : F 9 (h p) = nI sp) (hr : rp < 4) (hs : sp < 10) : ∀ c u, cWw F nC h c p u ↔ cW1 G nC rp sp c u := fun c u => by
  unfold cWw
  rw [e1, e2, nI_clamp (by omega), nI_clamp (by omega)]
  exact (cW1_cg fun k j q => by
    rcases q with ⟨rfl, rfl⟩ | rfl | rfl
    · exact e 18 4 rfl
    · exact e 19 j (by simp [scr])
    · exact e 20 j (by simp [scr])).symm
end WW
set_option maxRecDepth 100000 in
set_option maxHeartbeats 4000000 in
theorem k_X4_wasteOf_x {g : zG} {t : Nat × Nat} {X0 : Nat} {σ0 : Nat → Option va_E} {F : Nat → Nat → Int32} (hX : g.2.1.size ≤ X0) {nP nS nA nC nT : Nat} (hI : cI nP nS nA nC nT F) (b rp sp : Nat) (hb : b < nC) (hr : rp < 4) (hs : sp < 10) (hV : cCo nC F) : Ct g 11 yX4_wasteOf cX4_wasteOf 5 (some FieldType.int) 0 0 [.ref (X0 + 18), .int (nI (b)), .int (nI (rp)), .int (nI (sp))] (t, cW g X0 F σ0) (fun v σ' => ((v = some (.int (-1)) ∧ ∀ u, ¬ cW1 F nC rp sp b u) ∨ ∃ u, v = some (.int (nI u)) ∧ cW1 F nC rp sp b u) ∧ σ' = (t, cW g X0 F σ0)) zNo := by
  refine Ct.of (lv := [(0, .ref (X0 + 18)), (1, .int (nI (b))), (2, .int (nI (rp))), (3, .int (nI (sp)))]) (by decide) (Nat.le_of_ble_eq_true rfl) rfl ?_
  intro κ X E B _
  have X : zX g κ RX4 cX4_wasteOf 5 := X
  obtain ⟨b1, b2, b3, b4, b5⟩ := hI.bnd
  obtain ⟨rc, hrc, erc⟩ := hV.1 b hb
  obtain ⟨sc, hsc, esc⟩ := hV.2 b hb
  refine V_aload_n X dX4_wasteOf_0 0 rfl ?_
  refine C_getf X fl_X4_15 18 (by decide) rfl rfl dX4_wasteOf_1 ?_
  refine V_iload_n X dX4_wasteOf_4 1 rfl ?_
  refine C_iald X (N := 6) 20 (by decide) (b) rfl (by omega) (by decide) rfl dX4_wasteOf_5 ?_
  rw [esc]
  refine V_iload_n X dX4_wasteOf_6 3 rfl ?_
  refine V_isub X dX4_wasteOf_7 (V.topi (fun w1 ew1 => ?_))
  refine V_mabs X E.room (Nat.le_refl _) (Nat.le_refl _) (by decide) ml_X4_49 st_J9_abs_0f7a4 rfl rfl (Nat.le_of_ble_eq_true rfl) dX4_wasteOf_8 ?_
  rw [ew1, zab_ds sc hsc sp hs]
  show V g κ 5 0 0 (t, cW g X0 F σ0) 11 [(0, .ref (X0 + 18)), (1, .int (nI (b))), (2, .int (nI (rp))), (3, .int (nI (sp)))] [.int (nI ((sc - sp) + (sp - sc)))]
  refine V_istore X [(4, .int (nI ((sc - sp) + (sp - sc)))), (0, .ref (X0 + 18)), (1, .int (nI (b))), (2, .int (nI (rp))), (3, .int (nI (sp)))] dX4_wasteOf_11 (by decide) rfl ?_
  refine V_aload_n X dX4_wasteOf_13 1 rfl ?_
  refine C_getf X fl_X4_54 18 (by decide) rfl rfl dX4_wasteOf_14 (V.topi (fun x2 ex2 => ?_))
  refine V_iload_n X dX4_wasteOf_17 2 rfl ?_
  refine V_callSN (rest := []) X E.room ml_X4_41 st_X5_has (by omega) (by decide) (k_X5_has (σ := (t, cW g X0 F σ0)) (x2) (nI (b))) rfl rfl (Nat.le_of_ble_eq_true rfl) ⟨Nat.le_refl _, Nat.le_refl _⟩ dX4_wasteOf_18 (fun _ _ h => False.elim h) (fun v18 σ' hp18 => ?_)
  obtain ⟨hp18, rfl⟩ := hp18
  obtain ⟨r3, rfl, hr3, fr3⟩ := hp18
  show V g κ 5 0 0 (t, cW g X0 F σ0) 21 [(4, .int (nI ((sc - sp) + (sp - sc)))), (0, .ref (X0 + 18)), (1, .int (nI (b))), (2, .int (nI (rp))), (3, .int (nI (sp)))] [.int (r3)]
  refine V_ifne X (tgt := 40) dX4_wasteOf_21 (by decide) (fun h4 => ?_) (fun h4 => ?_)
  · -- 21 true
    have zh4 := fr3.mp h4
    refine V_iconst (v := (-1)) X dX4_wasteOf_40 (by decide) ?_
    exact V_iret X E (Nat.zero_le _) (Nat.zero_le _) ⟨Or.inl ⟨rfl, cW1_no erc esc hrc hsc (Or.inl (by rw [← ex2]; exact zh4))⟩, rfl⟩ dX4_wasteOf_41
  · -- 21 false
    have zh4 := mt fr3.mpr (not_not_intro h4)
    refine V_aload_n X dX4_wasteOf_24 1 rfl ?_
    refine C_getf X fl_X4_9 18 (by decide) rfl rfl dX4_wasteOf_25 ?_
    refine V_iload_n X dX4_wasteOf_28 2 rfl ?_
    refine C_iald X (N := 6) 19 (by decide) (b) rfl (by omega) (by decide) rfl dX4_wasteOf_29 ?_
    rw [erc]
    refine V_iload_n X dX4_wasteOf_30 3 rfl ?_
    refine V_icmpltN X (by omega) (by omega) (tgt := 40) dX4_wasteOf_31 (by decide) (fun h5 => ?_) (fun h5 => ?_)
    · -- 31 true
      refine V_iconst (v := (-1)) X dX4_wasteOf_40 (by decide) ?_
      exact V_iret X E (Nat.zero_le _) (Nat.zero_le _) ⟨Or.inl ⟨rfl, cW1_no erc esc hrc hsc (Or.inr (Or.inl (by omega)))⟩, rfl⟩ dX4_wasteOf_41
    · -- 31 false
      refine V_iload X dX4_wasteOf_34 0 rfl ?_
      refine V_iconst (v := nI 2) X dX4_wasteOf_36 (by decide) ?_
      refine V_icmpleN X (by omega) (by omega) (tgt := 42) dX4_wasteOf_37 (by decide) (fun h6 => ?_) (fun h6 => ?_)
      · -- 37 true
        refine V_aload_n X dX4_wasteOf_42 1 rfl ?_
        refine C_getf X fl_X4_9 18 (by decide) rfl rfl dX4_wasteOf_43 ?_
        refine V_iload_n X dX4_wasteOf_46 2 rfl ?_
        refine C_iald X (N := 6) 19 (by decide) (b) rfl (by omega) (by decide) rfl dX4_wasteOf_47 ?_
        rw [erc]
        refine V_iload_n X dX4_wasteOf_48 3 rfl ?_
        refine V_isubN X (by omega) dX4_wasteOf_49 ?_
        refine V_iload X dX4_wasteOf_50 0 rfl ?_
        refine V_iaddN X dX4_wasteOf_52 ?_
        exact V_iret X E (Nat.zero_le _) (Nat.zero_le _) ⟨Or.inr ⟨_, rfl, hb, (by rw [← ex2]; exact zh4), rc, sc, hrc, hsc, erc, esc, by omega, by omega, rfl⟩, rfl⟩ dX4_wasteOf_53
      · -- 37 false
        refine V_iconst (v := (-1)) X dX4_wasteOf_40 (by decide) ?_
        exact V_iret X E (Nat.zero_le _) (Nat.zero_le _) ⟨Or.inl ⟨rfl, cW1_no erc esc hrc hsc (Or.inr (Or.inr (by omega)))⟩, rfl⟩ dX4_wasteOf_41
set_option maxRecDepth 100000 in
set_option maxHeartbeats 4000000 in
theorem k_X4_keepLess_x {g : zG} {t : Nat × Nat} {X0 : Nat} {σ0 : Nat → Option va_E} {F : Nat → Nat → Int32} (hX : g.2.1.size ≤ X0) {nP nS nA nC nT : Nat} (hI : cI nP nS nA nC nT F) (b v : Nat) (hb : b < 64) : Ct g 10 yX4_keepLess cX4_keepLess 3 none 0 0 [.ref (X0 + 18), .int (nI (b)), .int (nI (v))] (t, cW g X0 F σ0) (fun r σ' => r = none ∧ ∃ F' : Nat → Nat → Int32, σ' = (t, cW g X0 F' σ0) ∧ ((F' = fset F 22 b (nI v) ∧ (F 22 b = -1 ∨ nI v < F 22 b)) ∨ (F' = F ∧ ¬ F 22 b = -1 ∧ ¬ nI v < F 22 b))) zNo := by
  refine Ct.of (lv := [(0, .ref (X0 + 18)), (1, .int (nI (b))), (2, .int (nI (v)))]) (by decide) (Nat.le_of_ble_eq_true rfl) rfl ?_
  intro κ X E B _
  have X : zX g κ RX4 cX4_keepLess 3 := X
  obtain ⟨b1, b2, b3, b4, b5⟩ := hI.bnd
  refine V_aload_n X dX4_keepLess_0 0 rfl ?_
  refine C_getf X fl_X4_21 18 (by decide) rfl rfl dX4_keepLess_1 ?_
  refine V_iload_n X dX4_keepLess_4 1 rfl ?_
  refine C_iald X (N := 64) 22 (by decide) (b) rfl (by omega) (by decide) rfl dX4_keepLess_5 ?_
  refine V.topi (fun x1 ex1 => ?_)
  refine V_iconst (v := (-1)) X dX4_keepLess_6 (by decide) ?_
  refine V_icmpeq X (tgt := 20) dX4_keepLess_7 (by decide) (fun h2 => ?_) (fun h2 => ?_)
  · -- 7 true
    refine V_aload_n X dX4_keepLess_20 0 rfl ?_
    refine C_getf X fl_X4_21 18 (by decide) rfl rfl dX4_keepLess_21 ?_
    refine V_iload_n X dX4_keepLess_24 1 rfl ?_
    refine V_iload_n X dX4_keepLess_25 2 rfl ?_
    refine C_iast X (N := 64) 22 (by decide) hX (b) rfl (by omega) (by decide) (fun _ => rfl) dX4_keepLess_26 (fun F3 hF3 => ?_)
    have hJF3 := (cJ.rfl' : cJ F F).set hF3 (zscr (by omega))
    exact V_vret X E (Nat.zero_le _) (Nat.zero_le _) ⟨rfl, _, rfl, Or.inl ⟨hF3, Or.inl (ex1.symm.trans h2)⟩⟩ dX4_keepLess_27
  · -- 7 false
    refine V_iload_n X dX4_keepLess_10 2 rfl ?_
    refine V_aload_n X dX4_keepLess_11 0 rfl ?_
    refine C_getf X fl_X4_21 18 (by decide) rfl rfl dX4_keepLess_12 ?_
    refine V_iload_n X dX4_keepLess_15 1 rfl ?_
    refine C_iald X (N := 64) 22 (by decide) (b) rfl (by omega) (by decide) rfl dX4_keepLess_16 ?_
    refine V.topi (fun x4 ex4 => ?_)
    refine V_icmpge X (tgt := 27) dX4_keepLess_17 (by decide) (fun h5 => ?_) (fun h5 => ?_)
    · -- 17 true
      exact V_vret X E (Nat.zero_le _) (Nat.zero_le _) ⟨rfl, _, rfl, Or.inr ⟨rfl, fun q => h2 (ex1.trans q), fun q => absurd (Int32.lt_of_lt_of_le (by rw [ex4]; exact q) h5) Int32.lt_irrefl⟩⟩ dX4_keepLess_27
    · -- 17 false
      refine V_aload_n X dX4_keepLess_20 0 rfl ?_
      refine C_getf X fl_X4_21 18 (by decide) rfl rfl dX4_keepLess_21 ?_
      refine V_iload_n X dX4_keepLess_24 1 rfl ?_
      refine V_iload_n X dX4_keepLess_25 2 rfl ?_
      refine C_iast X (N := 64) 22 (by decide) hX (b) rfl (by omega) (by decide) (fun _ => rfl) dX4_keepLess_26 (fun F6 hF6 => ?_)
      have hJF6 := (cJ.rfl' : cJ F F).set hF6 (zscr (by omega))
      exact V_vret X E (Nat.zero_le _) (Nat.zero_le _) ⟨rfl, _, rfl, Or.inl ⟨hF6, Or.inr (by rw [← ex4]; exact Int32.not_le.mp h5)⟩⟩ dX4_keepLess_27
set_option maxRecDepth 100000 in
set_option maxHeartbeats 4000000 in
theorem k_X4_startDressing_x {g : zG} {t : Nat × Nat} {X0 : Nat} {σ0 : Nat → Option va_E} {F : Nat → Nat → Int32} (hX : g.2.1.size ≤ X0) {nP nS nA nC nT : Nat} (hI : cI nP nS nA nC nT F)  : Ct g 10 yX4_startDressing cX4_startDressing 2 none 0 0 [.ref (X0 + 18)] (t, cW g X0 F σ0) (fun r σ' => r = none ∧ ∃ F' : Nat → Nat → Int32, σ' = (t, cW g X0 F' σ0) ∧ cJ F F' ∧ F' 18 6 = nI 0 ∧ F' 22 0 = nI 0 ∧ ∀ s, 0 < s → s < 64 → F' 22 s = -1) zNo := by
  refine Ct.of (lv := [(0, .ref (X0 + 18))]) (by decide) (Nat.le_of_ble_eq_true rfl) rfl ?_
  intro κ X E B _
  have X : zX g κ RX4 cX4_startDressing 2 := X
  obtain ⟨b1, b2, b3, b4, b5⟩ := hI.bnd
  refine V_iconst (v := nI 0) X dX4_startDressing_0 (by decide) ?_
  refine V_istore_n X [(1, .int (nI (0))), (0, .ref (X0 + 18))] dX4_startDressing_1 (by decide) rfl ?_
  have L2 : ∀ (n2 : Nat) (i2 : Nat) (G2 : Nat → Nat → Int32), n2 = 64 - i2 → i2 ≤ 64 → cJ F G2 → (∀ s, s < i2 → G2 22 s = -1) → V g κ 2 0 0 (t, cW g X0 G2 σ0) 2 [(1, .int (nI (i2))), (0, .ref (X0 + 18))] [] := by
    intro n2
    induction n2 using Nat.strongRecOn with
    | ind n2 ih2 =>
      intro i2 G2 hn2 hi2 hJ2 hv2_0
      refine V_iload_n X dX4_startDressing_2 0 rfl ?_
      refine V_aload_n X dX4_startDressing_3 1 rfl ?_
      refine C_getf X fl_X4_21 18 (by decide) rfl rfl dX4_startDressing_4 ?_
      refine C_alen (N := 64) (v := nI 64) X 22 (by decide) rfl (by decide) dX4_startDressing_7 ?_
      refine V_icmpgeN X (by omega) (by omega) (tgt := 24) dX4_startDressing_8 (by decide) (fun h1 => ?_) (fun h1 => ?_)
      · -- 8 true
        refine V_aload_n X dX4_startDressing_24 1 rfl ?_
        refine C_getf X fl_X4_21 18 (by decide) rfl rfl dX4_startDressing_25 ?_
        refine V_iconst (v := nI 0) X dX4_startDressing_28 (by decide) ?_
        refine V_iconst (v := nI 0) X dX4_startDressing_29 (by decide) ?_
        refine C_iast X (N := 64) 22 (by decide) hX (0) rfl (by omega) (by decide) (fun _ => rfl) dX4_startDressing_30 (fun F2 hF2 => ?_)
        have hJF2 := (hJ2 : cJ F G2).set hF2 (zscr (by omega))
        refine V_aload_n X dX4_startDressing_31 1 rfl ?_
        refine V_iconst (v := nI 0) X dX4_startDressing_32 (by decide) ?_
        refine C_putf X fl_X4_28 zt_X4 18 (by decide) hX rfl (Nat.le_of_ble_eq_true rfl) rfl rfl rfl rfl rfl dX4_startDressing_33 (fun F3 hF3 => ?_)
        have hJF3 := (hJF2 : cJ F F2).set hF3 rfl
        exact V_vret X E (Nat.zero_le _) (Nat.zero_le _) ⟨rfl, _, rfl, hJF3, by rw [hF3, fset_eq], by rw [hF3, fset_ne (by omega), hF2, fset_eq], fun s h0 h6 => by rw [hF3, fset_ne (by omega), hF2, fset_ne (by omega)]; exact hv2_0 s (by omega)⟩ dX4_startDressing_36
      · -- 8 false
        refine V_aload_n X dX4_startDressing_11 1 rfl ?_
        refine C_getf X fl_X4_21 18 (by decide) rfl rfl dX4_startDressing_12 ?_
        refine V_iload_n X dX4_startDressing_15 0 rfl ?_
        refine V_iconst (v := (-1)) X dX4_startDressing_16 (by decide) ?_
        refine C_iast X (N := 64) 22 (by decide) hX (i2) rfl (by omega) (by decide) (fun _ => rfl) dX4_startDressing_17 (fun F4 hF4 => ?_)
        have hvF4 : ∀ s, s < i2 + 1 → F4 22 s = -1 := fun s hs => by
          by_cases e : s = i2
          · rw [e, hF4, fset_eq]
          · rw [hF4, fset_ne (Or.inr e)]; exact hv2_0 s (by omega)
        have hJF4 := (hJ2 : cJ F G2).set hF4 (zscr (by omega))
        refine V_iinc X (nI (i2 + 1)) [(1, .int (nI (i2 + 1))), (0, .ref (X0 + 18))] dX4_startDressing_18 0 rfl (zinc _) (by decide) rfl ?_
        refine V_goto (tgt := 2) X dX4_startDressing_21 (by decide) ?_
        exact V.sub [0, 1] rfl (ih2 _ (by omega) (i2 + 1) F4 rfl (by omega) hJF4 (hvF4))
  exact L2 _ 0 F rfl (by omega) cJ.rfl' (fun s hs => absurd hs (Nat.not_lt_zero s))
set_option maxRecDepth 100000 in
set_option maxHeartbeats 4000000 in
theorem k_X4_dressOneMore_x {g : zG} {t : Nat × Nat} {X0 : Nat} {σ0 : Nat → Option va_E} {F : Nat → Nat → Int32} (hX : g.2.1.size ≤ X0) {nP nS nA nC nT : Nat} (hI : cI nP nS nA nC nT F) (rp sp : Nat) (hr : rp < 4) (hs : sp < 10) (hV : cCo nC F) (w : Nat → Nat → Nat → Prop) (L : List Nat) (p : Nat) (hw5 : ∀ c q u, w c q u → u ≤ 5) (hwC : ∀ c q u, w c q u → c < nC) (hun : ∀ c q u u', w c q u → w c q u' → u = u') (hwp : ∀ c u, w c p u ↔ cW1 F nC rp sp c u) (hL : L.length ≤ 6) (hT : cTb F w L nC) : Ct g 12 yX4_dressOneMore cX4_dressOneMore 6 none 0 0 [.ref (X0 + 18), .int (nI (rp)), .int (nI (sp))] (t, cW g X0 F σ0) (fun r σ' => r = none ∧ ∃ F' : Nat → Nat → Int32, σ' = (t, cW g X0 F' σ0) ∧ cJ F F' ∧ cTb F' w (p :: L) nC) zNo := by
  refine Ct.of (lv := [(0, .ref (X0 + 18)), (1, .int (nI (rp))), (2, .int (nI (sp)))]) (by decide) (Nat.le_of_ble_eq_true rfl) rfl ?_
  intro κ X E B _
  have X : zX g κ RX4 cX4_dressOneMore 6 := X
  obtain ⟨b1, b2, b3, b4, b5⟩ := hI.bnd
  have h64 : 2 ^ nC ≤ 64 := zp2 (n := 6) (by omega)
  have h1 := Nat.one_le_two_pow (n := nC)
  refine V_iconst (v := nI 0) X dX4_dressOneMore_0 (by decide) ?_
  refine V_istore_n X [(3, .int (nI (0))), (0, .ref (X0 + 18)), (1, .int (nI (rp))), (2, .int (nI (sp)))] dX4_dressOneMore_1 (by decide) rfl ?_
  have L2 : ∀ (n2 : Nat) (i2 : Nat) (G2 : Nat → Nat → Int32), n2 = 2 ^ nC - i2 → i2 ≤ 2 ^ nC → cJ F G2 → cTd F G2 w L p nC i2 0 → V g κ 6 0 0 (t, cW g X0 G2 σ0) 2 [(3, .int (nI (i2))), (0, .ref (X0 + 18)), (1, .int (nI (rp))), (2, .int (nI (sp)))] [] := by
    intro n2
    induction n2 using Nat.strongRecOn with
    | ind n2 ih2 =>
      intro i2 G2 hn2 hi2 hJ2 hv2_0
      refine V_iload_n X dX4_dressOneMore_2 0 rfl ?_
      refine V_iconst (v := nI 1) X dX4_dressOneMore_3 (by decide) ?_
      refine V_aload_n X dX4_dressOneMore_4 1 rfl ?_
      refine C_getfN (z := nI (nC)) X fl_X4_24 18 (by decide) rfl rfl (hI.mv hJ2).f18_3 dX4_dressOneMore_5 ?_
      refine V_ishl1 X (by omega) dX4_dressOneMore_8 ?_
      refine V_icmpgeN X (by omega) (by omega) (tgt := 104) dX4_dressOneMore_9 (by decide) (fun h1 => ?_) (fun h1 => ?_)
      · -- 9 true
        refine V_aload_n X dX4_dressOneMore_104 1 rfl ?_
        refine V_dup X dX4_dressOneMore_105 rfl ?_
        refine C_getf X fl_X4_28 18 (by decide) rfl rfl dX4_dressOneMore_106 (V.topi (fun x2 ex2 => ?_))
        refine V_iconst (v := nI 1) X dX4_dressOneMore_109 (by decide) ?_
        refine V_iadd X dX4_dressOneMore_110 (V.topi (fun w3 ew3 => ?_))
        refine C_putf X fl_X4_28 zt_X4 18 (by decide) hX rfl (Nat.le_of_ble_eq_true rfl) rfl rfl rfl rfl rfl dX4_dressOneMore_111 (fun F4 hF4 => ?_)
        have hJF4 := (hJ2 : cJ F G2).set hF4 rfl
        exact V_vret X E (Nat.zero_le _) (Nat.zero_le _) ⟨rfl, _, rfl, hJF4, cTd_end (by omega) (by rw [← show i2 = 2 ^ nC by omega]; exact hv2_0) hT (by rw [hF4, ew3, ex2, (hv2_0.1 18 6 (by decide)).trans hT.1, nI_add])⟩ dX4_dressOneMore_114
      · -- 9 false
        refine V_iload_n X dX4_dressOneMore_12 0 rfl ?_
        refine V_callS (rest := []) X E.room ml_X4_31 st_J6_bitCount_0f7a4 (by omega) (by decide) (k_J6_bitCount_0f7a4 (σ := (t, cW g X0 G2 σ0)) (nI (i2))) rfl rfl (Nat.le_of_ble_eq_true rfl) ⟨Nat.le_refl _, Nat.le_refl _⟩ dX4_dressOneMore_13 (fun _ _ h => False.elim h) (fun v13 σ' hp13 => ?_)
        obtain ⟨hp13, rfl⟩ := hp13
        cases (hp13 : _ = some (Value.int (zbc (nI (i2)))))
        show V g κ 6 0 0 (t, cW g X0 G2 σ0) 16 [(3, .int (nI (i2))), (0, .ref (X0 + 18)), (1, .int (nI (rp))), (2, .int (nI (sp)))] [.int (zbc (nI (i2)))]
        refine V_aload_n X dX4_dressOneMore_16 1 rfl ?_
        refine C_getf X fl_X4_28 18 (by decide) rfl rfl dX4_dressOneMore_17 (V.topi (fun x5 ex5 => ?_))
        refine V_icmpne X (tgt := 98) dX4_dressOneMore_20 (by decide) (fun h6 => ?_) (fun h6 => ?_)
        · -- 20 true
          have hz7 : ¬ zpc i2 = L.length := mt (cz_iff (by omega) (ex5.trans ((hv2_0.1 18 6 (by decide)).trans hT.1)) (by omega)).mpr h6
          refine V_iinc X (nI (i2 + 1)) [(3, .int (nI (i2 + 1))), (0, .ref (X0 + 18)), (1, .int (nI (rp))), (2, .int (nI (sp)))] dX4_dressOneMore_98 0 rfl (zinc _) (by decide) rfl ?_
          refine V_goto (tgt := 2) X dX4_dressOneMore_101 (by decide) ?_
          exact V.sub [0, 1, 2, 3] rfl (ih2 _ (by omega) (i2 + 1) G2 rfl (by omega) hJ2 (cTd_skip hw5 (by omega) hv2_0 hT (by omega) (Or.inl hz7)))
        · -- 20 false
          have hz8 : zpc i2 = L.length := (cz_iff (by omega) (ex5.trans ((hv2_0.1 18 6 (by decide)).trans hT.1)) (by omega)).mp h6
          refine V_aload_n X dX4_dressOneMore_23 1 rfl ?_
          refine C_getf X fl_X4_21 18 (by decide) rfl rfl dX4_dressOneMore_24 ?_
          refine V_iload_n X dX4_dressOneMore_27 0 rfl ?_
          refine C_iald X (N := 64) 22 (by decide) (i2) rfl (by omega) (by decide) rfl dX4_dressOneMore_28 ?_
          refine V.topi (fun x9 ex9 => ?_)
          refine V_iconst (v := (-1)) X dX4_dressOneMore_29 (by decide) ?_
          refine V_icmpne X (tgt := 36) dX4_dressOneMore_30 (by decide) (fun h10 => ?_) (fun h10 => ?_)
          · -- 30 true
            have hlt : i2 < 2 ^ nC := by omega
            rcases (hT.2 i2 hlt).1 hz8 with ⟨ex0, -⟩ | ⟨x0, ex0, hx0, hm0⟩
            · exact absurd (ex9.trans (((hv2_0.2 i2 hlt).1 hz8).trans ex0)) h10
            refine V_iconst (v := nI 0) X dX4_dressOneMore_36 (by decide) ?_
            refine V_istore X [(4, .int (nI (0))), (3, .int (nI (i2))), (0, .ref (X0 + 18)), (1, .int (nI (rp))), (2, .int (nI (sp)))] dX4_dressOneMore_37 (by decide) rfl ?_
            have L39 : ∀ (n39 : Nat) (i39 : Nat) (G39 : Nat → Nat → Int32), n39 = nC - i39 → i39 ≤ nC → cJ F G39 → cTd F G39 w L p nC i2 i39 → V g κ 6 0 0 (t, cW g X0 G39 σ0) 39 [(4, .int (nI (i39))), (3, .int (nI (i2))), (0, .ref (X0 + 18)), (1, .int (nI (rp))), (2, .int (nI (sp)))] [] := by
              intro n39
              induction n39 using Nat.strongRecOn with
              | ind n39 ih39 =>
                intro i39 G39 hn39 hi39 hJ39 hv39_0
                refine V_iload X dX4_dressOneMore_39 0 rfl ?_
                refine V_aload_n X dX4_dressOneMore_41 2 rfl ?_
                refine C_getfN (z := nI (nC)) X fl_X4_24 18 (by decide) rfl rfl (hI.mv hJ39).f18_3 dX4_dressOneMore_42 ?_
                refine V_icmpgeN X (by omega) (by omega) (tgt := 98) dX4_dressOneMore_45 (by decide) (fun h11 => ?_) (fun h11 => ?_)
                · -- 45 true
                  refine V_iinc X (nI (i2 + 1)) [(3, .int (nI (i2 + 1))), (4, .int (nI (i39))), (0, .ref (X0 + 18)), (1, .int (nI (rp))), (2, .int (nI (sp)))] dX4_dressOneMore_98 1 rfl (zinc _) (by decide) rfl ?_
                  refine V_goto (tgt := 2) X dX4_dressOneMore_101 (by decide) ?_
                  exact V.sub [0, 2, 3, 4] rfl (ih2 _ (by omega) (i2 + 1) G39 rfl (by omega) hJ39 (cTd_next (by omega) (show i39 = nC by omega) hwC hv39_0))
                · -- 45 false
                  refine V_aload_n X dX4_dressOneMore_48 2 rfl ?_
                  refine V_iload X dX4_dressOneMore_49 0 rfl ?_
                  refine V_iload_n X dX4_dressOneMore_51 3 rfl ?_
                  refine V_iload_n X dX4_dressOneMore_52 4 rfl ?_
                  refine V_callV (rest := []) X E.room ml_X4_37 in_X4_wasteOf (ci := 8) rfl se_X4_wasteOf (C_recv (q := 18) (by decide) rfl) (by decide) (by decide) (k_X4_wasteOf_x hX (hI.mv hJ39) (i39) rp sp (by omega) hr hs (hV.mvT hv39_0.1)) rfl rfl (Nat.le_of_ble_eq_true rfl) ⟨Nat.le_refl _, Nat.le_refl _⟩ dX4_dressOneMore_53 (fun _ _ h => False.elim h) (fun v53 σ' hp53 => ?_)
                  obtain ⟨hp53, rfl⟩ := hp53
                  rcases hp53 with ⟨rfl, nw⟩ | ⟨u9, rfl, hw9⟩
                  · -- no
                    show V g κ 6 0 0 (t, cW g X0 G39 σ0) 56 [(4, .int (nI (i39))), (3, .int (nI (i2))), (0, .ref (X0 + 18)), (1, .int (nI (rp))), (2, .int (nI (sp)))] [.int (-1)]
                    refine V_istore X [(5, .int (-1)), (4, .int (nI (i39))), (3, .int (nI (i2))), (0, .ref (X0 + 18)), (1, .int (nI (rp))), (2, .int (nI (sp)))] dX4_dressOneMore_56 (by decide) rfl ?_
                    refine V_iload X dX4_dressOneMore_58 0 rfl ?_
                    refine V_iconst (v := (-1)) X dX4_dressOneMore_60 (by decide) ?_
                    refine V_icmpeq X (tgt := 92) dX4_dressOneMore_61 (by decide) (fun h12 => ?_) (fun h12 => absurd h12 (not_not_intro rfl))
                    refine V_iinc X (nI (i39 + 1)) [(4, .int (nI (i39 + 1))), (5, .int (-1)), (3, .int (nI (i2))), (0, .ref (X0 + 18)), (1, .int (nI (rp))), (2, .int (nI (sp)))] dX4_dressOneMore_92 1 rfl (zinc _) (by decide) rfl ?_
                    refine V_goto (tgt := 39) X dX4_dressOneMore_95 (by decide) ?_
                    exact V.sub [0, 2, 3, 4, 5] rfl (ih39 _ (by omega) (i39 + 1) G39 rfl (by omega) hJ39 (cTd_pass hv39_0 (Or.inl (fun u q => nw u ((cW1_cg fun k l z => hv39_0.1 k l (by omega)).mpr ((hwp _ u).mp q))))))
                  · -- fits
                    have hw8 : w i39 p u9 := (hwp i39 u9).mpr ((cW1_cg fun k l q => hv39_0.1 k l (by omega)).mp hw9)
                    have u5 : u9 ≤ 5 := cW1_le hw9
                    show V g κ 6 0 0 (t, cW g X0 G39 σ0) 56 [(4, .int (nI (i39))), (3, .int (nI (i2))), (0, .ref (X0 + 18)), (1, .int (nI (rp))), (2, .int (nI (sp)))] [.int (nI (u9))]
                    refine V_istore X [(5, .int (nI (u9))), (4, .int (nI (i39))), (3, .int (nI (i2))), (0, .ref (X0 + 18)), (1, .int (nI (rp))), (2, .int (nI (sp)))] dX4_dressOneMore_56 (by decide) rfl ?_
                    refine V_iload X dX4_dressOneMore_58 0 rfl ?_
                    refine V_iconst (v := (-1)) X dX4_dressOneMore_60 (by decide) ?_
                    refine V_icmpeq X (tgt := 92) dX4_dressOneMore_61 (by decide) (fun h13 => absurd h13 (znm1 (by omega))) (fun h13 => ?_)
                    refine V_iload_n X dX4_dressOneMore_64 2 rfl ?_
                    refine V_iload X dX4_dressOneMore_65 1 rfl ?_
                    refine V_callSN (rest := []) X E.room ml_X4_41 st_X5_has (by omega) (by decide) (k_X5_has (σ := (t, cW g X0 G39 σ0)) (nI (i2)) (nI (i39))) rfl rfl (Nat.le_of_ble_eq_true rfl) ⟨Nat.le_refl _, Nat.le_refl _⟩ dX4_dressOneMore_67 (fun _ _ h => False.elim h) (fun v67 σ' hp67 => ?_)
                    obtain ⟨hp67, rfl⟩ := hp67
                    obtain ⟨r14, rfl, hr14, fr14⟩ := hp67
                    show V g κ 6 0 0 (t, cW g X0 G39 σ0) 70 [(5, .int (nI (u9))), (4, .int (nI (i39))), (3, .int (nI (i2))), (0, .ref (X0 + 18)), (1, .int (nI (rp))), (2, .int (nI (sp)))] [.int (r14)]
                    refine V_ifne X (tgt := 92) dX4_dressOneMore_70 (by decide) (fun h15 => ?_) (fun h15 => ?_)
                    · -- 70 true
                      have zh15 := fr14.mp h15
                      refine V_iinc X (nI (i39 + 1)) [(4, .int (nI (i39 + 1))), (5, .int (nI (u9))), (3, .int (nI (i2))), (0, .ref (X0 + 18)), (1, .int (nI (rp))), (2, .int (nI (sp)))] dX4_dressOneMore_92 1 rfl (zinc _) (by decide) rfl ?_
                      refine V_goto (tgt := 39) X dX4_dressOneMore_95 (by decide) ?_
                      exact V.sub [0, 2, 3, 4, 5] rfl (ih39 _ (by omega) (i39 + 1) G39 rfl (by omega) hJ39 (cTd_pass hv39_0 (Or.inr ((zIn_nat (by omega) (by omega)).mp zh15))))
                    · -- 70 false
                      have zh15 := mt fr14.mpr (not_not_intro h15)
                      refine V_aload_n X dX4_dressOneMore_73 3 rfl ?_
                      refine V_iload_n X dX4_dressOneMore_74 2 rfl ?_
                      refine V_iconst (v := nI 1) X dX4_dressOneMore_75 (by decide) ?_
                      refine V_iload X dX4_dressOneMore_76 1 rfl ?_
                      refine V_ishl1 X (by omega) dX4_dressOneMore_78 ?_
                      refine V_iorN X dX4_dressOneMore_79 ?_
                      refine V_aload_n X dX4_dressOneMore_80 3 rfl ?_
                      refine C_getf X fl_X4_21 18 (by decide) rfl rfl dX4_dressOneMore_81 ?_
                      refine V_iload_n X dX4_dressOneMore_84 2 rfl ?_
                      refine C_iald X (N := 64) 22 (by decide) (i2) rfl (by omega) (by decide) rfl dX4_dressOneMore_85 ?_
                      rw [((hv39_0.2 i2 hlt).1 hz8).trans ex0]
                      refine V_iload X dX4_dressOneMore_86 0 rfl ?_
                      refine V_iaddN X dX4_dressOneMore_88 ?_
                      refine V_callV (rest := []) X E.room ml_X4_45 in_X4_keepLess (ci := 8) rfl se_X4_keepLess (C_recv (q := 18) (by decide) rfl) (by decide) (by decide) (k_X4_keepLess_x hX (hI.mv hJ39) ((i2) ||| (2 ^ (i39))) (x0 + u9) (Nat.or_lt_two_pow (n := 6) (by omega) (Nat.pow_lt_pow_right (by decide : 1 < 2) (show i39 < 6 by omega) : 2 ^ i39 < 2 ^ 6))) rfl rfl (Nat.le_of_ble_eq_true rfl) ⟨Nat.le_refl _, Nat.le_refl _⟩ dX4_dressOneMore_89 (fun _ _ h => False.elim h) (fun v89 σ' hp89 => ?_)
                      obtain ⟨rfl, F16, rfl, hkF16⟩ := hp89
                      have tdF16 : cTd F F16 w L p nC i2 (i39 + 1) := cTd_put hw5 hun (by omega) (by omega) hv39_0 hlt (by omega) hz8 (tbF (fun q => zh15 ((zIn_nat (by omega) (by omega)).mpr q))) hw8 hx0 hm0 hkF16
                      have hJF16 : cJ F F16 := fun k l q => tdF16.1 k l (fun e => by rw [e] at q; exact absurd q (by rw [zscr (by omega)]; decide))
                      show V g κ 6 0 0 (t, cW g X0 F16 σ0) 92 [(5, .int (nI (u9))), (4, .int (nI (i39))), (3, .int (nI (i2))), (0, .ref (X0 + 18)), (1, .int (nI (rp))), (2, .int (nI (sp)))] []
                      refine V_iinc X (nI (i39 + 1)) [(4, .int (nI (i39 + 1))), (5, .int (nI (u9))), (3, .int (nI (i2))), (0, .ref (X0 + 18)), (1, .int (nI (rp))), (2, .int (nI (sp)))] dX4_dressOneMore_92 1 rfl (zinc _) (by decide) rfl ?_
                      refine V_goto (tgt := 39) X dX4_dressOneMore_95 (by decide) ?_
                      exact V.sub [0, 2, 3, 4, 5] rfl (ih39 _ (by omega) (i39 + 1) F16 rfl (by omega) hJF16 (tdF16))
            exact L39 _ 0 G2 rfl (by omega) hJ2 (hv2_0)
          · -- 30 false
            refine V_goto (tgt := 98) X dX4_dressOneMore_33 (by decide) ?_
            refine V_iinc X (nI (i2 + 1)) [(3, .int (nI (i2 + 1))), (0, .ref (X0 + 18)), (1, .int (nI (rp))), (2, .int (nI (sp)))] dX4_dressOneMore_98 0 rfl (zinc _) (by decide) rfl ?_
            refine V_goto (tgt := 2) X dX4_dressOneMore_101 (by decide) ?_
            exact V.sub [0, 1, 2, 3] rfl (ih2 _ (by omega) (i2 + 1) G2 rfl (by omega) hJ2 (cTd_skip hw5 (by omega) hv2_0 hT (by omega) (Or.inr (ex9.symm.trans h10))))
  exact L2 _ 0 F rfl (by omega) cJ.rfl' (cTd_0 hT)
set_option maxRecDepth 100000 in
set_option maxHeartbeats 4000000 in
theorem k_X4_leastWaste_x {g : zG} {t : Nat × Nat} {X0 : Nat} {σ0 : Nat → Option va_E} {F : Nat → Nat → Int32} (hX : g.2.1.size ≤ X0) {nP nS nA nC nT : Nat} (hI : cI nP nS nA nC nT F) (w : Nat → Nat → Nat → Prop) (L : List Nat) (hw5 : ∀ c q u, w c q u → u ≤ 5) (hL : L.length ≤ 7) (hT : cTb F w L nC) : Ct g 11 yX4_leastWaste cX4_leastWaste 3 (some FieldType.int) 0 0 [.ref (X0 + 18)] (t, cW g X0 F σ0) (fun r σ' => (∃ x : Int32, r = some (.int x) ∧ cLf F w L (2 ^ nC) x) ∧ σ' = (t, cW g X0 F σ0)) zNo := by
  refine Ct.of (lv := [(0, .ref (X0 + 18))]) (by decide) (Nat.le_of_ble_eq_true rfl) rfl ?_
  intro κ X E B _
  have X : zX g κ RX4 cX4_leastWaste 3 := X
  obtain ⟨b1, b2, b3, b4, b5⟩ := hI.bnd
  have h64 : 2 ^ nC ≤ 64 := zp2 (n := 6) (by omega)
  have h1 := Nat.one_le_two_pow (n := nC)
  refine V_iconst (v := (-1)) X dX4_leastWaste_0 (by decide) ?_
  refine V_istore_n X [(1, .int (-1)), (0, .ref (X0 + 18))] dX4_leastWaste_1 (by decide) rfl ?_
  refine V_iconst (v := nI 0) X dX4_leastWaste_2 (by decide) ?_
  refine V_istore_n X [(2, .int (nI (0))), (1, .int (-1)), (0, .ref (X0 + 18))] dX4_leastWaste_3 (by decide) rfl ?_
  have L4 : ∀ (n4 : Nat) (i4 : Nat) (x4_1 : Int32), n4 = 2 ^ nC - i4 → i4 ≤ 2 ^ nC → cLf F w L i4 x4_1 → V g κ 3 0 0 (t, cW g X0 F σ0) 4 [(2, .int (nI (i4))), (1, .int (x4_1)), (0, .ref (X0 + 18))] [] := by
    intro n4
    induction n4 using Nat.strongRecOn with
    | ind n4 ih4 =>
      intro i4 x4_1 hn4 hi4 hv4_0
      refine V_iload_n X dX4_leastWaste_4 0 rfl ?_
      refine V_iconst (v := nI 1) X dX4_leastWaste_5 (by decide) ?_
      refine V_aload_n X dX4_leastWaste_6 2 rfl ?_
      refine C_getfN (z := nI (nC)) X fl_X4_24 18 (by decide) rfl rfl hI.f18_3 dX4_leastWaste_7 ?_
      refine V_ishl1 X (by omega) dX4_leastWaste_10 ?_
      refine V_icmpgeN X (by omega) (by omega) (tgt := 63) dX4_leastWaste_11 (by decide) (fun h1 => ?_) (fun h1 => ?_)
      · -- 11 true
        refine V_iload_n X dX4_leastWaste_63 1 rfl ?_
        exact V_iret X E (Nat.zero_le _) (Nat.zero_le _) ⟨⟨_, rfl, by rw [← show i4 = 2 ^ nC by omega]; exact hv4_0⟩, rfl⟩ dX4_leastWaste_64
      · -- 11 false
        refine V_iload_n X dX4_leastWaste_14 0 rfl ?_
        refine V_callS (rest := []) X E.room ml_X4_31 st_J6_bitCount_0f7a4 (by omega) (by decide) (k_J6_bitCount_0f7a4 (σ := (t, cW g X0 F σ0)) (nI (i4))) rfl rfl (Nat.le_of_ble_eq_true rfl) ⟨Nat.le_refl _, Nat.le_refl _⟩ dX4_leastWaste_15 (fun _ _ h => False.elim h) (fun v15 σ' hp15 => ?_)
        obtain ⟨hp15, rfl⟩ := hp15
        cases (hp15 : _ = some (Value.int (zbc (nI (i4)))))
        show V g κ 3 0 0 (t, cW g X0 F σ0) 18 [(2, .int (nI (i4))), (1, .int (x4_1)), (0, .ref (X0 + 18))] [.int (zbc (nI (i4)))]
        refine V_aload_n X dX4_leastWaste_18 2 rfl ?_
        refine C_getf X fl_X4_28 18 (by decide) rfl rfl dX4_leastWaste_19 (V.topi (fun x2 ex2 => ?_))
        refine V_icmpne X (tgt := 57) dX4_leastWaste_22 (by decide) (fun h3 => ?_) (fun h3 => ?_)
        · -- 22 true
          have hz4 : ¬ zpc i4 = L.length := mt (cz_iff (by omega) (ex2.trans hT.1) (by omega)).mpr h3
          refine V_iinc X (nI (i4 + 1)) [(2, .int (nI (i4 + 1))), (1, .int (x4_1)), (0, .ref (X0 + 18))] dX4_leastWaste_57 0 rfl (zinc _) (by decide) rfl ?_
          refine V_goto (tgt := 4) X dX4_leastWaste_60 (by decide) ?_
          exact V.sub [0, 1, 2] rfl (ih4 _ (by omega) (i4 + 1) x4_1 rfl (by omega) (cLf_no hv4_0 (Or.inl hz4)))
        · -- 22 false
          have hz5 : zpc i4 = L.length := (cz_iff (by omega) (ex2.trans hT.1) (by omega)).mp h3
          refine V_aload_n X dX4_leastWaste_25 2 rfl ?_
          refine C_getf X fl_X4_21 18 (by decide) rfl rfl dX4_leastWaste_26 ?_
          refine V_iload_n X dX4_leastWaste_29 0 rfl ?_
          refine C_iald X (N := 64) 22 (by decide) (i4) rfl (by omega) (by decide) rfl dX4_leastWaste_30 ?_
          refine V.topi (fun x6 ex6 => ?_)
          refine V_iconst (v := (-1)) X dX4_leastWaste_31 (by decide) ?_
          refine V_icmpeq X (tgt := 57) dX4_leastWaste_32 (by decide) (fun h7 => ?_) (fun h7 => ?_)
          · -- 32 true
            have hlt : i4 < 2 ^ nC := by omega
            have nd8 : ∀ v, ¬ Dy w L (fun d => i4.testBit d = true) v := (hT.2 i4 hlt).1 hz5 |>.elim And.right (fun ⟨v, e, d, _⟩ => absurd (e.symm.trans (ex6.symm.trans h7)) (znm1 (Dy31 hw5 (by omega) d)))
            refine V_iinc X (nI (i4 + 1)) [(2, .int (nI (i4 + 1))), (1, .int (x4_1)), (0, .ref (X0 + 18))] dX4_leastWaste_57 0 rfl (zinc _) (by decide) rfl ?_
            refine V_goto (tgt := 4) X dX4_leastWaste_60 (by decide) ?_
            exact V.sub [0, 1, 2] rfl (ih4 _ (by omega) (i4 + 1) x4_1 rfl (by omega) (cLf_no hv4_0 (Or.inr nd8)))
          · -- 32 false
            have hlt : i4 < 2 ^ nC := by omega
            rcases (hT.2 i4 hlt).1 hz5 with ⟨ex0, -⟩ | ⟨x0, ex0, hx0, hm0⟩
            · exact absurd (ex6.trans ex0) h7
            refine V_iload_n X dX4_leastWaste_35 1 rfl ?_
            refine V_iconst (v := (-1)) X dX4_leastWaste_36 (by decide) ?_
            refine V_icmpeq X (tgt := 50) dX4_leastWaste_37 (by decide) (fun h9 => ?_) (fun h9 => ?_)
            · -- 37 true
              refine V_aload_n X dX4_leastWaste_50 2 rfl ?_
              refine C_getf X fl_X4_21 18 (by decide) rfl rfl dX4_leastWaste_51 ?_
              refine V_iload_n X dX4_leastWaste_54 0 rfl ?_
              refine C_iald X (N := 64) 22 (by decide) (i4) rfl (by omega) (by decide) rfl dX4_leastWaste_55 ?_
              rw [ex0]
              refine V_istore_n X [(1, .int (nI (x0))), (2, .int (nI (i4))), (0, .ref (X0 + 18))] dX4_leastWaste_56 (by decide) rfl ?_
              refine V_iinc X (nI (i4 + 1)) [(2, .int (nI (i4 + 1))), (1, .int (nI (x0))), (0, .ref (X0 + 18))] dX4_leastWaste_57 1 rfl (zinc _) (by decide) rfl ?_
              refine V_goto (tgt := 4) X dX4_leastWaste_60 (by decide) ?_
              exact V.sub [0, 1, 2] rfl (ih4 _ (by omega) (i4 + 1) (nI (x0)) rfl (by omega) (cLf_yes hw5 (by omega) hv4_0 hz5 hx0 hm0 (Or.inl ⟨rfl, Or.inl h9⟩)))
            · -- 37 false
              refine V_aload_n X dX4_leastWaste_40 2 rfl ?_
              refine C_getf X fl_X4_21 18 (by decide) rfl rfl dX4_leastWaste_41 ?_
              refine V_iload_n X dX4_leastWaste_44 0 rfl ?_
              refine C_iald X (N := 64) 22 (by decide) (i4) rfl (by omega) (by decide) rfl dX4_leastWaste_45 ?_
              rw [ex0]
              refine V_iload_n X dX4_leastWaste_46 1 rfl ?_
              refine V_icmpge X (tgt := 57) dX4_leastWaste_47 (by decide) (fun h10 => ?_) (fun h10 => ?_)
              · -- 47 true
                refine V_iinc X (nI (i4 + 1)) [(2, .int (nI (i4 + 1))), (1, .int (x4_1)), (0, .ref (X0 + 18))] dX4_leastWaste_57 0 rfl (zinc _) (by decide) rfl ?_
                refine V_goto (tgt := 4) X dX4_leastWaste_60 (by decide) ?_
                exact V.sub [0, 1, 2] rfl (ih4 _ (by omega) (i4 + 1) x4_1 rfl (by omega) (cLf_yes hw5 (by omega) hv4_0 hz5 hx0 hm0 (Or.inr ⟨rfl, h9, fun q => absurd (Int32.lt_of_lt_of_le q h10) Int32.lt_irrefl⟩)))
              · -- 47 false
                refine V_aload_n X dX4_leastWaste_50 2 rfl ?_
                refine C_getf X fl_X4_21 18 (by decide) rfl rfl dX4_leastWaste_51 ?_
                refine V_iload_n X dX4_leastWaste_54 0 rfl ?_
                refine C_iald X (N := 64) 22 (by decide) (i4) rfl (by omega) (by decide) rfl dX4_leastWaste_55 ?_
                rw [ex0]
                refine V_istore_n X [(1, .int (nI (x0))), (2, .int (nI (i4))), (0, .ref (X0 + 18))] dX4_leastWaste_56 (by decide) rfl ?_
                refine V_iinc X (nI (i4 + 1)) [(2, .int (nI (i4 + 1))), (1, .int (nI (x0))), (0, .ref (X0 + 18))] dX4_leastWaste_57 1 rfl (zinc _) (by decide) rfl ?_
                refine V_goto (tgt := 4) X dX4_leastWaste_60 (by decide) ?_
                exact V.sub [0, 1, 2] rfl (ih4 _ (by omega) (i4 + 1) (nI (x0)) rfl (by omega) (cLf_yes hw5 (by omega) hv4_0 hz5 hx0 hm0 (Or.inl ⟨rfl, Or.inr (Int32.not_le.mp h10)⟩)))
  exact L4 _ 0 (-1) rfl (by omega) (cLf_0)
set_option maxRecDepth 100000 in
set_option maxHeartbeats 4000000 in
theorem k_X5_leastWaste_x {g : zG} {t : Nat × Nat} {X0 : Nat} {σ0 : Nat → Option va_E} {F : Nat → Nat → Int32} (hX : g.2.1.size ≤ X0) {nP nS nA nC nT : Nat} (hI : cI nP nS nA nC nT F) (m : Nat) (hm : m < 128) (Dd : Nat → Prop) (h : Nat → Nat) (y : ∀ i, i < 5 → zMk (F 13 i) (fun q => ¬ F 12 1 = -1 ∧ Dd q ∧ h q = i)) (h5 : ¬ F 12 1 = -1 → ∀ p, Dd p → h p < nA) (hd : ∀ p, p < nP → m.testBit p = true → Dd p) (hV : cCo nC F) (hR : ∀ p, p < nP → ∃ v, v < 4 ∧ F 3 p = nI v) (hZ : ∀ i, i < nA → ∃ v, v < 10 ∧ F 9 i = nI v) : Ct g 13 yX5_leastWaste cX5_leastWaste 4 (some FieldType.int) 0 0 [.ref (X0 + 0), .int (nI (m))] (t, cW g X0 F σ0) (fun r σ' => ∃ x : Int32, r = some (.int x) ∧ ((F 12 1 = -1 ∧ x = -1) ∨ (¬ F 12 1 = -1 ∧ lvX x (dLs (cWw F nC h) (pLs m nP)))) ∧ ∃ F' : Nat → Nat → Int32, σ' = (t, cW g X0 F' σ0) ∧ cJ F F') zNo := by
  refine Ct.of (lv := [(0, .ref (X0 + 0)), (1, .int (nI (m)))]) (by decide) (Nat.le_of_ble_eq_true rfl) rfl ?_
  intro κ X E B _
  have X : zX g κ RX5 cX5_leastWaste 4 := X
  obtain ⟨b1, b2, b3, b4, b5⟩ := hI.bnd
  refine V_aload_n X dX5_leastWaste_0 0 rfl ?_
  refine C_getf X fl_X5_26 0 (by decide) rfl rfl dX5_leastWaste_1 ?_
  refine C_getf X fl_X5_220 12 (by decide) rfl rfl dX5_leastWaste_4 (V.topi (fun x1 ex1 => ?_))
  refine V_iconst (v := (-1)) X dX5_leastWaste_7 (by decide) ?_
  refine V_icmpne X (tgt := 13) dX5_leastWaste_8 (by decide) (fun h2 => ?_) (fun h2 => ?_)
  · -- 8 true
    refine V_aload_n X dX5_leastWaste_13 0 rfl ?_
    refine C_getf X fl_X5_33 0 (by decide) rfl rfl dX5_leastWaste_14 ?_
    refine V_callV (rest := []) X E.room ml_X5_329 in_X4_startDressing (ci := 8) rfl se_X4_startDressing (C_recv (q := 18) (by decide) rfl) (by decide) (by decide) (k_X4_startDressing_x hX hI) rfl rfl (Nat.le_of_ble_eq_true rfl) ⟨Nat.le_refl _, Nat.le_refl _⟩ dX5_leastWaste_17 (fun _ _ h => False.elim h) (fun v17 σ' hp17 => ?_)
    obtain ⟨rfl, F3, rfl, hJF3, s1F3, s2F3, s3F3⟩ := hp17
    show V g κ 4 0 0 (t, cW g X0 F3 σ0) 20 [(0, .ref (X0 + 0)), (1, .int (nI (m)))] []
    refine V_iconst (v := nI 0) X dX5_leastWaste_20 (by decide) ?_
    refine V_istore_n X [(2, .int (nI (0))), (0, .ref (X0 + 0)), (1, .int (nI (m)))] dX5_leastWaste_21 (by decide) rfl ?_
    have L22 : ∀ (n22 : Nat) (i22 : Nat) (G22 : Nat → Nat → Int32), n22 = nP - i22 → i22 ≤ nP → cJ F G22 → cTb G22 (cWw F nC h) (pLs m i22) nC → V g κ 4 0 0 (t, cW g X0 G22 σ0) 22 [(2, .int (nI (i22))), (0, .ref (X0 + 0)), (1, .int (nI (m)))] [] := by
      intro n22
      induction n22 using Nat.strongRecOn with
      | ind n22 ih22 =>
        intro i22 G22 hn22 hi22 hJ22 hv22_0
        refine V_iload_n X dX5_leastWaste_22 0 rfl ?_
        refine V_aload_n X dX5_leastWaste_23 1 rfl ?_
        refine C_getf X fl_X5_10 0 (by decide) rfl rfl dX5_leastWaste_24 ?_
        refine C_getfN (z := nI (nP)) X fl_X5_48 1 (by decide) rfl rfl (hI.mv hJ22).f1_5 dX5_leastWaste_27 ?_
        refine V_icmpgeN X (by omega) (by omega) (tgt := 91) dX5_leastWaste_30 (by decide) (fun h4 => ?_) (fun h4 => ?_)
        · -- 30 true
          refine V_aload_n X dX5_leastWaste_91 1 rfl ?_
          refine C_getf X fl_X5_33 0 (by decide) rfl rfl dX5_leastWaste_92 ?_
          refine V_callV (rest := []) X E.room ml_X5_335 in_X4_leastWaste (ci := 8) rfl se_X4_leastWaste (C_recv (q := 18) (by decide) rfl) (by decide) (by decide) (k_X4_leastWaste_x hX (hI.mv hJ22) (cWw F nC h) (pLs m i22) cWw_5 (Nat.le_trans (pLs_len i22) (by omega)) hv22_0) rfl rfl (Nat.le_of_ble_eq_true rfl) ⟨Nat.le_refl _, Nat.le_refl _⟩ dX5_leastWaste_95 (fun _ _ h => False.elim h) (fun v95 σ' hp95 => ?_)
          obtain ⟨⟨r5, rfl, fr5⟩, rfl⟩ := hp95
          show V g κ 4 0 0 (t, cW g X0 G22 σ0) 98 [(2, .int (nI (i22))), (0, .ref (X0 + 0)), (1, .int (nI (m)))] [.int (r5)]
          exact V_iret X E (Nat.zero_le _) (Nat.zero_le _) ⟨_, rfl, Or.inr ⟨fun q => h2 (ex1.trans q), by rw [← show i22 = nP by omega]; exact cLf_end (by omega) cWw_C fr5⟩, _, rfl, hJ22⟩ dX5_leastWaste_98
        · -- 30 false
          refine V_iload_n X dX5_leastWaste_33 2 rfl ?_
          refine V_iload_n X dX5_leastWaste_34 0 rfl ?_
          refine V_callS (rest := []) X E.room ml_X5_102 st_X5_has (by omega) (by decide) (k_X5_has (σ := (t, cW g X0 G22 σ0)) (nI (m)) (nI (i22))) rfl rfl (Nat.le_of_ble_eq_true rfl) ⟨Nat.le_refl _, Nat.le_refl _⟩ dX5_leastWaste_35 (fun _ _ h => False.elim h) (fun v35 σ' hp35 => ?_)
          obtain ⟨hp35, rfl⟩ := hp35
          obtain ⟨r6, rfl, hr6, fr6⟩ := hp35
          show V g κ 4 0 0 (t, cW g X0 G22 σ0) 38 [(2, .int (nI (i22))), (0, .ref (X0 + 0)), (1, .int (nI (m)))] [.int (r6)]
          refine V_ifne X (tgt := 44) dX5_leastWaste_38 (by decide) (fun h7 => ?_) (fun h7 => ?_)
          · -- 38 true
            have zh7 := fr6.mp h7
            refine V_aload_n X dX5_leastWaste_44 1 rfl ?_
            refine C_getf X fl_X5_26 0 (by decide) rfl rfl dX5_leastWaste_45 ?_
            refine V_iload_n X dX5_leastWaste_48 0 rfl ?_
            refine V_callV (rest := []) X E.room ml_X5_174 in_X0_playerOf (ci := 4) rfl se_X0_playerOf (C_recv (q := 12) (by decide) rfl) (by decide) (by decide) (k_X0_playerOf hX (hI.mv hJ22) (nI (i22))) rfl rfl (Nat.le_of_ble_eq_true rfl) ⟨Nat.le_refl _, Nat.le_refl _⟩ dX5_leastWaste_49 (fun _ _ h => False.elim h) (fun v49 σ' hp49 => ?_)
            obtain ⟨hp49, rfl⟩ := hp49
            rcases hp49 with ⟨rfl, nr8⟩ | ⟨r8, hr8, rfl, yr8, zr8⟩
            · -- none
              show V g κ 4 0 0 (t, cW g X0 G22 σ0) 52 [(2, .int (nI (i22))), (0, .ref (X0 + 0)), (1, .int (nI (m)))] [.int (-1)]
              refine V_istore_n X [(3, .int (-1)), (2, .int (nI (i22))), (0, .ref (X0 + 0)), (1, .int (nI (m)))] dX5_leastWaste_52 (by decide) rfl ?_
              refine V_iload_n X dX5_leastWaste_53 0 rfl ?_
              refine V_iconst (v := (-1)) X dX5_leastWaste_54 (by decide) ?_
              refine V_icmpne X (tgt := 60) dX5_leastWaste_55 (by decide) (fun h9 => absurd h9 (not_not_intro rfl)) (fun h9 => ?_)
              refine V_iconst (v := (-1)) X dX5_leastWaste_58 (by decide) ?_
              exact V_iret X E (Nat.zero_le _) (Nat.zero_le _) (False.elim (nr8 (h i22) (by have := h5 (fun q => h2 (ex1.trans q)) i22 (hd i22 (by omega) ((zIn_nat (by omega) (by omega)).mp zh7)); omega) (by show zIn (G22 13 (h i22)) (nI i22); rw [hJ22 13 (h i22) (by simp [scr])]; exact ((y (h i22) (by have := h5 (fun q => h2 (ex1.trans q)) i22 (hd i22 (by omega) ((zIn_nat (by omega) (by omega)).mp zh7)); omega)).In (by omega)).mpr ⟨(fun q => h2 (ex1.trans q)), (hd i22 (by omega) ((zIn_nat (by omega) (by omega)).mp zh7)), rfl⟩))) dX5_leastWaste_59
            · -- number
              show V g κ 4 0 0 (t, cW g X0 G22 σ0) 52 [(2, .int (nI (i22))), (0, .ref (X0 + 0)), (1, .int (nI (m)))] [.int (nI (r8))]
              refine V_istore_n X [(3, .int (nI (r8))), (2, .int (nI (i22))), (0, .ref (X0 + 0)), (1, .int (nI (m)))] dX5_leastWaste_52 (by decide) rfl ?_
              refine V_iload_n X dX5_leastWaste_53 0 rfl ?_
              refine V_iconst (v := (-1)) X dX5_leastWaste_54 (by decide) ?_
              refine V_icmpne X (tgt := 60) dX5_leastWaste_55 (by decide) (fun h10 => ?_) (fun h10 => absurd h10 (znm1 (by omega)))
              refine V_aload_n X dX5_leastWaste_60 2 rfl ?_
              refine C_getf X fl_X5_33 0 (by decide) rfl rfl dX5_leastWaste_61 ?_
              refine V_aload_n X dX5_leastWaste_64 2 rfl ?_
              refine C_getf X fl_X5_10 0 (by decide) rfl rfl dX5_leastWaste_65 ?_
              refine C_getf X fl_X5_157 1 (by decide) rfl rfl dX5_leastWaste_68 ?_
              refine V_iload_n X dX5_leastWaste_71 1 rfl ?_
              refine C_iald X (N := 7) 3 (by decide) (i22) rfl (by omega) (by decide) rfl dX5_leastWaste_72 ?_
              obtain ⟨rp, hrp, erp⟩ := hR (i22) (by omega)
              rw [(hJ22 3 (i22) (by simp [scr])).trans erp]
              refine V_aload_n X dX5_leastWaste_73 2 rfl ?_
              refine C_getf X fl_X5_19 0 (by decide) rfl rfl dX5_leastWaste_74 ?_
              refine C_getf X fl_X5_180 7 (by decide) rfl rfl dX5_leastWaste_77 ?_
              refine V_iload_n X dX5_leastWaste_80 0 rfl ?_
              refine C_iald X (N := 5) 9 (by decide) (r8) rfl (by omega) (by decide) rfl dX5_leastWaste_81 ?_
              have hin : ¬ F 12 1 = -1 ∧ Dd i22 ∧ h i22 = r8 := ((y r8 (by omega)).In (by omega)).mp (by rw [← (hJ22 13 r8 (by simp [scr]))]; exact yr8)
              have hnA : r8 < nA := by have := h5 hin.1 i22 hin.2.1; rw [hin.2.2] at this; exact this
              obtain ⟨sp, hsp, esp⟩ := hZ (r8) hnA
              rw [(hJ22 9 (r8) (by simp [scr])).trans esp]
              refine V_callV (rest := []) X E.room ml_X5_332 in_X4_dressOneMore (ci := 8) rfl se_X4_dressOneMore (C_recv (q := 18) (by decide) rfl) (by decide) (by decide) (k_X4_dressOneMore_x hX (hI.mv hJ22) rp sp hrp hsp (hV.mvJ hJ22) (cWw F nC h) (pLs m i22) i22 cWw_5 cWw_C cWw_un (cWw_at hJ22 erp (by rw [hin.2.2]; exact esp) hrp hsp) (Nat.le_trans (pLs_len i22) (by omega)) hv22_0) rfl rfl (Nat.le_of_ble_eq_true rfl) ⟨Nat.le_refl _, Nat.le_refl _⟩ dX5_leastWaste_82 (fun _ _ h => False.elim h) (fun v82 σ' hp82 => ?_)
              obtain ⟨rfl, F11, rfl, hKF11, hTF11⟩ := hp82
              have hJF11 : cJ F F11 := hJ22.trans hKF11
              show V g κ 4 0 0 (t, cW g X0 F11 σ0) 85 [(3, .int (nI (r8))), (2, .int (nI (i22))), (0, .ref (X0 + 0)), (1, .int (nI (m)))] []
              refine V_iinc X (nI (i22 + 1)) [(2, .int (nI (i22 + 1))), (3, .int (nI (r8))), (0, .ref (X0 + 0)), (1, .int (nI (m)))] dX5_leastWaste_85 1 rfl (zinc _) (by decide) rfl ?_
              refine V_goto (tgt := 22) X dX5_leastWaste_88 (by decide) ?_
              exact V.sub [0, 2, 3] rfl (ih22 _ (by omega) (i22 + 1) F11 rfl (by omega) hJF11 (by rw [pLs_1 ((zIn_nat (by omega) (by omega)).mp zh7)]; exact hTF11))
          · -- 38 false
            have zh7 := mt fr6.mpr (not_not_intro h7)
            refine V_goto (tgt := 85) X dX5_leastWaste_41 (by decide) ?_
            refine V_iinc X (nI (i22 + 1)) [(2, .int (nI (i22 + 1))), (0, .ref (X0 + 0)), (1, .int (nI (m)))] dX5_leastWaste_85 0 rfl (zinc _) (by decide) rfl ?_
            refine V_goto (tgt := 22) X dX5_leastWaste_88 (by decide) ?_
            exact V.sub [0, 1, 2] rfl (ih22 _ (by omega) (i22 + 1) G22 rfl (by omega) hJ22 (by rw [pLs_0 (fun q => zh7 ((zIn_nat (by omega) (by omega)).mpr q))]; exact hv22_0))
    exact L22 _ 0 F3 rfl (by omega) hJF3 (cTb_0 (by omega) s1F3 s2F3 s3F3)
  · -- 8 false
    refine V_iconst (v := (-1)) X dX5_leastWaste_11 (by decide) ?_
    exact V_iret X E (Nat.zero_le _) (Nat.zero_le _) ⟨_, rfl, Or.inl ⟨ex1.symm.trans h2, rfl⟩, _, rfl, cJ.rfl'⟩ dX5_leastWaste_12
