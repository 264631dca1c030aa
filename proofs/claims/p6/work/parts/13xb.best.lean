/-! ===== the best cast, the cut: what both sides are held to ===== -/
noncomputable def dL (D : Nat → Prop) : Nat → Nat → List Nat
  | 0, _ => []
  | r + 1, part => @ite _ (D part) (Classical.propDecidable _) (part :: dL D r (part + 1)) (dL D r (part + 1))
theorem dL_1 {D : Nat → Prop} {r part : Nat} (h : D part) : dL D (r + 1) part = part :: dL D r (part + 1) := if_pos h
theorem dL_0 {D : Nat → Prop} {r part : Nat} (h : ¬ D part) : dL D (r + 1) part = dL D r (part + 1) := if_neg h
theorem dL_mem {D : Nat → Prop} : ∀ (r part p : Nat), p ∈ dL D r part ↔ part ≤ p ∧ p < part + r ∧ D p := by
  intro r
  induction r with
  | zero => exact fun part p => ⟨fun h => absurd h List.not_mem_nil, fun h => by omega⟩
  | succ r ih =>
    intro part p
    by_cases hd : D part
    · rw [dL_1 hd, List.mem_cons, ih]
      constructor
      · rintro (h | h)
        · subst h; exact ⟨Nat.le_refl _, by omega, hd⟩
        · exact ⟨by omega, by omega, h.2.2⟩
      · intro h
        by_cases e : p = part
        · exact Or.inl e
        · exact Or.inr ⟨by omega, by omega, h.2.2⟩
    · rw [dL_0 hd, ih]
      constructor
      · exact fun h => ⟨by omega, by omega, h.2.2⟩
      · intro h
        have e : p ≠ part := fun e => hd (e ▸ h.2.2)
        exact ⟨by omega, by omega, h.2.2⟩
section DL
variable {D D' : Nat → Prop}
theorem dL_s1 : ∀ (r part : Nat), D (part + r) → dL D (r + 1) part = dL D r part ++ [part + r] := by
  intro r
  induction r with
  | zero =>
    intro part h
    rw [dL_1 (by simpa using h)]
    rfl
  | succ r ih =>
    intro part h
    have h' : D (part + 1 + r) := by rw [Nat.add_right_comm]; exact h
    have e := ih (part + 1) h'
    have a : part + 1 + r = part + (r + 1) := by omega
    rw [a] at e
    by_cases hd : D part
    · rw [dL_1 hd, dL_1 (r := r) hd, e]
      rfl
    · rw [dL_0 hd, dL_0 (r := r) hd, e]
theorem dL_s0 : ∀ (r part : Nat), ¬ D (part + r) → dL D (r + 1) part = dL D r part := by
  intro r
  induction r with
  | zero =>
    intro part h
    rw [dL_0 (by simpa using h)]
    rfl
  | succ r ih =>
    intro part h
    have h' : ¬ D (part + 1 + r) := by rw [Nat.add_right_comm]; exact h
    have e := ih (part + 1) h'
    by_cases hd : D part
    · rw [dL_1 hd, dL_1 (r := r) hd, e]
    · rw [dL_0 hd, dL_0 (r := r) hd, e]
theorem dL_n1 {i : Nat} (h : D i) : dL D (i + 1) 0 = dL D i 0 ++ [i] := by
  have := dL_s1 (D := D) i 0 (by rw [Nat.zero_add]; exact h)
  rw [Nat.zero_add] at this
  exact this
theorem dL_n0 {i : Nat} (h : ¬ D i) : dL D (i + 1) 0 = dL D i 0 := dL_s0 i 0 (by rw [Nat.zero_add]; exact h)
theorem dL_len : ∀ (r part : Nat), (dL D r part).length ≤ r := by
  intro r
  induction r with
  | zero => exact fun _ => Nat.le_refl _
  | succ r ih =>
    intro part
    by_cases hd : D part
    · rw [dL_1 hd, List.length_cons]
      exact Nat.succ_le_succ (ih _)
    · rw [dL_0 hd]
      exact Nat.le_succ_of_le (ih _)
theorem dL_cg (h : ∀ p, D p ↔ D' p) : ∀ (r part : Nat), dL D r part = dL D' r part := by
  have e : D = D' := funext fun p => propext (h p)
  intro r part
  rw [e]
theorem dL_nodup : ∀ (r part : Nat), (dL D r part).Nodup := by
  intro r
  induction r with
  | zero => exact fun _ => List.nodup_nil
  | succ r ih =>
    intro part
    by_cases hd : D part
    · rw [dL_1 hd, List.nodup_cons]
      exact ⟨fun q => by have := ((dL_mem r (part + 1) part).mp q).1; omega, ih _⟩
    · rw [dL_0 hd]
      exact ih _
/-- what lies behind the last one that is due adds nothing -/
theorem dL_top {n : Nat} (hD : ∀ p, D p → p < n) : ∀ (k : Nat), dL D (n + k) 0 = dL D n 0 := by
  intro k
  induction k with
  | zero => rfl
  | succ k ih =>
    rw [show n + (k + 1) = n + k + 1 from rfl, dL_n0 (fun q => by have := hD _ q; omega), ih]
end DL
/-- the best cast: how many players, who plays each part that is due -/
def mBst (pm cl : Nat → Nat → Prop) (D : Nat → Prop) (b : Int32) (h : Nat → Nat) : Prop := (b = -1 ∧ ¬ mFit pm cl D 5) ∨ ∃ k, k ≤ 5 ∧ b = nI k ∧ (∀ j, j < k → ¬ mFit pm cl D j) ∧ mFirst pm cl (dL D 7 0) (fun _ _ => False) k h
section MBST
variable {pm pm' cl cl' : Nat → Nat → Prop} {D D' : Nat → Prop} {b b' : Int32} {h h' : Nat → Nat} {k : Nat}
theorem mFirst.fit (hD : ∀ p, D p → p < 7) (hf : mFirst pm cl (dL D 7 0) (fun _ _ => False) k h) : mFit pm cl D k := (mFit_ext fun p => (dL_mem 7 0 p).trans ⟨fun q => q.2.2, fun q => ⟨Nat.zero_le _, by have := hD p q; omega, q⟩⟩).mp ⟨h, hf.1⟩
theorem mBst.few (hD : ∀ p, D p → p < 7) (hb : mBst pm cl D b h) : mFew (mFit pm cl D) b := by
  rcases hb with ⟨rfl, a⟩ | ⟨k, a, rfl, c, d⟩
  · exact Or.inl ⟨rfl, a⟩
  · exact Or.inr ⟨k, a, rfl, d.fit hD, c⟩
theorem mBst_uniq (hD : ∀ p, D p → p < 7) (h1 : mBst pm cl D b h) (h2 : mBst pm cl D b' h') : b = b' ∧ (¬ b = -1 → ∀ p, D p → h p = h' p) := by
  have e : b = b' := mFew_uniq (fun _ _ hab => mFit_mono hab) (h1.few hD) (h2.few hD)
  refine ⟨e, fun hn p hp => ?_⟩
  subst e
  rcases h1 with ⟨rfl, -⟩ | ⟨k, a1, a2, a3, a4⟩
  · exact absurd rfl hn
  · rcases h2 with ⟨rfl, -⟩ | ⟨k', c1, c2, c3, c4⟩
    · exact absurd rfl hn
    · have : k = k' := (nI_eq (by omega) (by omega)).mp (a2.symm.trans c2)
      subst this
      exact mFirst_uniq a4 c4 p ((dL_mem 7 0 p).mpr ⟨Nat.zero_le _, by have := hD p hp; omega, hp⟩)
theorem mExt_cgP {T : List Nat} {g : Nat → Nat} (e1 : ∀ i p, p ∈ T → pm i p → pm' i p) (e2 : ∀ p q, cl' p q → cl p q) (hx : mExt pm cl T (fun _ _ => False) k g) : mExt pm' cl' T (fun _ _ => False) k g := by
  obtain ⟨a, c, d⟩ := hx
  refine ⟨fun p hp => ?_, fun p hp q hq hn e z => c p hp q hq hn e (e2 p q z), d⟩
  obtain ⟨a1, a2, a3⟩ := a p hp
  exact ⟨a1, e1 _ _ hp a2, fun _ => False.elim⟩
theorem mFit_cgP (hD : ∀ p, D p ↔ D' p) (h1 : ∀ i p, D p → pm i p → pm' i p) (h2 : ∀ p q, cl' p q → cl p q) (h : mFit pm cl D k) : mFit pm' cl' D' k := by
  obtain ⟨g, a, b, c⟩ := h
  refine ⟨g, fun p hp => ?_, fun p q hp hq hpq e z => b p q ((hD p).mpr hp) ((hD q).mpr hq) hpq e (h2 p q z), ?_⟩
  · obtain ⟨a1, a2⟩ := a p ((hD p).mpr hp)
    exact ⟨a1, h1 _ _ ((hD p).mpr hp) a2⟩
  · rw [mcn_cg (Q := fun i => ∃ p, D p ∧ g p = i) fun i _ => ⟨fun ⟨p, x, y⟩ => ⟨p, (hD p).mpr x, y⟩, fun ⟨p, x, y⟩ => ⟨p, (hD p).mp x, y⟩⟩]
    exact c
theorem mBst_cg (hD : ∀ p, D p ↔ D' p) (e1 : ∀ i p, D p → (pm i p ↔ pm' i p)) (e2 : ∀ p q, cl p q ↔ cl' p q) (hb : mBst pm cl D b h) : mBst pm' cl' D' b h := by
  have f : ∀ j, mFit pm' cl' D' j → mFit pm cl D j := fun j => mFit_cgP (fun p => (hD p).symm) (fun i p hp => (e1 i p ((hD p).mpr hp)).mpr) (fun p q => (e2 p q).mp)
  rcases hb with ⟨a, c⟩ | ⟨k, a, c, d, x⟩
  · exact Or.inl ⟨a, fun q => c (f 5 q)⟩
  · refine Or.inr ⟨k, a, c, fun j hj q => d j hj (f j q), ?_⟩
    rw [← dL_cg hD 7 0]
    exact ⟨mExt_cgP (fun i p hp => (e1 i p ((dL_mem 7 0 p).mp hp).2.2).mp) (fun p q => (e2 p q).mpr) x.1, fun h' hx => x.2 h' (mExt_cgP (fun i p hp => (e1 i p ((dL_mem 7 0 p).mp hp).2.2).mpr) (fun p q => (e2 p q).mp) hx)⟩
end MBST
/-- how many of the first seven bits are set -/
def zpc (m : Nat) : Nat := m % 2 + m / 2 % 2 + m / 4 % 2 + m / 8 % 2 + m / 16 % 2 + m / 32 % 2 + m / 64 % 2
theorem zbc_zpc : ∀ m, m < 128 → zbc (nI m) = nI (zpc m) := by decide +kernel
theorem zpc_7 : ∀ m, m < 128 → zpc m ≤ 7 := by decide +kernel
theorem zpc_all : ∀ n, n < 7 → zpc (2 ^ n - 1) = n ∧ ∀ u, u < 64 → u < 2 ^ n → n ≤ zpc u → u = 2 ^ n - 1 := by decide +kernel
/-- the scenes that are left where u is left out -/
def zLf (n u : Nat) : Int32 := nI (2 ^ n - 1) &&& (nI u ^^^ (-1))
theorem zLf_0 : ∀ n, n < 7 → zLf n 0 = nI (2 ^ n - 1) := by decide +kernel
theorem zLf_all : ∀ n, n < 7 → zLf n (2 ^ n - 1) = nI 0 := by decide +kernel
/-- the cut: the fewest scenes, the smallest number -/
def mCut (P : Nat → Prop) (n : Nat) (c : Int32) : Prop := ∃ s, s < 2 ^ n ∧ c = nI s ∧ P s ∧ ∀ u, u < 2 ^ n → P u → zpc s < zpc u ∨ (zpc s = zpc u ∧ s ≤ u)
theorem mCut_uniq {P : Nat → Prop} {n : Nat} {c c' : Int32} (h1 : mCut P n c) (h2 : mCut P n c') : c = c' := by
  obtain ⟨s, a1, rfl, a3, a4⟩ := h1
  obtain ⟨s', b1, rfl, b3, b4⟩ := h2
  have x := a4 s' b1 b3
  have y := b4 s a1 a3
  rw [show s = s' by omega]
theorem mCut_cg {P Q : Nat → Prop} {n : Nat} {c : Int32} (e : ∀ u, u < 2 ^ n → (P u ↔ Q u)) (h : mCut P n c) : mCut Q n c := by
  obtain ⟨s, a1, a2, a3, a4⟩ := h
  exact ⟨s, a1, a2, (e s a1).mp a3, fun u hu hq => a4 u hu ((e u hu).mpr hq)⟩
theorem mCut_of {P : Nat → Prop} {n i s : Nat} (hs : s < 2 ^ n) (hp : P s) (hi : zpc s = i) (h1 : ∀ u, u < 2 ^ n → P u → i ≤ zpc u) (h2 : ∀ u, u < s → zpc u = i → ¬ P u) : mCut P n (nI s) := ⟨s, hs, rfl, hp, fun u hu hq => by
  have a := h1 u hu hq
  rcases Nat.lt_or_ge u s with k | k
  · have : zpc u ≠ i := fun e => h2 u k e hq
    omega
  · omega⟩
theorem mDu_zero {sp : Nat → Int32} {n q : Nat} : ¬ mDu sp (nI 0) n q := fun ⟨h7, s, hs, hz, _⟩ => by
  unfold zIn at hz
  have e : ∀ k : Int32, nI 0 >>> (k &&& 31) &&& nI 1 = nI 0 := fun k => by
    have : nI 0 >>> (k &&& 31) = nI 0 := by
      apply Int32.toBitVec_inj.mp
      simp [nI_bv]
    rw [this]
    decide
  rw [e] at hz
  exact absurd hz (by decide)
theorem mFit_no {pm cl : Nat → Nat → Prop} {D : Nat → Prop} {k : Nat} (hD : ∀ p, ¬ D p) : mFit pm cl D k := ⟨fun _ => 0, fun p hp => absurd hp (hD p), fun p _ hp => absurd hp (hD p), by
  have : mcn (fun i => ∃ p, D p ∧ (fun _ => 0 : Nat → Nat) p = i) = 0 := by
    have h0 : ∀ i, mb (∃ p, D p ∧ (fun _ => 0 : Nat → Nat) p = i) = 0 := fun i => mb_0 fun ⟨p, hp, _⟩ => hD p hp
    unfold mcn
    rw [h0, h0, h0, h0, h0]
  rw [this]
  exact Nat.zero_le _⟩
theorem mCut_all {P : Nat → Prop} {n : Nat} (hn : n < 7) (hp : P (2 ^ n - 1)) (h1 : ∀ u, u < 2 ^ n → P u → n ≤ zpc u) : mCut P n (nI (2 ^ n - 1)) := ⟨2 ^ n - 1, by have := Nat.one_le_two_pow (n := n); omega, rfl, hp, fun u hu hq => by
  obtain ⟨a, c⟩ := zpc_all n hn
  have h64 : 2 ^ n ≤ 64 := zp2 (n := 6) (by omega)
  have e := c u (by omega) hu (h1 u hu hq)
  rw [e]
  exact Or.inr ⟨rfl, Nat.le_refl _⟩⟩
/-! ===== the class's memory of them ===== -/
def cKn (nP nS nA : Nat) (F : Nat → Nat → Int32) : Prop := (∃ h : Nat → Nat, mBst (mPm F nA) (mCl (F 5) (F 4) (F 6) nP (nI (2 ^ nS - 1)) nS) (mDu (F 5) (nI (2 ^ nS - 1)) nS) (F 12 1) h ∧ ∀ i, i < 5 → zMk (F 13 i) (fun q => ¬ F 12 1 = -1 ∧ mDu (F 5) (nI (2 ^ nS - 1)) nS q ∧ h q = i)) ∧ mCut (fun u => zFC nP nS nA F (zLf nS u) 5) nS (F 12 2)
/-- where it is known, it is right -/
def cK (F : Nat → Nat → Int32) : Prop := F 12 3 = 0 ∨ ∃ nP nS nA : Nat, nP ≤ 7 ∧ nS ≤ 6 ∧ nA ≤ 5 ∧ F 1 5 = nI nP ∧ F 1 6 = nI nS ∧ F 7 4 = nI nA ∧ cKn nP nS nA F
/-- what it rests on -/
def cRl (k j : Nat) : Prop := k = 2 ∨ k = 4 ∨ k = 5 ∨ k = 6 ∨ k = 8 ∨ k = 13 ∨ (k = 1 ∧ (j = 5 ∨ j = 6)) ∨ (k = 7 ∧ (j = 4 ∨ j = 5)) ∨ (k = 12 ∧ (j = 1 ∨ j = 2 ∨ j = 3))
theorem mPm_eq {F F' : Nat → Nat → Int32} {nA : Nat} (e8 : F' 8 = F 8) (e2 : F' 2 = F 2) (e7 : F' 7 5 = F 7 5) : mPm F' nA = mPm F nA := by
  funext i p
  unfold mPm
  rw [e8, e2, e7]
theorem cKn.mv {F F' : Nat → Nat → Int32} {nP nS nA : Nat} (e : ∀ k j, cRl k j → F' k j = F k j) (h : cKn nP nS nA F) : cKn nP nS nA F' := by
  have e5 : F' 5 = F 5 := funext fun j => e 5 j (by unfold cRl; omega)
  have e4 : F' 4 = F 4 := funext fun j => e 4 j (by unfold cRl; omega)
  have e6 : F' 6 = F 6 := funext fun j => e 6 j (by unfold cRl; omega)
  have e13 : F' 13 = F 13 := funext fun j => e 13 j (by unfold cRl; omega)
  have ep : mPm F' nA = mPm F nA := mPm_eq (funext fun j => e 8 j (by unfold cRl; omega)) (funext fun j => e 2 j (by unfold cRl; omega)) (e 7 5 (by unfold cRl; omega))
  unfold cKn zFC
  rw [e5, e4, e6, e13, ep, e 12 1 (by unfold cRl; omega), e 12 2 (by unfold cRl; omega)]
  exact h
theorem cK.mv {F F' : Nat → Nat → Int32} (e : ∀ k j, cRl k j → F' k j = F k j) (h : cK F) : cK F' := by
  rcases h with h | ⟨nP, nS, nA, a, b, c, d1, d2, d3, h⟩
  · exact Or.inl ((e 12 3 (by unfold cRl; omega)).trans h)
  · exact Or.inr ⟨nP, nS, nA, a, b, c, (e 1 5 (by unfold cRl; omega)).trans d1, (e 1 6 (by unfold cRl; omega)).trans d2, (e 7 4 (by unfold cRl; omega)).trans d3, h.mv e⟩
theorem cK.get {F : Nat → Nat → Int32} {nP nS nA nC nT : Nat} (h : cK F) (hI : cI nP nS nA nC nT F) (hk : ¬ F 12 3 = 0) : cKn nP nS nA F := by
  rcases h with h | ⟨nP', nS', nA', a, b, c, d1, d2, d3, h⟩
  · exact absurd h hk
  · obtain ⟨b1, b2, b3, -, -⟩ := hI.bnd
    have x1 : nP' = nP := (nI_eq (by omega) (by omega)).mp (d1.symm.trans hI.f1_5)
    have x2 : nS' = nS := (nI_eq (by omega) (by omega)).mp (d2.symm.trans hI.f1_6)
    have x3 : nA' = nA := (nI_eq (by omega) (by omega)).mp (d3.symm.trans hI.f7_4)
    subst x1; subst x2; subst x3
    exact h
/-- the order by numbers -/
def mOn (F : Nat → Nat → Int32) (L : List Nat) : Prop := L.length ≤ 7 ∧ F 12 8 = nI L.length ∧ ∀ d (h : d < L.length), F 16 d = nI L[d]
theorem mOn.zero {F F' : Nat → Nat → Int32} (h : F' = fset F 12 8 (nI 0)) : mOn F' [] := ⟨by decide, by rw [h, fset_eq]; rfl, fun d hd => absurd hd (Nat.not_lt_zero d)⟩
theorem mOn.step {F F2 F3 : Nat → Nat → Int32} {L : List Nat} {p : Nat} (h : mOn F L) (hm : L.length < 7) (e2 : F2 = fset F 16 L.length (nI p)) (e3 : F3 = fset F2 12 8 (nI (L.length + 1))) : mOn F3 (L ++ [p]) := by
  obtain ⟨h3, h4, h5⟩ := h
  refine ⟨?_, ?_, fun d hd => ?_⟩
  · rw [List.length_append]
    show L.length + 1 ≤ 7
    omega
  · rw [e3, fset_eq, List.length_append]
    rfl
  · rw [e3, fset_ne (Or.inl (by decide)), e2]
    rw [List.length_append] at hd
    by_cases e : d = L.length
    · subst e
      rw [fset_eq, List.getElem_append_right (Nat.le_refl _)]
      simp
    · have hd' : d < L.length := by
        have : d < L.length + 1 := hd
        omega
      rw [fset_ne (Or.inr e), List.getElem_append_left hd']
      exact h5 d hd'
/-! ===== what a call that only asks leaves ===== -/
def scM (k j : Nat) : Bool := decide ((14 ≤ k ∧ k ≤ 17) ∨ k = 22 ∨ (k = 18 ∧ j = 6) ∨ (k = 12 ∧ (j = 8 ∨ j = 1 ∨ j = 2 ∨ j = 3)) ∨ k = 13)
theorem scM_f {k j : Nat} (h : ¬ ((14 ≤ k ∧ k ≤ 17) ∨ k = 22 ∨ (k = 18 ∧ j = 6) ∨ (k = 12 ∧ (j = 8 ∨ j = 1 ∨ j = 2 ∨ j = 3)) ∨ k = 13)) : scM k j = false := decide_eq_false h
theorem scM_t {k j : Nat} (h : (14 ≤ k ∧ k ≤ 17) ∨ k = 22 ∨ (k = 18 ∧ j = 6) ∨ (k = 12 ∧ (j = 8 ∨ j = 1 ∨ j = 2 ∨ j = 3)) ∨ k = 13) : scM k j = true := decide_eq_true h
theorem scM_s {k j : Nat} (h : scM k j = false) : scr k j = false := by
  have h1 := of_decide_eq_false h
  exact decide_eq_false (by omega)
/-- but for scratch and memory F is F0; where the memory was right, it is -/
def cM (F0 F : Nat → Nat → Int32) : Prop := (∀ k j : Nat, scM k j = false → F k j = F0 k j) ∧ (cK F0 → cK F)
theorem cM.rfl' {F : Nat → Nat → Int32} : cM F F := ⟨fun _ _ _ => rfl, id⟩
theorem cM.trans {F G H : Nat → Nat → Int32} (h1 : cM F G) (h2 : cM G H) : cM F H := ⟨fun k j h => (h2.1 k j h).trans (h1.1 k j h), fun h => h2.2 (h1.2 h)⟩
theorem cJ.k {F G : Nat → Nat → Int32} (h : cJ F G) : cK F → cK G := fun hk => hk.mv fun k j q => h k j (by unfold cRl at q; exact decide_eq_false (by omega))
theorem cJ.m {F G : Nat → Nat → Int32} (h : cJ F G) : cM F G := ⟨fun k j hk => h k j (scM_s hk), h.k⟩
/-- what is put and put back -/
theorem cJ.undo {F F1 F2 F3 : Nat → Nat → Int32} {k j : Nat} {w x : Int32} (h1 : F1 = fset F k j w) (h2 : cJ F1 F2) (h3 : F3 = fset F2 k j x) (hx : x = F k j) : cM F F3 := cJ.m fun a b hab => by
  by_cases h : a = k ∧ b = j
  · obtain ⟨rfl, rfl⟩ := h
    rw [h3, fset_eq, hx]
  · rw [h3, fset_ne (by omega), h2 a b hab, h1, fset_ne (by omega)]
theorem cI.mvM {nP nS nA nC nT : Nat} {F0 F : Nat → Nat → Int32} (h : cI nP nS nA nC nT F0) (hJ : cM F0 F) : cI nP nS nA nC nT F := by
  obtain ⟨a, b, c, d, e, f1, f2, f3, f4, f5, f6⟩ := h
  refine ⟨a, b, c, d, e, (hJ.1 1 5 rfl).trans f1, (hJ.1 1 6 rfl).trans f2, (hJ.1 7 4 rfl).trans f3, (hJ.1 18 3 rfl).trans f4, (hJ.1 23 4 rfl).trans f5, fun s hs => ?_⟩
  obtain ⟨m, h1, h2⟩ := f6 s hs
  exact ⟨m, h1, (hJ.1 5 s (scM_f (by omega))).trans h2⟩
theorem cBd.mvC {nP nS nA : Nat} {F F' : Nat → Nat → Int32} (h : cBd nP nS nA F) (hJ : cM F F') : cBd nP nS nA F' := h.mvM fun k j q => hJ.1 k j (scM_f (by omega))
theorem cRw.sub {S S' : Nat → Nat → Bool} {F G : Nat → Nat → Int32} (hS : ∀ k j, S k j = true → S' k j = true) (h : cRw S F G) : cRw S' F G := fun k j hk => h k j (by
  cases e : S k j with
  | false => rfl
  | true => rw [hS k j e] at hk; cases hk)
/-- scratch and the best roles -/
def sKe (k j : Nat) : Bool := decide ((14 ≤ k ∧ k ≤ 17) ∨ k = 22 ∨ (k = 18 ∧ j = 6) ∨ (k = 12 ∧ j = 8) ∨ k = 13)
theorem sKe_t {k j : Nat} (h : (14 ≤ k ∧ k ≤ 17) ∨ k = 22 ∨ (k = 18 ∧ j = 6) ∨ (k = 12 ∧ j = 8) ∨ k = 13) : sKe k j = true := decide_eq_true h
/-- the best roles -/
def sKc (k _j : Nat) : Bool := k == 13
theorem sOrK : ∀ k j, sOr k j = true → sKe k j = true := fun k j h => by
  have : k = 16 ∨ (k = 12 ∧ j = 8) := by simpa [sOr] using h
  exact sKe_t (by omega)
theorem s17K : ∀ k j, s17 k j = true → sKe k j = true := fun k j h => by
  have : k = 17 := by simpa [s17] using h
  exact sKe_t (by omega)
theorem sKeW : ∀ k j, sKe k j = true → scM k j = true := fun k j h => by
  have := of_decide_eq_true h
  exact scM_t (by omega)
theorem cJ.w {F G : Nat → Nat → Int32} (h : cJ F G) : cRw scM F G := fun k j hk => h k j (scM_s hk)
theorem cI.mvW {nP nS nA nC nT : Nat} {F0 F : Nat → Nat → Int32} (h : cI nP nS nA nC nT F0) (hJ : cRw scM F0 F) : cI nP nS nA nC nT F := by
  obtain ⟨a, b, c, d, e, f1, f2, f3, f4, f5, f6⟩ := h
  refine ⟨a, b, c, d, e, (hJ 1 5 rfl).trans f1, (hJ 1 6 rfl).trans f2, (hJ 7 4 rfl).trans f3, (hJ 18 3 rfl).trans f4, (hJ 23 4 rfl).trans f5, fun s hs => ?_⟩
  obtain ⟨m, h1, h2⟩ := f6 s hs
  exact ⟨m, h1, (hJ 5 s (scM_f (by omega))).trans h2⟩
theorem cBd.mvW {nP nS nA : Nat} {F F' : Nat → Nat → Int32} (h : cBd nP nS nA F) (hJ : cRw scM F F') : cBd nP nS nA F' := h.mvM fun k j q => hJ k j (scM_f (by omega))
theorem mPm_W {F G : Nat → Nat → Int32} {nA : Nat} (h : cRw scM F G) : mPm G nA = mPm F nA := mPm_eq (funext fun j => h 8 j (scM_f (by omega))) (funext fun j => h 2 j (scM_f (by omega))) (h 7 5 rfl)
theorem zFC_W {F G : Nat → Nat → Int32} {nP nS nA : Nat} (h : cRw scM F G) : zFC nP nS nA G = zFC nP nS nA F := by
  funext a k
  unfold zFC
  rw [mPm_W h, show G 5 = F 5 from funext fun j => h 5 j (scM_f (by omega)), show G 4 = F 4 from funext fun j => h 4 j (scM_f (by omega)), show G 6 = F 6 from funext fun j => h 6 j (scM_f (by omega))]
theorem cKn_of {F F' : Nat → Nat → Int32} {nP nS nA : Nat} (hw : cRw scM F F') (hb : ∃ h : Nat → Nat, mBst (mPm F nA) (mCl (F 5) (F 4) (F 6) nP (nI (2 ^ nS - 1)) nS) (mDu (F 5) (nI (2 ^ nS - 1)) nS) (F' 12 1) h ∧ ∀ i, i < 5 → zMk (F' 13 i) (fun q => ¬ F' 12 1 = -1 ∧ mDu (F 5) (nI (2 ^ nS - 1)) nS q ∧ h q = i)) (hc : mCut (fun u => zFC nP nS nA F (zLf nS u) 5) nS (F' 12 2)) : cKn nP nS nA F' := by
  unfold cKn
  rw [mPm_W hw, zFC_W hw, show F' 5 = F 5 from funext fun j => hw 5 j (scM_f (by omega)), show F' 4 = F 4 from funext fun j => hw 4 j (scM_f (by omega)), show F' 6 = F 6 from funext fun j => hw 6 j (scM_f (by omega))]
  exact ⟨hb, hc⟩
