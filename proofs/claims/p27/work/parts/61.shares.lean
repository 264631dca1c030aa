/-! ===== what is shared is shared whole ===== -/
/-- sums of numbers over those that P names -/
noncomputable def nss (s : Nat → Nat) (P : Nat → Prop) : Nat → Nat
  | 0 => 0
  | n + 1 => mite (P n) (nss s P n + s n) (nss s P n)
theorem nI_mulN (a b : Nat) : nI a * nI b = nI (a * b) := by
  apply Int32.toBitVec_inj.mp
  rw [Int32.toBitVec_mul, nI_bv, nI_bv, nI_bv, BitVec.ofNat_mul]
section NSS
variable {s t : Nat → Nat} {P X : Nat → Prop} {f : Nat → Int32} {n T a b c L k : Nat}
theorem nss_1 (h : P n) : nss s P (n + 1) = nss s P n + s n := mite_1 (α := Nat) h
theorem nss_0 (h : ¬ P n) : nss s P (n + 1) = nss s P n := mite_0 (α := Nat) h
theorem nss_le (h : ∀ i, i < n → s i ≤ t i) : nss s P n ≤ nss t P n := by
  induction n with
  | zero => exact Nat.le_refl _
  | succ n ih =>
    have a := ih fun i hi => h i (by omega)
    have b := h n (Nat.lt_succ_self n)
    rcases Classical.em (P n) with z | z
    · rw [nss_1 z, nss_1 z]
      omega
    · rw [nss_0 z, nss_0 z]
      exact a
theorem nss_cg (h : ∀ i, i < n → P i → s i = t i) : nss s P n = nss t P n := by
  induction n with
  | zero => rfl
  | succ n ih =>
    have a := ih fun i hi => h i (by omega)
    rcases Classical.em (P n) with z | z
    · rw [nss_1 z, nss_1 z, a, h n (Nat.lt_succ_self n) z]
    · rw [nss_0 z, nss_0 z, a]
theorem nss_mul : nss (fun i => c * s i) P n = c * nss s P n := by
  induction n with
  | zero => exact (Nat.mul_zero c).symm
  | succ n ih =>
    rcases Classical.em (P n) with z | z
    · rw [nss_1 z, nss_1 z, ih, Nat.mul_add]
    · rw [nss_0 z, nss_0 z, ih]
theorem nss_add : nss (fun i => s i + t i) P n = nss s P n + nss t P n := by
  induction n with
  | zero => rfl
  | succ n ih =>
    rcases Classical.em (P n) with z | z
    · rw [nss_1 z, nss_1 z, nss_1 z, ih]
      omega
    · rw [nss_0 z, nss_0 z, nss_0 z, ih]
/-- how many -/
theorem nss_mcn (hn : n ≤ 5) : nss (fun i => mb (X i)) P n = mcn (fun i => i < n ∧ P i ∧ X i) := by
  induction n with
  | zero => exact (mcn_0 fun i z => absurd z.1 (Nat.not_lt_zero i)).symm
  | succ n ih =>
    have a := ih (by omega)
    have step : ¬ (P n ∧ X n) → mcn (fun i => i < n + 1 ∧ P i ∧ X i) = mcn (fun i => i < n ∧ P i ∧ X i) := fun z => mcn_cg fun i _ => ⟨fun ⟨q, w⟩ => ⟨by
      by_cases e : i = n
      · exact absurd (e ▸ w) z
      · omega, w⟩, fun ⟨q, w⟩ => ⟨by omega, w⟩⟩
    rcases Classical.em (P n) with z | z
    · rw [nss_1 z, a]
      rcases Classical.em (X n) with w | w
      · rw [mb_1 w]
        refine (mcn_one (j := n) (by omega) (fun q => absurd q.1 (Nat.lt_irrefl n)) fun i _ => ⟨fun ⟨q, u⟩ => ?_, fun q => q.elim (fun ⟨u, v⟩ => ⟨by omega, v⟩) (fun e => by rw [e]; exact ⟨Nat.lt_succ_self n, z, w⟩)⟩).symm
        by_cases e : i = n
        · exact Or.inr e
        · exact Or.inl ⟨by omega, u⟩
      · rw [mb_0 w, step (fun q => w q.2)]
        rfl
    · rw [nss_0 z, a, step (fun q => z q.1)]
theorem zss_n (h : ∀ i, i < n → f i = nI (s i)) : zss f P n = nI (nss s P n) := by
  induction n with
  | zero => rfl
  | succ n ih =>
    have a := ih fun i hi => h i (by omega)
    rcases Classical.em (P n) with z | z
    · refine (mite_1 (α := Int32) z).trans ?_
      rw [a, h n (Nat.lt_succ_self n), nI_add, nss_1 z]
    · refine (mite_0 (α := Int32) z).trans ?_
      rw [a, nss_0 z]
/-- who goes ahead of b -/
def sAp (r : Nat → Nat) (b i : Nat) : Prop := r b < r i ∨ (r i = r b ∧ i < b)
noncomputable def sAh (r : Nat → Nat) (P : Nat → Prop) (n b : Nat) : Nat := mcn (fun i => i < n ∧ P i ∧ sAp r b i)
theorem sAh_lt {r : Nat → Nat} (hb : b < 5) (hbn : b < n) (hp : P b) : sAh r P n b < mcn (fun i => i < n ∧ P i) := by
  have h : mcn (fun i => (i < n ∧ P i ∧ sAp r b i) ∨ i = b) = sAh r P n b + 1 := mcn_one hb (fun z => z.2.2.elim (fun q => Nat.lt_irrefl _ q) (fun q => Nat.lt_irrefl _ q.2)) fun i _ => Iff.rfl
  have g : mcn (fun i => (i < n ∧ P i ∧ sAp r b i) ∨ i = b) ≤ mcn (fun i => i < n ∧ P i) := mcn_le fun i _ z => z.elim (fun q => ⟨q.1, q.2.1⟩) (fun e => by rw [e]; exact ⟨hbn, hp⟩)
  omega
theorem sAh_inj {r : Nat → Nat} (hb : b < n) (hc : c < n) (h5 : n ≤ 5) (pb : P b) (pc : P c) (e : sAh r P n b = sAh r P n c) : b = c := by
  have key : ∀ {b c : Nat}, b < n → P b → sAp r c b → sAh r P n b + 1 ≤ sAh r P n c := fun {b c} hb pb q => by
    have h : mcn (fun i => (i < n ∧ P i ∧ sAp r b i) ∨ i = b) = sAh r P n b + 1 := mcn_one (by omega) (fun z => z.2.2.elim (fun q => Nat.lt_irrefl _ q) (fun q => Nat.lt_irrefl _ q.2)) fun i _ => Iff.rfl
    have g : mcn (fun i => (i < n ∧ P i ∧ sAp r b i) ∨ i = b) ≤ sAh r P n c := mcn_le fun i _ z => z.elim (fun w => ⟨w.1, w.2.1, by
      have w2 := w.2.2
      unfold sAp at w2 q ⊢
      omega⟩) (fun e => by rw [e]; exact ⟨hb, pb, q⟩)
    omega
  refine Classical.byContradiction fun ne => ?_
  rcases Classical.em (sAp r c b) with q | q
  · have := key hb pb q
    omega
  · have q' : sAp r b c := by
      unfold sAp at q ⊢
      omega
    have := key hc pc q'
    omega
/-- of so many, so many have fewer than that ahead -/
theorem sAh_cnt {r : Nat → Nat} (h5 : n ≤ 5) (hL : L ≤ mcn (fun i => i < n ∧ P i)) : mcn (fun i => i < n ∧ P i ∧ sAh r P n i < L) = L := by
  have st : ∀ M, mcn (fun i => i < n ∧ P i ∧ sAh r P n i < M + 1) ≤ mcn (fun i => i < n ∧ P i ∧ sAh r P n i < M) + 1 := fun M => by
    rcases Classical.em (∃ j, j < n ∧ P j ∧ sAh r P n j = M) with ⟨j, j1, j2, j3⟩ | no
    · refine Nat.le_of_eq (mcn_one (j := j) (by omega) (fun z => by have := z.2.2; omega) fun i _ => ⟨fun ⟨q, u, v⟩ => ?_, fun z => z.elim (fun ⟨q, u, v⟩ => ⟨q, u, by omega⟩) (fun e => by rw [e]; exact ⟨j1, j2, by omega⟩)⟩)
      by_cases z : sAh r P n i = M
      · exact Or.inr (sAh_inj q j1 h5 u j2 (z.trans j3.symm))
      · exact Or.inl ⟨q, u, by omega⟩
    · refine Nat.le_succ_of_le (mcn_le fun i _ ⟨q, u, v⟩ => ⟨q, u, ?_⟩)
      have : sAh r P n i ≠ M := fun z => no ⟨i, q, u, z⟩
      omega
  have up : ∀ M, mcn (fun i => i < n ∧ P i ∧ sAh r P n i < M) ≤ M := by
    intro M
    induction M with
    | zero => exact Nat.le_of_eq (mcn_0 fun i z => absurd z.2.2 (Nat.not_lt_zero _))
    | succ M ih =>
      have := st M
      omega
  have dn : ∀ d, mcn (fun i => i < n ∧ P i ∧ sAh r P n i < L + d) ≤ mcn (fun i => i < n ∧ P i ∧ sAh r P n i < L) + d := by
    intro d
    induction d with
    | zero => exact Nat.le_refl _
    | succ d ih =>
      have := st (L + d)
      have e : L + (d + 1) = L + d + 1 := by omega
      rw [e]
      omega
  have all : mcn (fun i => i < n ∧ P i) ≤ mcn (fun i => i < n ∧ P i ∧ sAh r P n i < L + (mcn (fun i => i < n ∧ P i) - L)) := mcn_le fun i h z => ⟨z.1, z.2, by
    have := sAh_lt (r := r) h z.1 z.2
    omega⟩
  have := up L
  have := dn (mcn (fun i => i < n ∧ P i) - L)
  omega
/-- the whole numbers of the shares -/
theorem shr_nat {r q : Nat → Nat} (h5 : n ≤ 5) (hT : T = nss s P n) (h0 : 0 < T) (hq : ∀ i, q i = a * s i / T) (hr : ∀ i, r i = a * s i % T) : nss q P n ≤ a ∧ nss (fun b => q b + mb (sAh r P n b < a - nss q P n)) P n = a := by
  have e1 : nss (fun i => a * s i) P n = a * T := by rw [nss_mul, hT]
  have e2 : nss (fun i => a * s i) P n = T * nss q P n + nss r P n := by
    rw [← nss_mul, ← nss_add]
    refine nss_cg fun i _ _ => ?_
    rw [hq, hr]
    exact (Nat.div_add_mod _ _).symm
  have e3 : nss r P n + nss (fun _ => 1) P n ≤ T * nss (fun _ => 1) P n := by
    rw [← nss_add, ← nss_mul]
    refine nss_le fun i _ => ?_
    have := Nat.mod_lt (a * s i) h0
    rw [hr]
    omega
  have e4 : nss (fun _ => 1) P n = mcn (fun i => i < n ∧ P i) := by
    have := nss_mcn (P := P) (X := fun _ => True) h5
    rw [show (fun i : Nat => mb ((fun _ => True) i)) = fun _ => 1 from funext fun i => mb_1 trivial] at this
    exact this.trans (mcn_cg fun i _ => ⟨fun z => ⟨z.1, z.2.1⟩, fun z => ⟨z.1, z.2, trivial⟩⟩)
  have le : nss q P n ≤ a := by
    refine Nat.le_of_mul_le_mul_left (c := T) ?_ h0
    rw [Nat.mul_comm T a]
    omega
  have lt : a - nss q P n ≤ mcn (fun i => i < n ∧ P i) := by
    rw [← e4]
    refine Nat.le_of_mul_le_mul_left (c := T) ?_ h0
    rw [Nat.mul_sub, Nat.mul_comm T a]
    omega
  refine ⟨le, ?_⟩
  rw [nss_add, nss_mcn h5, sAh_cnt h5 lt]
  omega
end NSS
section SHR
variable {f : Nat → Int32} {s : Nat → Nat} {P : Nat → Prop} {n a b i m : Nat}
theorem nss_at (hi : i < n) (hp : P i) : s i ≤ nss s P n := by
  induction n with
  | zero => exact absurd hi (Nat.not_lt_zero i)
  | succ n ih =>
    rcases Classical.em (P n) with z | z
    · rw [nss_1 z]
      by_cases e : i = n
      · subst e
        omega
      · have := ih (by omega)
        omega
    · rw [nss_0 z]
      refine ih ?_
      by_cases e : i = n
      · exact absurd (e ▸ hp) z
      · omega
theorem nss_mono : ∀ {m n : Nat}, m ≤ n → nss s P m ≤ nss s P n := by
  intro m n
  induction n with
  | zero =>
    intro h
    obtain rfl : m = 0 := by omega
    exact Nat.le_refl _
  | succ n ih =>
    intro h
    by_cases e : m = n + 1
    · rw [e]
      exact Nat.le_refl _
    · have := ih (by omega)
      rcases Classical.em (P n) with z | z
      · rw [nss_1 z]
        omega
      · rw [nss_0 z]
        exact this
/-- the purses' parts of an amount -/
theorem zPo_shr (h5 : n ≤ 5) (hf : ∀ i, i < n → f i = nI (s i) ∧ 1 ≤ s i ∧ s i ≤ 5) (ha : a ≤ 9999) (hP : ∃ i, i < n ∧ P i) : zsm (fun b => zPo f P n (nI a) b) n = nI a ∧ ∀ b, b < n → ∃ v, v ≤ a + 1 ∧ zPo f P n (nI a) b = nI v := by
  obtain ⟨T, hT⟩ : ∃ T, T = nss s P n := ⟨_, rfl⟩
  obtain ⟨q, hq⟩ : ∃ q : Nat → Nat, ∀ i, q i = a * s i / T := ⟨_, fun _ => rfl⟩
  obtain ⟨r, hr⟩ : ∃ r : Nat → Nat, ∀ i, r i = a * s i % T := ⟨_, fun _ => rfl⟩
  have h0 : 0 < T := by
    obtain ⟨i, hi, pi⟩ := hP
    have := nss_at (s := s) hi pi
    have := (hf i hi).2.1
    omega
  have hT25 : T ≤ 25 := by
    have e : nss s P n ≤ nss (fun _ => 5) P n := nss_le fun i hi => (hf i hi).2.2
    have e2 : ∀ m, nss (fun _ => 5) P m ≤ 5 * m := by
      intro m
      induction m with
      | zero => exact Nat.le_refl _
      | succ m ih =>
        rcases Classical.em (P m) with z | z
        · rw [nss_1 z]
          omega
        · rw [nss_0 z]
          omega
    have := e2 n
    omega
  have eA : zss f P n = nI T := by
    rw [hT]
    exact zss_n fun i hi => (hf i hi).1
  have as5 : ∀ i, i < n → a * s i < 2 ^ 31 := fun i hi => by
    have := Nat.mul_le_mul ha (hf i hi).2.2
    omega
  have eq : ∀ i, i < n → nI a * f i / nI T = nI (q i) := fun i hi => by
    rw [(hf i hi).1, nI_mulN, pk_div (as5 i hi) h0 (by omega), hq]
  have er : ∀ i, i < n → zrst (nI a * f i) (nI T) = nI (r i) := fun i hi => by
    unfold zrst
    rw [(hf i hi).1, nI_mulN, pk_rem (as5 i hi) h0 (by omega), hr]
  have rT : ∀ i, r i < T := fun i => by
    rw [hr]
    exact Nat.mod_lt _ h0
  obtain ⟨hle, hsum⟩ := shr_nat (a := a) h5 hT h0 hq hr
  have eL : ∀ m, m ≤ n → zLe f P (nI T) (nI a) m = nI (a - nss q P m) := by
    intro m
    induction m with
    | zero => exact fun _ => rfl
    | succ m ih =>
      intro hm
      have z9 := nss_mono (s := q) (P := P) hm
      rcases Classical.em (P m) with z | z
      · refine (mite_1 (α := Int32) z).trans ?_
        rw [nss_1 z] at z9
        rw [ih (by omega), eq m (by omega), pk_sub (by omega), nss_1 z, Nat.sub_sub]
      · refine (mite_0 (α := Int32) z).trans ?_
        rw [ih (by omega), nss_0 z]
  have eH : ∀ b, b < n → zAh f P (nI T) (nI a) (nI (r b)) b n = sAh r P n b := fun b hb => by
    have key : ∀ m, m ≤ n → zAh f P (nI T) (nI a) (nI (r b)) b m = nss (fun i => mb (sAp r b i)) P m := by
      intro m
      induction m with
      | zero => exact fun _ => rfl
      | succ m ih =>
        intro hm
        have ap : zAp f (nI T) (nI a) (nI (r b)) b m ↔ sAp r b m := by
          unfold zAp sAp
          have := rT b
          have := rT m
          rw [er m (by omega), nI_ltI (by omega) (by omega), nI_eq (by omega) (by omega)]
        show mite (P m ∧ zAp f (nI T) (nI a) (nI (r b)) b m) _ _ = _
        rcases Classical.em (P m) with z | z
        · rw [nss_1 z]
          rcases Classical.em (sAp r b m) with w | w
          · rw [mite_1 ⟨z, ap.mpr w⟩, mb_1 w, ih (by omega)]
          · rw [mite_0 (fun q => w (ap.mp q.2)), mb_0 w, ih (by omega)]
            rfl
        · rw [mite_0 (fun q => z q.1), nss_0 z, ih (by omega)]
    rw [key n (Nat.le_refl n), nss_mcn h5]
    rfl
  have one : ∀ b, b < n → P b → zPo f P n (nI a) b = nI (q b + mb (sAh r P n b < a - nss q P n)) := fun b hb pb => by
    unfold zPo
    have nz : ¬ (nI T = 0 ∨ ¬ P b) := fun z => z.elim (fun e => by
      rw [← nI_0] at e
      have := (nI_eq (by omega) (by omega)).mp e
      omega) (fun e => e pb)
    have h6 : sAh r P n b ≤ 5 := mcn_top _
    rw [eA, mite_0 nz, eq b hb, er b hb, eL n (Nat.le_refl n), eH b hb]
    rcases Classical.em (sAh r P n b < a - nss q P n) with w | w
    · rw [mb_1 w, mite_1 ((nI_ltI (by omega) (by omega)).mpr w), nI_add]
    · rw [mb_0 w, mite_0 (fun z => w ((nI_ltI (by omega) (by omega)).mp z)), nI_add]
  have non : ∀ b, ¬ P b → zPo f P n (nI a) b = nI 0 := fun b nb => by
    unfold zPo
    exact mite_1 (Or.inr nb)
  refine ⟨?_, fun b hb => ?_⟩
  · have key : ∀ m, m ≤ n → zsm (fun b => zPo f P n (nI a) b) m = nI (nss (fun b => q b + mb (sAh r P n b < a - nss q P n)) P m) := by
      intro m
      induction m with
      | zero => exact fun _ => rfl
      | succ m ih =>
        intro hm
        show zsm (fun b => zPo f P n (nI a) b) m + zPo f P n (nI a) m = _
        rcases Classical.em (P m) with z | z
        · rw [ih (by omega), one m (by omega) z, nI_add, nss_1 z]
        · rw [ih (by omega), non m z, nI_add, nss_0 z, Nat.add_zero]
    rw [key n (Nat.le_refl n), hsum]
  · rcases Classical.em (P b) with z | z
    · refine ⟨_, ?_, one b hb z⟩
      have w : q b ≤ a := by
        rw [hq]
        refine Nat.div_le_of_le_mul ?_
        rw [Nat.mul_comm T a]
        have := nss_at (s := s) hb z
        exact Nat.mul_le_mul_left a (by omega)
      have : mb (sAh r P n b < a - nss q P n) ≤ 1 := by
        rcases Classical.em (sAh r P n b < a - nss q P n) with u | u
        · rw [mb_1 u]
          exact Nat.le_refl 1
        · rw [mb_0 u]
          exact Nat.zero_le 1
      omega
    · exact ⟨0, Nat.zero_le _, non b z⟩
theorem zsm_add {f g : Nat → Int32} : ∀ {n : Nat}, zsm (fun i => f i + g i) n = zsm f n + zsm g n := by
  intro n
  induction n with
  | zero => rfl
  | succ n ih =>
    show zsm (fun i => f i + g i) n + (f n + g n) = (zsm f n + f n) + (zsm g n + g n)
    rw [ih]
    simp only [Int32.add_assoc]
    rw [show zsm g n + (f n + g n) = f n + (zsm g n + g n) from by rw [← Int32.add_assoc, Int32.add_comm (zsm g n), Int32.add_assoc]]
end SHR
