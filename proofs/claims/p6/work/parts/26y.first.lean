/-! ===== the row that the reference finds is the first one ===== -/
section FST
variable {pl C : Nat → Nat → Prop} {cl : Nat → Int32} {nA mm part u j i : Nat} {due : Int32} {row : Nat → Int32} {R : Nat → Nat → Prop}
theorem st_R (hj : j < 5) (hR : ∀ i q, R i q ↔ i < 5 ∧ q < part ∧ row q = nI i) : ∀ a q, mAdd R j part a q ↔ a < 5 ∧ q < part + 1 ∧ upd row part (nI j) q = nI a := fun a q => by
  unfold mAdd
  rw [hR a q]
  by_cases e : q = part
  · subst e
    rw [pk_us]
    constructor
    · rintro (h | h)
      · have := h.2.1
        omega
      · rw [h.1]
        exact ⟨hj, by omega, rfl⟩
    · rintro ⟨h1, -, h3⟩
      exact Or.inr ⟨((nI_eq (by omega) (by omega)).mp h3).symm, rfl⟩
  · rw [pk_un e]
    constructor
    · rintro (h | h)
      · exact ⟨h.1, by omega, h.2.2⟩
      · exact absurd h.2 e
    · rintro ⟨h1, h2, h3⟩
      exact Or.inl ⟨h1, by omega, h3⟩
theorem st_u (hub : ∀ i, i < 5 → (u.testBit i = true ↔ ∃ q, R i q)) : ∀ a, a < 5 → ((u ||| 2 ^ j).testBit a = true ↔ ∃ q, mAdd R j part a q) := fun a ha => by
  rw [tb_or2, hub a ha]
  constructor
  · rintro (⟨q, hq⟩ | e)
    · exact ⟨q, Or.inl hq⟩
    · exact ⟨part, Or.inr ⟨e, rfl⟩⟩
  · rintro ⟨q, hq | ⟨e, -⟩⟩
    · exact Or.inl ⟨q, hq⟩
    · exact Or.inr e
theorem st_c (hj : j < 5) (hub : ∀ i, i < 5 → (u.testBit i = true ↔ ∃ q, R i q)) : mcn (fun i => (u ||| 2 ^ j).testBit i = true) = mcn (fun i => u.testBit i = true) + mFr R j := by
  rcases Classical.em (u.testBit j = true) with hb | hb
  · have e0 : mFr R j = 0 := mb_0 fun q => by
      obtain ⟨z, hz⟩ := (hub j hj).mp hb
      exact q z hz
    rw [e0, Nat.add_zero]
    exact mcn_cg fun a _ => tb_or2.trans ⟨fun h => h.elim id fun e => by rw [e]; exact hb, Or.inl⟩
  · have e1 : mFr R j = 1 := mb_1 fun q hq => hb ((hub j hj).mpr ⟨q, hq⟩)
    rw [e1]
    exact mcn_one hj hb fun a _ => tb_or2
theorem st_0 (hR : ∀ i q, R i q ↔ i < 5 ∧ q < part ∧ row q = nI i) : ∀ a q, R a q ↔ a < 5 ∧ q < part + 1 ∧ upd row part (-1) q = nI a := fun a q => by
  rw [hR a q]
  by_cases e : q = part
  · subst e
    rw [pk_us]
    constructor
    · rintro ⟨-, h, -⟩
      omega
    · rintro ⟨h1, -, h3⟩
      exact absurd h3.symm (znm1 (by omega))
  · rw [pk_un e]
    exact ⟨fun h => ⟨h.1, by omega, h.2.2⟩, fun h => ⟨h.1, by omega, h.2.2⟩⟩
theorem st_f (hm : mm ≤ 5) (hu : u < 32) (hi : i < 5) (hub : ∀ i, i < 5 → (u.testBit i = true ↔ ∃ q, R i q)) (hcnt : mcn (fun i => u.testBit i = true) ≤ mm) : (zIn (nI u) (nI i) ∨ ¬ zbc (nI u) = nI mm) ↔ mFr R i ≤ mm - mcn (fun i => u.testBit i = true) := by
  have ht := mcn_top (fun i => u.testBit i = true)
  rw [zbc_mcn hu, nI_eq (by omega) (by omega), zIn_nat (by omega) (by omega), hub i hi]
  rcases Classical.em (∀ q, ¬ R i q) with e | e
  · have e1 : mFr R i = 1 := mb_1 e
    rw [e1]
    constructor
    · rintro (⟨q, hq⟩ | h)
      · exact absurd hq (e q)
      · omega
    · intro h
      exact Or.inr (by omega)
  · have e0 : mFr R i = 0 := mb_0 e
    rw [e0]
    exact ⟨fun _ => Nat.zero_le _, fun _ => Or.inl (Classical.byContradiction fun z => e fun q hq => z ⟨q, hq⟩)⟩
theorem st_k (hp : part < 7) (hi : i < 5) (hc : ∀ p o, p < 7 → o < 7 → (zIn (cl p) (nI o) ↔ C p o)) (hR : ∀ i q, R i q ↔ i < 5 ∧ q < part ∧ row q = nI i) : (∀ o, o < part → ¬ row o = nI i ∨ ¬ zIn (cl part) (nI o)) ↔ ∀ q, R i q → ¬ C part q := by
  constructor
  · intro h q hq hC
    obtain ⟨-, b2, b3⟩ := (hR i q).mp hq
    rcases h q b2 with k | k
    · exact k b3
    · exact k ((hc part q (by omega) (by omega)).mpr hC)
  · intro h o ho
    rcases Classical.em (row o = nI i) with e | e
    · exact Or.inr fun q => h o ((hR _ o).mpr ⟨hi, ho, e⟩) ((hc part o (by omega) (by omega)).mp q)
    · exact Or.inl e
/-- a step that the reference can take is one that the search can take -/
theorem zStp_iff {r : Nat} (hA : nA ≤ 5) (hm : mm ≤ 5) (hs : ∀ p q, C p q → C q p) (hc : ∀ p o, p < 7 → o < 7 → (zIn (cl p) (nI o) ↔ C p o)) (hr : part + (r + 1) ≤ 7) (hu : u < 32) (hR : ∀ i q, R i q ↔ i < 5 ∧ q < part ∧ row q = nI i) (hub : ∀ i, i < 5 → (u.testBit i = true ↔ ∃ q, R i q)) (hcnt : mcn (fun i => u.testBit i = true) ≤ mm) (hj : j < nA) :
    zStp pl cl nA due (nI mm) r part (nI u) row j ↔ (pl j part ∧ (∀ q, R j q → ¬ C part q) ∧ mFr R j ≤ mm - mcn (fun i => u.testBit i = true) ∧ ∃ g, mExt (fun i p => i < nA ∧ pl i p) C (dL (fun p => zIn due (nI p)) r (part + 1)) (mAdd R j part) (mm - mcn (fun i => u.testBit i = true) - mFr R j) g) := by
  have hj5 : j < 5 := by omega
  unfold zStp
  rw [st_f hm hu hj5 hub hcnt, st_k (by omega) hj5 hc hR]
  constructor
  · rintro ⟨a, b, c, d⟩
    refine ⟨a, c, b, ?_⟩
    have hu' : u ||| 2 ^ j < 32 := Nat.or_lt_two_pow (n := 5) hu (Nat.pow_lt_pow_right (by decide : 1 < 2) hj5 : 2 ^ j < 2 ^ 5)
    rw [nI_orN] at d
    have key := (zCan_ext (pl := pl) hA hm hs hc r (part + 1) (by omega) (u ||| 2 ^ j) hu' (upd row part (nI j)) (mAdd R j part) (st_R hj5 hR) (st_u hub) (by rw [st_c hj5 hub]; omega)).mp d
    rw [st_c hj5 hub, Nat.sub_add_eq] at key
    exact key
  · rintro ⟨a, c, b, d⟩
    refine ⟨a, b, c, ?_⟩
    have hu' : u ||| 2 ^ j < 32 := Nat.or_lt_two_pow (n := 5) hu (Nat.pow_lt_pow_right (by decide : 1 < 2) hj5 : 2 ^ j < 2 ^ 5)
    rw [nI_orN]
    refine (zCan_ext (pl := pl) hA hm hs hc r (part + 1) (by omega) (u ||| 2 ^ j) hu' (upd row part (nI j)) (mAdd R j part) (st_R hj5 hR) (st_u hub) (by rw [st_c hj5 hub]; omega)).mpr ?_
    rw [st_c hj5 hub, Nat.sub_add_eq]
    exact d
theorem zFst_first (hA : nA ≤ 5) (hm : mm ≤ 5) (hs : ∀ p q, C p q → C q p) (hc : ∀ p o, p < 7 → o < 7 → (zIn (cl p) (nI o) ↔ C p o)) (fo : Nat → Int32) :
    ∀ (r part : Nat), part + r ≤ 7 → ∀ (u : Nat), u < 32 → ∀ (row : Nat → Int32) (R : Nat → Nat → Prop), (∀ i q, R i q ↔ i < 5 ∧ q < part ∧ row q = nI i) → (∀ i, i < 5 → (u.testBit i = true ↔ ∃ q, R i q)) → mcn (fun i => u.testBit i = true) ≤ mm →
      zFst pl cl nA due (nI mm) r part (nI u) row fo → ∃ g, mFirst (fun i p => i < nA ∧ pl i p) C (dL (fun p => zIn due (nI p)) r part) R (mm - mcn (fun i => u.testBit i = true)) g ∧ ∀ p, part ≤ p → p < part + r → (zIn due (nI p) → fo p = nI (g p)) ∧ (¬ zIn due (nI p) → fo p = -1) := by
  intro r
  induction r with
  | zero => exact fun part _ u _ row R _ _ _ _ => ⟨fun _ => 0, mFirst_nil, fun p h1 h2 => by omega⟩
  | succ r ih =>
    intro part hr u hu row R hR hub hcnt hf
    by_cases hz : zIn due (nI part)
    · rw [dL_1 (D := fun p => zIn due (nI p)) hz]
      have hnd : part ∉ dL (fun p => zIn due (nI p)) r (part + 1) := fun h => by
        have := ((dL_mem r (part + 1) part).mp h).1
        omega
      obtain ⟨i, hi, ho, hst, hno, hrest⟩ := hf.1 hz
      have hi5 : i < 5 := by omega
      obtain ⟨s1, s2, s3, s4⟩ := (zStp_iff hA hm hs hc hr hu hR hub hcnt hi).mp hst
      have hu' : u ||| 2 ^ i < 32 := Nat.or_lt_two_pow (n := 5) hu (Nat.pow_lt_pow_right (by decide : 1 < 2) hi5 : 2 ^ i < 2 ^ 5)
      rw [nI_orN] at hrest
      obtain ⟨g, hg1, hg2⟩ := ih (part + 1) (by omega) (u ||| 2 ^ i) hu' (upd row part (nI i)) (mAdd R i part) (st_R hi5 hR) (st_u hub) (by rw [st_c hi5 hub]; omega) hrest
      rw [st_c hi5 hub, Nat.sub_add_eq] at hg1
      have hmn : ∀ m, m ≤ i → mNo (fun i p => i < nA ∧ pl i p) C (dL (fun p => zIn due (nI p)) r (part + 1)) R (mm - mcn (fun i => u.testBit i = true)) part m := by
        intro m
        induction m with
        | zero => exact fun _ => mNo_0
        | succ m ihm =>
          intro hmi
          refine mNo_s hs hnd (ihm (by omega)) ?_
          rintro ⟨⟨a1, a2⟩, b, c, d⟩
          exact hno m (by omega) ((zStp_iff hA hm hs hc hr hu hR hub hcnt a1).mpr ⟨a2, b, c, d⟩)
      refine ⟨fun q => if q = part then i else g q, mFirst_cons hs hnd hi5 (hmn i (Nat.le_refl _)) ⟨hi, s1⟩ s2 s3 hg1, fun p h1 h2 => ?_⟩
      by_cases e : p = part
      · subst e
        exact ⟨fun _ => by
          show fo p = nI (if p = p then i else g p)
          rw [if_pos rfl]
          exact ho, fun q => absurd hz q⟩
      · have := hg2 p (by omega) (by omega)
        exact ⟨fun q => by
          show fo p = nI (if p = part then i else g p)
          rw [if_neg e]
          exact this.1 q, this.2⟩
    · rw [dL_0 (D := fun p => zIn due (nI p)) hz]
      obtain ⟨ho, hrest⟩ := hf.2 hz
      obtain ⟨g, hg1, hg2⟩ := ih (part + 1) (by omega) u hu (upd row part (-1)) R (st_0 hR) hub hcnt hrest
      refine ⟨g, hg1, fun p h1 h2 => ?_⟩
      by_cases e : p = part
      · subst e
        exact ⟨fun q => absurd q hz, fun _ => ho⟩
      · exact hg2 p (by omega) (by omega)
end FST
theorem fFst_0 {N : Nat → Nat} {F G : Nat → Nat → Int32} {due most used : Int32} {r : Nat} {fo : Nat → Int32} (h : zRw 0 F G) (c : fFst N G due most r 0 used (G 12) fo) : fFst N F due most r 0 used (F 12) fo := by
  unfold fFst at c ⊢
  rw [h.pl, h.1 13 (by decide)] at c
  exact zFst_row _ _ _ _ _ (fun o ho => absurd ho (Nat.not_lt_zero o)) c
theorem fFst_first {N : Nat → Nat} {F : Nat → Nat → Int32} {due : Int32} {C : Nat → Nat → Prop} {D : Nat → Prop} {k : Nat} {fo : Nat → Int32} (h0 : N 0 ≤ 7) (h1 : N 1 ≤ 5) (hk : k ≤ 5) (hs : ∀ p q, C p q → C q p) (hc : ∀ p, p < 7 → zMk (F 13 p) (C p)) (hd : ∀ p, p < N 0 → (zIn due (nI p) ↔ D p)) (hD : ∀ p, D p → p < N 0) (hf : fFst N F due (nI k) (N 0) 0 (nI 0) (F 12) fo) : ∃ h : Nat → Nat, mFirst (fun i p => i < N 1 ∧ zPl F i p) C (dL D 7 0) (fun _ _ => False) k h ∧ ∀ p, p < N 0 → (D p → fo p = nI (h p)) ∧ (¬ D p → fo p = -1) := by
  have e0 : mcn (fun i => (0 : Nat).testBit i = true) = 0 := by
    unfold mcn
    rw [mb_0 (by decide), mb_0 (by decide), mb_0 (by decide), mb_0 (by decide), mb_0 (by decide)]
  obtain ⟨g, a, b⟩ := zFst_first (pl := zPl F) (cl := F 13) (due := due) h1 hk hs (fun p o hp ho => (hc p hp).In ho) fo (N 0) 0 (by omega) 0 (by decide) (F 12) (fun _ _ => False) (fun i q => ⟨False.elim, fun h => absurd h.2.1 (Nat.not_lt_zero q)⟩) (fun i _ => ⟨fun h => (by rw [Nat.zero_testBit] at h; cases h), fun ⟨_, h⟩ => h.elim⟩) (by rw [e0]; exact Nat.zero_le _) hf
  rw [e0, Nat.sub_zero] at a
  have el : ∀ (r part : Nat), part + r ≤ N 0 → dL (fun p => zIn due (nI p)) r part = dL D r part := by
    intro r
    induction r with
    | zero => exact fun _ _ => rfl
    | succ r ih =>
      intro part hp
      by_cases hz : D part
      · rw [dL_1 (D := fun p => zIn due (nI p)) ((hd part (by omega)).mpr hz), dL_1 (D := D) hz, ih (part + 1) (by omega)]
      · rw [dL_0 (D := fun p => zIn due (nI p)) (fun q => hz ((hd part (by omega)).mp q)), dL_0 (D := D) hz, ih (part + 1) (by omega)]
  rw [el (N 0) 0 (by omega)] at a
  obtain ⟨x, ex⟩ : ∃ x, 7 = N 0 + x := ⟨7 - N 0, by omega⟩
  refine ⟨g, ?_, fun p hp => ⟨fun q => (b p (Nat.zero_le _) (by omega)).1 ((hd p hp).mpr q), fun q => (b p (Nat.zero_le _) (by omega)).2 (fun z => q ((hd p hp).mp z))⟩⟩
  rw [ex, dL_top hD x]
  exact a
/-- how many are needed for a set of scenes, and the row that is found -/
def rNd (N : Nat → Nat) (F : Nat → Nat → Int32) (a : Int32) (x : Int32) (F' : Nat → Nat → Int32) : Prop := (x = -1 ∧ ¬ zFR N F a 5) ∨ ∃ k, k ≤ 5 ∧ x = nI k ∧ (∀ j, j < k → ¬ zFR N F a j) ∧ ∃ h : Nat → Nat, mFirst (fun i p => i < N 1 ∧ zPl F i p) (mCl (rSp F) (rCh F) (rPa F) (N 0) a (N 2)) (dL (mDu (rSp F) a (N 2)) 7 0) (fun _ _ => False) k h ∧ ∀ p, p < N 0 → (mDu (rSp F) a (N 2) p → F' 12 p = nI (h p)) ∧ (¬ mDu (rSp F) a (N 2) p → F' 12 p = -1)
theorem rNd_few {N : Nat → Nat} {F F' : Nat → Nat → Int32} {a x : Int32} (h : rNd N F a x F') : mFew (zFR N F a) x := by
  rcases h with ⟨e, n⟩ | ⟨k, a1, e, b, h, c, -⟩
  · exact Or.inl ⟨e, n⟩
  · exact Or.inr ⟨k, a1, e, c.fit (fun _ q => q.1), b⟩
theorem rNd_best {N : Nat → Nat} {F F' : Nat → Nat → Int32} {a x : Int32} (b0 : N 0 ≤ 7) (b1 : N 1 ≤ 5) (h : rNd N F a x F') : ∃ hh : Nat → Nat, mBst (fun i p => i < N 1 ∧ zPl F i p) (mCl (rSp F) (rCh F) (rPa F) (N 0) a (N 2)) (mDu (rSp F) a (N 2)) x hh ∧ (¬ x = -1 → ∀ p, p < N 0 → (mDu (rSp F) a (N 2) p → F' 12 p = nI (hh p)) ∧ (¬ mDu (rSp F) a (N 2) p → F' 12 p = -1)) := by
  rcases h with ⟨e, n⟩ | ⟨k, a1, e, b, h, c, d⟩
  · exact ⟨fun _ => 0, Or.inl ⟨e, n⟩, fun q => absurd e q⟩
  · exact ⟨h, Or.inr ⟨k, a1, e, b, c⟩, fun _ => d⟩
theorem rCast_of {N : Nat → Nat} {F : Nat → Nat → Int32} {b : Int32} {h : Nat → Nat} (hb : rBs N F b h) (hn : ¬ b = -1) (hr : ∀ p, p < N 0 → (rDu N F p → F 11 p = nI (h p)) ∧ (¬ rDu N F p → F 11 p = -1)) (hs : ∀ s, s < N 2 → ∃ m, m < 2 ^ N 0 ∧ F (26 + s) 0 = nI m) (b2 : N 2 ≤ 6) (b0 : N 0 ≤ 7) : rCast N F := by
  have at9 : ∀ p, p < N 0 → rDu N F p → ∃ q, q < N 1 ∧ F 11 p = nI q := fun p hp hd => ⟨h p, (hb.pmi (fun _ q => q.1) hn hd).1, (hr p hp).1 hd⟩
  refine ⟨fun p hp => ?_, fun s hs' ms hms hF p hbit => ?_⟩
  · rcases Classical.em (rDu N F p) with hd | hd
    · exact Or.inr (at9 p hp hd)
    · exact Or.inl ((hr p hp).2 hd)
  · obtain ⟨m', hm', e'⟩ := hs s hs'
    have h128 : m' < 128 := Nat.lt_of_lt_of_le hm' (zp2 (n := 7) b0)
    have em : ms = m' := (nI_eq (by omega) (by omega)).mp (hF.symm.trans e')
    subst em
    have hp : p < N 0 := tb_lt hm' hbit
    refine at9 p hp ⟨by omega, s, hs', zall b2 hs', ?_⟩
    show zIn (F (26 + s) 0) (nI p)
    rw [hF]
    exact (zIn_nat (by omega) (by omega)).mpr hbit
section RBEST
variable {N : Nat → Nat} {F F2 : Nat → Nat → Int32} {b : Int32} {h : Nat → Nat} {i p q : Nat}
theorem rBs_M (hM : rM N F F2) (hI : rI N F) (hb : rBs N F b h) : rBs N F2 b h := rBs_mv hI.bnd.1 hI.bnd.2.1 hI.bnd.2.2.1 (fun k j q1 q2 _ => hM.1 k j (Or.inl ⟨q1, by omega⟩)) hb
theorem zAc_M (hM : rM N F F2) (hI : rI N F) : zAc (rDu N F2) b h q ↔ zAc (rDu N F) b h q := and_congr_right fun _ => exists_congr fun p => and_congr_left fun _ => rDu_mv hI.bnd.2.2.1 (fun k j q1 q2 _ => hM.1 k j (Or.inl ⟨q1, by omega⟩)) p
theorem rBest_of (hkn : rKn N F) (hM : rM N F F2) (hk : ¬ F2 0 11 = 0) : ∃ h : Nat → Nat, rBs N F (F2 0 12) h ∧ (¬ F2 0 12 = -1 → ∀ p, p < N 0 → (rDu N F p → F2 11 p = nI (h p)) ∧ (¬ rDu N F p → F2 11 p = -1)) := by
  rcases hM.2 hkn with e | ⟨b0, b1, b2, h, x, y⟩
  · exact absurd e hk
  · have e : ∀ k j : Nat, 14 ≤ k → k < 32 → (k < 21 ∨ 26 ≤ k ∨ j < 4) → F k j = F2 k j := fun k j q1 q2 _ => (hM.1 k j (Or.inl ⟨q1, by omega⟩)).symm
    refine ⟨h, rBs_mv b0 b1 b2 e x, fun hn p hp => ?_⟩
    rw [rDu_mv b2 e p]
    exact y hn p hp
theorem rBest_at (hkn : rKn N F) (hM : rM N F F2) (hk : ¬ F2 0 11 = 0) (hb : rBs N F b h) : F2 0 12 = b ∧ (¬ b = -1 → ∀ p, p < N 0 → (rDu N F p → F2 11 p = nI (h p)) ∧ (¬ rDu N F p → F2 11 p = -1)) := by
  obtain ⟨h', x, y⟩ := rBest_of hkn hM hk
  obtain ⟨e, u⟩ := mBst_uniq (fun _ q => q.1) x hb
  refine ⟨e, fun hn p hp => ?_⟩
  rw [e] at y
  rw [e] at u
  obtain ⟨y1, y2⟩ := y hn p hp
  exact ⟨fun hd => (y1 hd).trans (congrArg nI (u hn p hd)), y2⟩
theorem rAt_iff {x : Int32} (h5 : ∀ {p : Nat}, ¬ b = -1 → rDu N F p → h p < 5) (b1 : N 1 ≤ 5) (hn : ¬ b = -1) (hi : i < N 1) (hx : (rDu N F p → x = nI (h p)) ∧ (¬ rDu N F p → x = -1)) : x = nI i ↔ (¬ b = -1 ∧ rDu N F p ∧ h p = i) := by
  constructor
  · intro e
    rcases Classical.em (rDu N F p) with hd | hd
    · have := h5 hn hd
      exact ⟨hn, hd, (nI_eq (by omega) (by omega)).mp ((hx.1 hd).symm.trans e)⟩
    · exact absurd (e.symm.trans (hx.2 hd)) (znm1 (by omega))
  · rintro ⟨-, hd, e⟩
    rw [hx.1 hd, e]
end RBEST
theorem zadd0 (x : Int32) : x + nI 0 = x := by
  apply Int32.toBitVec_inj.mp
  simp only [Int32.toBitVec_add, nI_bv]
  simp
