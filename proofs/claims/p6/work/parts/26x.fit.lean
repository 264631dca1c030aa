/-! ===== the reference's search finds a cast just where there is one ===== -/
theorem mb_if {P : Prop} [Decidable P] : mb P = if P then 1 else 0 := by
  by_cases h : P
  · rw [mb_1 h, if_pos h]
  · rw [mb_0 h, if_neg h]
theorem zbc_mcn {u : Nat} (hu : u < 32) : zbc (nI u) = nI (mcn (fun i => u.testBit i = true)) := by
  rw [zbc5 u hu]
  unfold mcn
  rw [mb_if, mb_if, mb_if, mb_if, mb_if]
theorem tb_or2 {u i j : Nat} : (u ||| 2 ^ i).testBit j = true ↔ u.testBit j = true ∨ j = i := by
  rw [Nat.testBit_or, Bool.or_eq_true, Nat.testBit_two_pow]
  exact or_congr Iff.rfl ⟨fun h => (of_decide_eq_true h).symm, fun h => decide_eq_true h.symm⟩
theorem zCan_ext {pl : Nat → Nat → Prop} {cl : Nat → Int32} {nA mm : Nat} {due : Int32} {C : Nat → Nat → Prop} (hA : nA ≤ 5) (hm : mm ≤ 5) (hs : ∀ p q, C p q → C q p) (hc : ∀ p o, p < 7 → o < 7 → (zIn (cl p) (nI o) ↔ C p o)) :
    ∀ (r part : Nat), part + r ≤ 7 → ∀ (u : Nat), u < 32 → ∀ (row : Nat → Int32) (R : Nat → Nat → Prop), (∀ i q, R i q ↔ i < 5 ∧ q < part ∧ row q = nI i) → (∀ i, i < 5 → (u.testBit i = true ↔ ∃ q, R i q)) → mcn (fun i => u.testBit i = true) ≤ mm →
      (zCan pl cl nA due (nI mm) r part (nI u) row ↔ ∃ g, mExt (fun i p => i < nA ∧ pl i p) C (dL (fun p => zIn due (nI p)) r part) R (mm - mcn (fun i => u.testBit i = true)) g) := by
  intro r
  induction r with
  | zero => exact fun part _ u _ row R _ _ _ => ⟨fun _ => ⟨fun _ => 0, mFirst_nil.1⟩, fun _ => trivial⟩
  | succ r ih =>
    intro part hr u hu row R hR hub hcnt
    have hpR : ∀ i, ¬ R i part := fun i h => by
      have := ((hR i part).mp h).2.1
      omega
    by_cases hz : zIn due (nI part)
    · rw [dL_1 (D := fun p => zIn due (nI p)) hz]
      have hnd : part ∉ dL (fun p => zIn due (nI p)) r (part + 1) := fun h => by
        have := ((dL_mem r (part + 1) part).mp h).1
        omega
      have step : ∀ i, i < 5 → (mFr R i ≤ mm - mcn (fun i => u.testBit i = true)) → (zCan pl cl nA due (nI mm) r (part + 1) (nI u ||| nI (2 ^ i)) (upd row part (nI i)) ↔ ∃ g, mExt (fun i p => i < nA ∧ pl i p) C (dL (fun p => zIn due (nI p)) r (part + 1)) (mAdd R i part) (mm - mcn (fun i => u.testBit i = true) - mFr R i) g) := fun i hi hf => by
        have hu' : u ||| 2 ^ i < 32 := Nat.or_lt_two_pow (n := 5) hu (Nat.pow_lt_pow_right (by decide : 1 < 2) hi : 2 ^ i < 2 ^ 5)
        have ec : mcn (fun j => (u ||| 2 ^ i).testBit j = true) = mcn (fun j => u.testBit j = true) + mFr R i := by
          rcases Classical.em (u.testBit i = true) with hb | hb
          · have e0 : mFr R i = 0 := mb_0 fun q => by
              obtain ⟨z, hz⟩ := (hub i hi).mp hb
              exact q z hz
            rw [e0, Nat.add_zero]
            exact mcn_cg fun j _ => tb_or2.trans ⟨fun h => h.elim id fun e => by rw [e]; exact hb, Or.inl⟩
          · have e1 : mFr R i = 1 := mb_1 fun q hq => hb ((hub i hi).mpr ⟨q, hq⟩)
            rw [e1]
            exact mcn_one hi hb fun j _ => tb_or2
        have key := ih (part + 1) (by omega) (u ||| 2 ^ i) hu' (upd row part (nI i)) (mAdd R i part) (fun a q => ?_) (fun a ha => ?_) (by rw [ec]; omega)
        · rw [nI_orN, key, ec, Nat.sub_add_eq]
        · unfold mAdd
          rw [hR a q]
          by_cases e : q = part
          · subst e
            rw [pk_us]
            constructor
            · rintro (h | h)
              · have := h.2.1
                omega
              · rw [h.1]
                exact ⟨hi, by omega, rfl⟩
            · rintro ⟨h1, -, h3⟩
              exact Or.inr ⟨((nI_eq (by omega) (by omega)).mp h3).symm, rfl⟩
          · rw [pk_un e]
            constructor
            · rintro (h | h)
              · exact ⟨h.1, by omega, h.2.2⟩
              · exact absurd h.2 e
            · rintro ⟨h1, h2, h3⟩
              exact Or.inl ⟨h1, by omega, h3⟩
        · rw [tb_or2, hub a ha]
          constructor
          · rintro (⟨q, hq⟩ | e)
            · exact ⟨q, Or.inl hq⟩
            · exact ⟨part, Or.inr ⟨e, rfl⟩⟩
          · rintro ⟨q, hq | ⟨e, -⟩⟩
            · exact Or.inl ⟨q, hq⟩
            · exact Or.inr e
      constructor
      · intro h
        obtain ⟨i, hi, h1, h2, h3, h4⟩ := h.1 hz
        have hi5 : i < 5 := by omega
        have hf : mFr R i ≤ mm - mcn (fun i => u.testBit i = true) := by
          rcases Classical.em (∀ q, ¬ R i q) with e | e
          · have e1 : mFr R i = 1 := mb_1 e
            have nb : ¬ zIn (nI u) (nI i) := fun q => by
              obtain ⟨z, hz⟩ := (hub i hi5).mp ((zIn_nat (by omega) (by omega)).mp q)
              exact e z hz
            have h5 := h2.resolve_left nb
            rw [zbc_mcn hu, nI_eq (by have := mcn_top (fun i => u.testBit i = true); omega) (by omega)] at h5
            omega
          · have e0 : mFr R i = 0 := mb_0 e
            omega
        obtain ⟨g, hg⟩ := (step i hi5 hf).mp h4
        have ne : ∀ q, q ∈ dL (fun p => zIn due (nI p)) r (part + 1) → q ≠ part := fun q hq e => hnd (e ▸ hq)
        obtain ⟨g', eg⟩ : ∃ g' : Nat → Nat, g' = fun q => if q = part then i else g q := ⟨_, rfl⟩
        have e0 : g' part = i := by rw [eg]; exact if_pos rfl
        refine ⟨g', (mExt_cons hs hnd).mpr ?_⟩
        rw [e0]
        refine ⟨hi5, ⟨hi, h1⟩, fun q hq hC => ?_, hf, mExt_cg (fun q hq => by rw [eg]; exact (if_neg (ne q hq)).symm) hg⟩
        obtain ⟨-, b2, b3⟩ := (hR i q).mp hq
        rcases h3 q b2 with k | k
        · exact k b3
        · exact k ((hc part q (by omega) (by omega)).mpr hC)
      · rintro ⟨g, hg⟩
        obtain ⟨a1, ⟨a2, a3⟩, a4, a5, a6⟩ := (mExt_cons hs hnd).mp hg
        refine ⟨fun _ => ⟨g part, a2, a3, ?_, fun o ho => ?_, (step (g part) a1 a5).mpr ⟨g, a6⟩⟩, fun q => absurd hz q⟩
        · rcases Classical.em (∃ q, R (g part) q) with e | e
          · exact Or.inl ((zIn_nat (by omega) (by omega)).mpr ((hub _ a1).mpr e))
          · have e1 : mFr R (g part) = 1 := mb_1 fun q hq => e ⟨q, hq⟩
            refine Or.inr ?_
            rw [zbc_mcn hu, nI_eq (by have := mcn_top (fun i => u.testBit i = true); omega) (by omega)]
            omega
        · rcases Classical.em (row o = nI (g part)) with e | e
          · exact Or.inr fun q => a4 o ((hR _ o).mpr ⟨a1, ho, e⟩) ((hc part o (by omega) (by omega)).mp q)
          · exact Or.inl e
    · rw [dL_0 (D := fun p => zIn due (nI p)) hz]
      have key := ih (part + 1) (by omega) u hu (upd row part (-1)) R (fun a q => ?_) hub hcnt
      · exact ⟨fun h => key.mp (h.2 hz), fun h => ⟨fun q => absurd q hz, fun _ => key.mpr h⟩⟩
      · rw [hR a q]
        by_cases e : q = part
        · subst e
          rw [pk_us]
          constructor
          · rintro ⟨-, h, -⟩
            omega
          · rintro ⟨h1, -, h3⟩
            exact absurd h3.symm (znm1 (by omega))
        · rw [pk_un e]
          exact ⟨fun h => ⟨h.1, by omega, h.2.2⟩, fun h => ⟨h.1, by omega, h.2.2⟩⟩
/-- from the start -/
theorem fCan_fit {N : Nat → Nat} {F : Nat → Nat → Int32} {due : Int32} {C : Nat → Nat → Prop} {D : Nat → Prop} {k : Nat} (h0 : N 0 ≤ 7) (h1 : N 1 ≤ 5) (hk : k ≤ 5) (hs : ∀ p q, C p q → C q p) (hc : ∀ p, p < 7 → zMk (F 13 p) (C p)) (hd : ∀ p, p < N 0 → (zIn due (nI p) ↔ D p)) (hD : ∀ p, D p → p < N 0) : fCan N F due (nI k) (N 0) 0 (nI 0) (F 12) ↔ mFit (fun i p => i < N 1 ∧ zPl F i p) C D k := by
  have e0 : mcn (fun i => (0 : Nat).testBit i = true) = 0 := by
    unfold mcn
    rw [mb_0 (by decide), mb_0 (by decide), mb_0 (by decide), mb_0 (by decide), mb_0 (by decide)]
  have key := zCan_ext (pl := zPl F) (cl := F 13) (due := due) h1 hk hs (fun p o hp ho => (hc p hp).In ho) (N 0) 0 (by omega) 0 (by decide) (F 12) (fun _ _ => False) (fun i q => ⟨False.elim, fun h => absurd h.2.1 (Nat.not_lt_zero q)⟩) (fun i _ => ⟨fun h => (by rw [Nat.zero_testBit] at h; cases h), fun ⟨_, h⟩ => h.elim⟩) (by rw [e0]; exact Nat.zero_le _)
  rw [e0, Nat.sub_zero] at key
  refine key.trans (mFit_ext fun p => ?_)
  rw [dL_mem]
  exact ⟨fun h => (hd p (by omega)).mp h.2.2, fun h => ⟨Nat.zero_le _, by have := hD p h; omega, (hd p (hD p h)).mpr h⟩⟩
theorem mI_emp {c : Nat → Int32} {E T : Nat → Nat → Prop} {i j : Nat} (h : mI c E T i j) (hn : ∀ p q, ¬ T p q) : ∀ p, p < 7 → zMk (c p) (E p) := fun p hp => (h p hp).cg fun q => ⟨fun z => z.elim id fun y => y.elim (fun y => absurd y.1 (hn p q)) (fun y => absurd y.1 (hn q p)), Or.inl⟩
theorem mI_no0 {c c' c2 : Nat → Int32} {E T : Nat → Nat → Prop} {i j : Nat} (h : mI c E T i j) (hn : ¬ T i j) (e1 : c' i = c i ||| nI 0) (e2 : ∀ p, p ≠ i → c' p = c p) (e3 : c2 j = c' j ||| nI 0) (e4 : ∀ p, p ≠ j → c2 p = c' p) : mI c2 E T i (j + 1) := by
  have z : ∀ x : Int32, x ||| nI 0 = x := fun x => by
    apply Int32.toBitVec_inj.mp
    simp only [Int32.toBitVec_or, nI_bv]
    simp
  have a : c' = c := funext fun p => by
    by_cases e : p = i
    · subst e; rw [e1, z]
    · exact e2 p e
  have b : c2 = c' := funext fun p => by
    by_cases e : p = j
    · subst e; rw [e3, z]
    · exact e4 p e
  rw [b, a]
  exact mI_no h hn
/-- the pairs of the scene before, if there is one -/
def mTb (sp ch pa : Nat → Int32) (nP M : Nat) (x l : Int32) (p q : Nat) : Prop := ∃ b, b < M ∧ x = nI b ∧ mTrn sp ch pa nP b l p q
theorem mCl_st {sp ch pa : Nat → Int32} {nP n M : Nat} {a x : Int32} {c : Nat → Int32} (hM : M ≤ 6) (hy : zIn a (nI n)) (hb : (x = -1 ∧ mBn a n) ∨ ∃ b, b < M ∧ x = nI b ∧ mBf a n b) (h : ∀ p, p < 7 → zMk (c p) (fun q => (mCl sp ch pa nP a n p q ∨ mTog nP (sp n) p q) ∨ mTb sp ch pa nP M x (sp n) p q ∨ mTb sp ch pa nP M x (sp n) q p)) : ∀ p, p < 7 → zMk (c p) (mCl sp ch pa nP a (n + 1) p) := by
  rcases hb with ⟨rfl, hb⟩ | ⟨b, hb1, rfl, hb⟩
  · have no : ∀ p q, ¬ mTb sp ch pa nP M (-1) (sp n) p q := fun p q ⟨b, h1, h2, _⟩ => absurd h2.symm (znm1 (by omega))
    exact mCl_first hy hb fun p hp => (h p hp).cg fun q => ⟨fun z => z.elim id fun y => y.elim (fun y => absurd y (no p q)) (fun y => absurd y (no q p)), Or.inl⟩
  · have eq : ∀ p q, mTb sp ch pa nP M (nI b) (sp n) p q ↔ mTrn sp ch pa nP b (sp n) p q := fun p q => ⟨fun ⟨b', h1, h2, h3⟩ => by
      have : b = b' := (nI_eq (by omega) (by omega)).mp h2
      rw [this]; exact h3, fun h => ⟨b, hb1, rfl, h⟩⟩
    exact mCl_more hy hb fun p hp => (h p hp).cg fun q => or_congr Iff.rfl (or_congr (eq p q) (eq q p))
theorem rJ.pl {F G : Nat → Nat → Int32} (h : rJ F G) : zPl G = zPl F := by
  funext i p
  unfold zPl
  rw [h (21 + i) 3 (rsc_f (by omega)), h (21 + i) 0 (rsc_f (by omega)), h (14 + p) 0 (rsc_f (by omega))]
theorem zRw.symm0 {F G : Nat → Nat → Int32} (h : zRw 0 F G) : zRw 0 G F := ⟨fun k hk => (h.1 k hk).symm, fun o ho => absurd ho (Nat.not_lt_zero o)⟩
theorem rDu_lt {N : Nat → Nat} {F : Nat → Nat → Int32} {a : Int32} {p : Nat} (hI : rI N F) (h : mDu (rSp F) a (N 2) p) : p < N 0 := by
  obtain ⟨h7, s, hs, -, hz⟩ := h
  obtain ⟨m, hm, em⟩ := hI.sp s hs
  have h128 : m < 128 := Nat.lt_of_lt_of_le hm (zp2 (n := 7) hI.bnd.1)
  rw [show rSp F s = nI m from em] at hz
  have hb := (zIn_nat (by omega) (by omega)).mp hz
  by_cases hq : p < N 0
  · exact hq
  · rw [Nat.testBit_lt_two_pow (Nat.lt_of_lt_of_le hm (Nat.pow_le_pow_right (by decide) (Nat.not_lt.mp hq)))] at hb
    cases hb
/-- with so many players a set of scenes can be cast: as the reference tells it -/
def zFR (N : Nat → Nat) (F : Nat → Nat → Int32) (a : Int32) (k : Nat) : Prop := mFit (fun i p => i < N 1 ∧ zPl F i p) (mCl (rSp F) (rCh F) (rPa F) (N 0) a (N 2)) (mDu (rSp F) a (N 2)) k
theorem zFR_mv {N : Nat → Nat} {F G : Nat → Nat → Int32} {a : Int32} (h : rJ F G) : zFR N G a = zFR N F a := by
  funext k
  unfold zFR
  rw [h.pl, show rSp G = rSp F from funext fun s => h (26 + s) 0 (rsc_f (by omega)), show rCh G = rCh F from funext fun p => h (14 + p) 2 (rsc_f (by omega)), show rPa G = rPa F from funext fun s => h (26 + s) 1 (rsc_f (by omega))]
theorem rJ.fs {F G : Nat → Nat → Int32} {k j : Nat} {x : Int32} (h : rJ F G) : rJ (fset F k j x) (fset G k j x) := fun a b hab => by
  by_cases h1 : a = k ∧ b = j
  · obtain ⟨rfl, rfl⟩ := h1
    rw [fset_eq, fset_eq]
  · rw [fset_ne (by omega), fset_ne (by omega)]
    exact h a b hab
def s13 (k _j : Nat) : Bool := k == 13
theorem s13_f {k j : Nat} (h : k ≠ 13) : s13 k j = false := by simpa [s13] using h
theorem s13R : ∀ k j, s13 k j = true → rsc k j = true := fun k j h => by
  have : k = 13 := by simpa [s13] using h
  exact rsc_t (by omega)
theorem cRw.rJ {S : Nat → Nat → Bool} {F G : Nat → Nat → Int32} (h : cRw S F G) (hS : ∀ k j, S k j = true → rsc k j = true) : rJ F G := fun k j hk => h k j (by
  cases e : S k j with
  | false => rfl
  | true => rw [hS k j e] at hk; cases hk)
