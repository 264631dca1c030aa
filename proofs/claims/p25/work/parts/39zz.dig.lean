theorem zsh0 : ∀ n, n < 8 → nI n >>> (nI 0 &&& 31) = nI n := by decide +kernel
set_option maxRecDepth 100000 in
set_option maxHeartbeats 4000000 in
theorem k_J0_length_x {g : zG} {t : Nat × Nat} {f : Nat → Option va_E} {Sx W n : Nat} {h1 h2 : Int32} (hS : f Sx = some (.inr (0, [.ref W, .int (nI (0)), .int h1, .int h2]))) {fw : Nat → Int32} (hW : f W = some (.inl (g.2.2.2 2, n, .inl (fw)))) (hn : n ≤ 7) : Ct g 11 yJ0_length_8abf5 cJ0_length_8abf5 1 (some FieldType.int) 0 (0) [.ref (Sx)] (t, f) (fun v σ' => v = some (.int (nI n)) ∧ σ' = (t, f)) zNo := by
  refine Ct.ofN (lv := [(0, .ref (Sx))]) (by decide) (Nat.le_of_ble_eq_true rfl) rfl ?_
  intro κ X E B9 hnm
  have X : zX g κ RJ0 cJ0_length_8abf5 1 := X
  refine V.fr (fun hfr => ?_)
  have lt_Sx : Sx < t.1 := hfr _ _ hS
  have lt_W : W < t.1 := hfr _ _ hW
  refine V_aload_n X dJ0_length_8abf5_0 0 rfl ?_
  refine V_getf2 X fl_J0_9 hS rfl dJ0_length_8abf5_1 ?_
  show V g κ 1 0 (0) (t, f) 4 [(0, .ref (Sx))] [.ref (W)]
  refine V_alen (v := nI (n)) X 2 hW (by decide) rfl dJ0_length_8abf5_4 ?_
  refine V_aload_n X dJ0_length_8abf5_5 0 rfl ?_
  refine V_callV (rest := [.int (nI (n))]) X E.room ml_J0_335 in_J0_coder_7d493 (ci := 0) rfl se_J0_coder_7d493 (fs := [.ref (W), .int (nI (0)), .int (h1), .int (h2)]) hS (by decide) (by decide) (k_J0_coder_7d493 hS) rfl rfl (Nat.le_of_ble_eq_true rfl) ⟨by omega, by omega⟩ dJ0_length_8abf5_6 (fun _ _ h => False.elim h) (fun v1 σ' hp2 => ?_)
  obtain ⟨hp2, rfl⟩ := hp2
  cases (hp2 : _ = some (Value.int (nI (0))))
  show V g κ 1 0 (0) (t, f) 9 [(0, .ref (Sx))] [.int (nI (0)), .int (nI (n))]
  refine V_ishr X dJ0_length_8abf5_9 (V.topi (fun w3 ew3 => ?_))
  exact V_iret X E (by omega) (by omega) ⟨congrArg (fun z => some (Value.int z)) (ew3.trans (zsh0 n (by omega))), rfl⟩ dJ0_length_8abf5_10
set_option maxRecDepth 100000 in
set_option maxHeartbeats 4000000 in
theorem k_J0_length_litx {g : zG} {t : Nat × Nat} {f : Nat → Option va_E} {a : Nat} (ha : a = g.2.2.2 6 ∨ a = g.2.2.2 7) : Ct g 11 yJ0_length_8abf5 cJ0_length_8abf5 1 (some FieldType.int) 0 (0) [.ref (a)] (t, f) (fun v σ' => v = some (.int (nI 4)) ∧ σ' = (t, f)) zNo := by
  refine Ct.ofN (lv := [(0, .ref (a))]) (by decide) (Nat.le_of_ble_eq_true rfl) rfl ?_
  intro κ X E B9 hnm
  have X : zX g κ RJ0 cJ0_length_8abf5 1 := X
  obtain ⟨k9, v9, hS9, e9⟩ := zLitF X ha
  have h9 := (hS9.1 0 (by decide)).2.2.1
  have hr9 := (hS9.1 0 (by decide)).1
  have ht9 := (hS9.1 0 (by decide)).2.2.2
  rw [e9] at h9 hr9
  refine V_aload_n X dJ0_length_8abf5_0 0 rfl ?_
  refine V_getfL X h9 fk_J0_9 (fun _ h => h) dJ0_length_8abf5_1 ?_
  refine V_alenL X ht9 dJ0_length_8abf5_4 (V.topi (fun y9 ey9 => ?_))
  refine V_aload_n X dJ0_length_8abf5_5 0 rfl ?_
  refine V_callVL (rest := [.int y9]) X E.room ml_J0_335 in_J0_coder_7d493 (C := RJ0) se_J0_coder_7d493 hr9 (by decide) (by decide) (k_J0_coder_lit ha) rfl rfl (Nat.le_of_ble_eq_true rfl) ⟨by omega, by omega⟩ dJ0_length_8abf5_6 (fun _ _ h => False.elim h) (fun v1 σ' hp2 => ?_)
  obtain ⟨hp2, rfl⟩ := hp2
  cases (hp2 : _ = some (Value.int (nI (0))))
  show V g κ 1 0 (0) (t, f) 9 [(0, .ref (a))] [.int (nI (0)), .int y9]
  refine V_ishr X dJ0_length_8abf5_9 (V.topi (fun w3 ew3 => ?_))
  exact V_iret X E (by omega) (by omega) ⟨congrArg (fun z => some (Value.int z)) (by rw [ew3, ey9]; decide +kernel), rfl⟩ dJ0_length_8abf5_10
/-! ===== the checksum: value by value ===== -/
/-- one value more, of which R tells -/
def dS (R : Int32 → Prop) (d d' : Int64) : Prop := ∃ x : Int32, R x ∧ d' = d * 31 + x.toInt64
def dN (P : Nat → Int64 → Int64 → Prop) : Nat → Int64 → Int64 → Prop
  | 0, d, d' => d' = d
  | n + 1, d, d' => ∃ e, dN P n d e ∧ P n e d'
theorem dS_un {R Q : Int32 → Prop} {d e e' : Int64} (h : ∀ x y, R x → Q y → x = y) (k : dS R d e) (k' : dS Q d e') : e = e' := by
  obtain ⟨x, a, rfl⟩ := k
  obtain ⟨y, b, rfl⟩ := k'
  rw [h x y a b]
theorem dN_un {P Q : Nat → Int64 → Int64 → Prop} {d : Int64} : ∀ (n : Nat), (∀ k, k < n → ∀ c x y, P k c x → Q k c y → x = y) → ∀ {e e' : Int64}, dN P n d e → dN Q n d e' → e = e' := by
  intro n
  induction n with
  | zero =>
    intro _ e e' h h'
    exact h.trans h'.symm
  | succ n ih =>
    intro hu e e' h h'
    obtain ⟨c, h1, h2⟩ := h
    obtain ⟨c', h1', h2'⟩ := h'
    have := ih (fun k hk => hu k (by omega)) h1 h1'
    subst this
    exact hu n (Nat.lt_succ_self n) c e e' h2 h2'
/-- without a player; how many signs the cast has; whether all is sound: of the class -/
def cWo (nP nS nA : Nat) (F : Nat → Nat → Int32) (p : Nat) (x : Int32) : Prop := mFew (zFC nP nS nA (fset F 7 5 (F 7 5 ||| nI (2 ^ p))) (nI (2 ^ nS - 1))) x
def cLn (nP nS nA : Nat) (F : Nat → Nat → Int32) (x : Int32) : Prop := ∃ b h, cBs nP nS nA F b h ∧ ((b = -1 ∧ x = nI 4) ∨ (¬ b = -1 ∧ x = nI nP))
def cSd (nP nS nA : Nat) (F : Nat → Nat → Int32) : Prop := mSd (fun s => mOk (mPm F nA) nP (F 5 s)) nS nA (F 11) (F 0 5 - F 0 6) (mEs (mPm F nA) (mCl (F 5) (F 4) (F 6) nP (nI (2 ^ nS - 1)) nS) (cDu nS F) (fun u => zFC nP nS nA F (zLf nS u) 5) nS)
section CDIG
variable {F G : Nat → Nat → Int32} {nP nS nA nC nT : Nat}
theorem cRow_W (h : cRw scM F G) (k : Nat) (hk : ∀ j, scM k j = false) : G k = F k := funext fun j => h k j (hk j)
theorem cDu_W (h : cRw scM F G) : cDu nS G = cDu nS F := by
  show mDu (G 5) _ _ = mDu (F 5) _ _
  rw [cRow_W h 5 (fun j => scM_f (by omega))]
theorem cBs_W (h : cRw scM F G) : cBs nP nS nA G = cBs nP nS nA F := by
  funext b k
  show mBst (mPm G nA) (mCl (G 5) (G 4) (G 6) nP _ nS) (mDu (G 5) _ nS) b k = mBst (mPm F nA) (mCl (F 5) (F 4) (F 6) nP _ nS) (mDu (F 5) _ nS) b k
  rw [mPm_W h, cRow_W h 5 (fun j => scM_f (by omega)), cRow_W h 4 (fun j => scM_f (by omega)), cRow_W h 6 (fun j => scM_f (by omega))]
theorem cHo_W (h : cRw scM F G) : cHo nP nS nA nC nT G = cHo nP nS nA nC nT F := by
  funext w x
  unfold cHo
  rw [cBs_W h]
  simp only [zFC_W h, h 7 5 rfl, h 18 4 rfl, h 0 5 rfl, h 0 6 rfl, h 0 7 rfl, h 0 8 rfl, cRow_W h 11 (fun j => scM_f (by omega))]
theorem cPt_W (h : cRw scM F G) : cPt nP nS nA G = cPt nP nS nA F := by
  funext p w x
  unfold cPt
  rw [cBs_W h, cDu_W h]
  simp only [mPm_W h, cRow_W h 2 (fun j => scM_f (by omega)), cRow_W h 3 (fun j => scM_f (by omega)), cRow_W h 4 (fun j => scM_f (by omega)), cRow_W h 5 (fun j => scM_f (by omega)), cRow_W h 6 (fun j => scM_f (by omega))]
theorem cPl_W (h : cRw scM F G) : cPl nP nS nA G = cPl nP nS nA F := by
  funext p w x
  unfold cPl
  rw [cBs_W h, cDu_W h]
  simp only [mPm_W h, h 7 5 rfl, cRow_W h 8 (fun j => scM_f (by omega)), cRow_W h 9 (fun j => scM_f (by omega)), cRow_W h 10 (fun j => scM_f (by omega)), cRow_W h 11 (fun j => scM_f (by omega))]
theorem cSc_W (h : cRw scM F G) : cSc nP nS nA nC G = cSc nP nS nA nC F := by
  funext p w x
  unfold cSc
  rw [cBs_W h]
  simp only [mPm_W h, cWw_W h, cRow_W h 5 (fun j => scM_f (by omega)), cRow_W h 6 (fun j => scM_f (by omega))]
theorem cCt_W (h : cRw scM F G) : cCt G = cCt F := by
  funext p w x
  unfold cCt
  simp only [h 18 4 rfl, cRow_W h 19 (fun j => scM_f (by omega)), cRow_W h 20 (fun j => scM_f (by omega)), cRow_W h 21 (fun j => scM_f (by omega))]
theorem cTn_W (h : cRw scM F G) : cTn G = cTn F := by
  funext p w x
  unfold cTn
  simp only [cRow_W h 24 (fun j => scM_f (by omega)), cRow_W h 25 (fun j => scM_f (by omega)), cRow_W h 26 (fun j => scM_f (by omega))]
theorem cSh_W (h : cRw scM F G) : cSh nP nS nA G = cSh nP nS nA F := by
  funext am p x
  unfold cSh
  rw [cBs_W h, cDu_W h]
  simp only [cRow_W h 10 (fun j => scM_f (by omega))]
theorem cWo_W (h : cRw scM F G) : cWo nP nS nA G = cWo nP nS nA F := by
  funext p x
  unfold cWo
  have hw : cRw scM (fset F 7 5 (F 7 5 ||| nI (2 ^ p))) (fset G 7 5 (F 7 5 ||| nI (2 ^ p))) := fun k j q => by
    by_cases e : k = 7 ∧ j = 5
    · obtain ⟨rfl, rfl⟩ := e
      rw [fset_eq, fset_eq]
    · rw [fset_ne (by omega), fset_ne (by omega)]
      exact h k j q
  rw [h 7 5 rfl, zFC_W hw]
theorem cSd_W (h : cRw scM F G) : cSd nP nS nA G = cSd nP nS nA F := by
  unfold cSd
  rw [cDu_W h]
  simp only [mPm_W h, zFC_W h, h 0 5 rfl, h 0 6 rfl, cRow_W h 4 (fun j => scM_f (by omega)), cRow_W h 5 (fun j => scM_f (by omega)), cRow_W h 6 (fun j => scM_f (by omega)), cRow_W h 11 (fun j => scM_f (by omega))]
end CDIG
def cD3 (nP nS nA : Nat) (F : Nat → Nat → Int32) (p : Nat) (d d' : Int64) : Prop := ∃ e e', dN (fun w => dS (cPl nP nS nA F p w)) 6 d e ∧ dS (cWo nP nS nA F p) e e' ∧ dS (cSh nP nS nA F (nI 100) p) e' d'
def cD6 (F : Nat → Nat → Int32) (p : Nat) (d d' : Int64) : Prop := ∃ e, dS (cTn F p 2) d e ∧ dS (cTn F p 3) e d'
def cDg (nP nS nA nC nT : Nat) (F : Nat → Nat → Int32) (xs ys ks : Nat → Nat) (d : Int64) : Prop := ∃ d1 d2 d3 d4 d5 d6 d7 d8 : Int64, dN (fun w => dS (cHo nP nS nA nC nT F w)) 14 8117 d1 ∧ dN (fun p => dN (fun w => dS (cPt nP nS nA F p w)) 7) nP d1 d2 ∧ dN (cD3 nP nS nA F) nA d2 d3 ∧ dN (fun p => dN (fun w => dS (cSc nP nS nA nC F p w)) 6) nS d3 d4 ∧ dN (fun p => dS (cCt F p 3)) nC d4 d5 ∧ dN (cD6 F) nT d5 d6 ∧ dN (fun w => dS (tAns xs ys ks nT 150 w)) 3 d6 d7 ∧ dS (cLn nP nS nA F) d7 d8 ∧ dS (fun x => mTl x (cSd nP nS nA F)) d8 d
/-- and of the reference -/
def rWo (N : Nat → Nat) (F : Nat → Nat → Int32) (p : Nat) (x : Int32) : Prop := mFew (zFR N (fset F (21 + p) 3 (nI 1)) (nI (2 ^ N 2 - 1))) x
def rLn (N : Nat → Nat) (F : Nat → Nat → Int32) (x : Int32) : Prop := ∃ b h, rBs N F b h ∧ ((b = -1 ∧ x = nI 4) ∨ (¬ b = -1 ∧ x = nI (N 0)))
theorem rWo_M {N : Nat → Nat} {F F2 : Nat → Nat → Int32} {p : Nat} {x : Int32} (hM : rM N F F2) (hI : rI N F) (hq : rWo N F2 p x) : rWo N F p x := by
  have hI' : rI N (fset F (21 + p) 3 (nI 1)) := hI.sk (i := p) rfl (Or.inr (by decide))
  unfold rWo at hq ⊢
  rw [zFR_o (F := fset F (21 + p) 3 (nI 1)) (fun k j q1 q2 => by
    by_cases e : k = 21 + p ∧ j = 3
    · obtain ⟨rfl, rfl⟩ := e
      rw [fset_eq, fset_eq]
    · rw [fset_ne (by omega), fset_ne (by omega)]
      exact hM.1 k j (Or.inl ⟨q1, q2⟩)) hI'] at hq
  exact hq
def rD3 (N : Nat → Nat) (F : Nat → Nat → Int32) (p : Nat) (d d' : Int64) : Prop := ∃ e e', dN (fun w => dS (rPl N F p w)) 6 d e ∧ dS (rWo N F p) e e' ∧ dS (rSh N F (nI 100) p) e' d'
def rD6 (F : Nat → Nat → Int32) (p : Nat) (d d' : Int64) : Prop := ∃ e, dS (rTn F p 2) d e ∧ dS (rTn F p 3) e d'
def rDg (N : Nat → Nat) (F : Nat → Nat → Int32) (xs ys ks : Nat → Nat) (d : Int64) : Prop := ∃ d1 d2 d3 d4 d5 d6 d7 d8 : Int64, dN (fun w => dS (rHo N F w)) 14 8117 d1 ∧ dN (fun p => dN (fun w => dS (rPt N F p w)) 7) (N 0) d1 d2 ∧ dN (rD3 N F) (N 1) d2 d3 ∧ dN (fun p => dN (fun w => dS (rSc N F p w)) 6) (N 2) d3 d4 ∧ dN (fun p => dS (rCt F p 3)) (N 3) d4 d5 ∧ dN (rD6 F) (N 4) d5 d6 ∧ dN (fun w => dS (tAns xs ys ks (N 4) 150 w)) 3 d6 d7 ∧ dS (rLn N F) d7 d8 ∧ dS (fun x => mTl x (rSd N F)) d8 d
theorem mTl_z {x : Int32} {P : Prop} (h : mTl x P) (e : x = 0) : mTl (nI 0) P := by
  rw [nI_0, ← e]
  exact h
theorem mTl_nz {x : Int32} {P : Prop} (h : mTl x P) (e : ¬ x = 0) : mTl (nI 1) P := h.elim (fun a => Or.inl ⟨rfl, a.2⟩) (fun a => absurd (a.1.trans nI_0) e)
