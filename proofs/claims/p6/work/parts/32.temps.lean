/-! ===== the reference's temporaries: rows of finds, iterators, texts ===== -/
section TMP
variable {g : zG} {ad N : Nat → Nat} {S : Int64} {G : Nat → Nat → Int32} {σ0 : Nat → Option va_E}
def zA1 (g : zG) (σ0 : Nat → Option va_E) (A : Nat) (fo : Nat → Int32) : Nat → Option va_E := zup σ0 A (.inl (g.2.2.2 0, 5, .inl fo))
def zTt (g : zG) (σ0 : Nat → Option va_E) (A Bt : Nat) (fo ft : Nat → Int32) : Nat → Option va_E := zup (zA1 g σ0 A fo) Bt (.inl (g.2.2.2 1, 5, .inl ft))
def zTd (g : zG) (ad N : Nat → Nat) (A Bt : Nat) : Prop := (∀ k, rLive N k = true → ad k ≠ A) ∧ (∀ k, rLive N k = true → ad k ≠ Bt) ∧ A ≠ Bt ∧ g.2.1.size ≤ A ∧ g.2.1.size ≤ Bt
def zVal (N : Nat → Nat) (fo : Nat → Int32) : Prop := ∀ q, q < 5 → fo q = -1 ∨ ∃ p, p < N 0 ∧ fo q = nI p
theorem zVal.set {N : Nat → Nat} {fo : Nat → Int32} (h : zVal N fo) {i p : Nat} (hp : p < N 0) : zVal N (upd fo i (nI p)) := fun q hq => by
  by_cases e : q = i
  · subst e; rw [pk_us]; exact Or.inr ⟨p, hp, rfl⟩
  · rw [pk_un e]; exact h q hq
def zb0 (x : Int32) : Nat := if x = 0 then 1 else 0
def zun (ft : Nat → Int32) : Nat := zb0 (ft 0) + zb0 (ft 1) + zb0 (ft 2) + zb0 (ft 3) + zb0 (ft 4)
theorem zb0_01 (x : Int32) : zb0 x ≤ 1 := by unfold zb0; split <;> omega
theorem zun_5 (ft : Nat → Int32) : zun ft ≤ 5 := by
  unfold zun
  have := zb0_01 (ft 0); have := zb0_01 (ft 1); have := zb0_01 (ft 2); have := zb0_01 (ft 3); have := zb0_01 (ft 4)
  omega
theorem zun_set {ft : Nat → Int32} {i : Nat} {y : Int32} (hi : i < 5) (h : ft i = 0) (hy : ¬ y = 0) : zun (upd ft i y) + 1 ≤ zun ft := by
  have h1 : zb0 y = 0 := if_neg hy
  have h2 : zb0 (ft i) = 1 := if_pos h
  unfold zun
  match i, hi with
  | 0, _ => rw [pk_us, pk_un (by decide), pk_un (by decide), pk_un (by decide), pk_un (by decide), h1, h2]; omega
  | 1, _ => rw [pk_us, pk_un (by decide), pk_un (by decide), pk_un (by decide), pk_un (by decide), h1, h2]; omega
  | 2, _ => rw [pk_us, pk_un (by decide), pk_un (by decide), pk_un (by decide), pk_un (by decide), h1, h2]; omega
  | 3, _ => rw [pk_us, pk_un (by decide), pk_un (by decide), pk_un (by decide), pk_un (by decide), h1, h2]; omega
  | 4, _ => rw [pk_us, pk_un (by decide), pk_un (by decide), pk_un (by decide), pk_un (by decide), h1, h2]; omega
  | i + 5, h => exact absurd h (by omega)
def qFind (g : zG) (t : Nat × Nat) (ad N : Nat → Nat) (S : Int64) (F : Nat → Nat → Int32) (σ0 : Nat → Option va_E) (A Bt : Nat) (ft : Nat → Int32) : Option Value → zS → Prop := fun v σ' => pB v ∧ ∃ fo' ft' : Nat → Int32, σ' = (t, rO g ad N S F (zTt g σ0 A Bt fo' ft')) ∧ zVal N fo' ∧ zun ft' ≤ zun ft
theorem zTt_A {A Bt : Nat} {fo ft : Nat → Int32} (h : A ≠ Bt) : zTt g σ0 A Bt fo ft A = some (.inl (g.2.2.2 0, 5, .inl fo)) := (zup_ne h).trans zup_eq
theorem zTt_B {A Bt : Nat} {fo ft : Nat → Int32} : zTt g σ0 A Bt fo ft Bt = some (.inl (g.2.2.2 1, 5, .inl ft)) := zup_eq
theorem rO_sub {σ1 σ2 : Nat → Option va_E} (h : ∀ a e, σ1 a = some e → σ2 a = some e) : ∀ a e, rO g ad N S G σ1 a = some e → rO g ad N S G σ2 a = some e := fun a e => by
  unfold rO
  split
  · exact id
  · exact h a e
end TMP
section TROWS
variable {g : zG} {κ : zC} {own : String} {cc : ByteArray} {nL k n : Nat} {t : Nat × Nat} {ad N : Nat → Nat} {S : Int64} {G : Nat → Nat → Int32} {σ0 : Nat → Option va_E} {A Bt : Nat} {fo ft : Nat → Int32} {pc : Nat} {lv : List (Nat × Value)} {rest : List Value}
theorem T_iald (X : zX g κ own cc nL) (hT : zTd g ad N A Bt) {i : Int32} (j : Nat) (hi : i = nI j) (hj : j < 5) (d : decode cc pc = .ok (.iaload, 1)) (kk : V g κ nL k n (t, rO g ad N S G (zTt g σ0 A Bt fo ft)) (pc + 1) lv (.int (fo j) :: rest)) : V g κ nL k n (t, rO g ad N S G (zTt g σ0 A Bt fo ft)) pc lv (.int i :: .ref A :: rest) := by
  subst hi
  refine V_iald X (show (t, rO g ad N S G (zTt g σ0 A Bt fo ft)).2 A = _ from (rO_out hT.1).trans (zTt_A hT.2.2.1)) (vp_in_nI hj (by decide)) d ?_
  rw [nI_clamp (by omega)]
  exact kk
theorem T_iast (X : zX g κ own cc nL) (hK : rK g ad N) (hT : zTd g ad N A Bt) {i x : Int32} (j : Nat) (hi : i = nI j) (hj : j < 5) (d : decode cc pc = .ok (.iastore, 1)) (kk : V g κ nL k n (t, rO g ad N S G (zTt g σ0 A Bt (upd fo j x) ft)) (pc + 1) lv rest) : V g κ nL k n (t, rO g ad N S G (zTt g σ0 A Bt fo ft)) pc lv (.int x :: .int i :: .ref A :: rest) := by
  subst hi
  refine V_iast X (show (t, rO g ad N S G (zTt g σ0 A Bt fo ft)).2 A = _ from (rO_out hT.1).trans (zTt_A hT.2.2.1)) hT.2.2.2.1 (vp_in_nI hj (by decide)) d ?_
  rw [nI_clamp (by omega)]
  show V g κ nL k n (t, zup (rO g ad N S G (zTt g σ0 A Bt fo ft)) A (.inl (g.2.2.2 0, 5, .inl (upd fo j x)))) (pc + 1) lv rest
  rw [rO_zup hK hT.1, show zup (zTt g σ0 A Bt fo ft) A (.inl (g.2.2.2 0, 5, .inl (upd fo j x))) = zTt g σ0 A Bt (upd fo j x) ft from (zup_comm hT.2.2.1).trans (congrArg (fun z => zup z Bt _) zup_zup)]
  exact kk
theorem T_zald (X : zX g κ own cc nL) (hT : zTd g ad N A Bt) {i : Int32} (j : Nat) (hi : i = nI j) (hj : j < 5) (d : decode cc pc = .ok (.baload, 1)) (kk : V g κ nL k n (t, rO g ad N S G (zTt g σ0 A Bt fo ft)) (pc + 1) lv (.int (ft j) :: rest)) : V g κ nL k n (t, rO g ad N S G (zTt g σ0 A Bt fo ft)) pc lv (.int i :: .ref Bt :: rest) := by
  subst hi
  refine V_zald X (show (t, rO g ad N S G (zTt g σ0 A Bt fo ft)).2 Bt = _ from (rO_out hT.2.1).trans zTt_B) (vp_in_nI hj (by decide)) d ?_
  rw [nI_clamp (by omega)]
  exact kk
theorem T_zast (X : zX g κ own cc nL) (hK : rK g ad N) (hT : zTd g ad N A Bt) {i x : Int32} (j : Nat) (hi : i = nI j) (hj : j < 5) (d : decode cc pc = .ok (.bastore, 1)) (kk : V g κ nL k n (t, rO g ad N S G (zTt g σ0 A Bt fo (upd ft j (vp_nar .boolean x)))) (pc + 1) lv rest) : V g κ nL k n (t, rO g ad N S G (zTt g σ0 A Bt fo ft)) pc lv (.int x :: .int i :: .ref Bt :: rest) := by
  subst hi
  refine V_zast X (show (t, rO g ad N S G (zTt g σ0 A Bt fo ft)).2 Bt = _ from (rO_out hT.2.1).trans zTt_B) hT.2.2.2.2 (vp_in_nI hj (by decide)) d ?_
  rw [nI_clamp (by omega)]
  show V g κ nL k n (t, zup (rO g ad N S G (zTt g σ0 A Bt fo ft)) Bt (.inl (g.2.2.2 1, 5, .inl (upd ft j (vp_nar .boolean x))))) (pc + 1) lv rest
  rw [rO_zup hK hT.2.1, show zup (zTt g σ0 A Bt fo ft) Bt (.inl (g.2.2.2 1, 5, .inl (upd ft j (vp_nar .boolean x)))) = zTt g σ0 A Bt fo (upd ft j (vp_nar .boolean x)) from zup_zup]
  exact kk
theorem A_iast (X : zX g κ own cc nL) (hK : rK g ad N) (hA : ∀ k, rLive N k = true → ad k ≠ A) (gA : g.2.1.size ≤ A) {i x : Int32} (j : Nat) (hi : i = nI j) (hj : j < 5) (d : decode cc pc = .ok (.iastore, 1)) (kk : V g κ nL k n (t, rO g ad N S G (zA1 g σ0 A (upd fo j x))) (pc + 1) lv rest) : V g κ nL k n (t, rO g ad N S G (zA1 g σ0 A fo)) pc lv (.int x :: .int i :: .ref A :: rest) := by
  subst hi
  refine V_iast X (show (t, rO g ad N S G (zA1 g σ0 A fo)).2 A = _ from (rO_out hA).trans zup_eq) gA (vp_in_nI hj (by decide)) d ?_
  rw [nI_clamp (by omega)]
  show V g κ nL k n (t, zup (rO g ad N S G (zA1 g σ0 A fo)) A (.inl (g.2.2.2 0, 5, .inl (upd fo j x)))) (pc + 1) lv rest
  rw [rO_zup hK hA, show zup (zA1 g σ0 A fo) A (.inl (g.2.2.2 0, 5, .inl (upd fo j x))) = zA1 g σ0 A (upd fo j x) from zup_zup]
  exact kk
end TROWS
/-! iterators -/
section ITS
variable {g : zG} {t : Nat × Nat} {ad N : Nat → Nat} {S : Int64} {G : Nat → Nat → Int32} {σ0 : Nat → Option va_E}
def zIt (σ0 : Nat → Option va_E) (It c : Nat) (lr mod : Int32) (L : Nat) : Nat → Option va_E := zup σ0 It (.inr (2, [.int (nI c), .int lr, .int mod, .ref L]))
theorem r_iter (hK : rK g ad N) (i : Nat) (hi : i < 5) (hg : g.2.1.size ≤ t.1) (hA : ∀ k, rLive N k = true → ad k ≠ t.1) : Ct g 11 yJx4a65c_iterator_32c93 cJx4a65c_iterator_32c93 1 (some (.object "java/util/Iterator")) 1 4 [.ref (ad (1 + i))] (t, rO g ad N S G σ0) (fun v σ' => v = some (.ref t.1) ∧ σ' = ((t.1 + 1, t.2 + 4), rO g ad N S G (zIt σ0 t.1 0 (-1) (G (1 + i) 0) (ad (1 + i))))) zNo := by
  have h := k_Jx4a65c_iterator_32c93 (t := t) (rO_list (S := S) (G := G) (σ0 := σ0) hK hi) hg
  rw [rO_zup hK hA] at h
  exact h
theorem r_hasNext (hK : rK g ad N) (i : Nat) (hi : i < 5) {It c : Nat} {lr : Int32} (hA : ∀ k, rLive N k = true → ad k ≠ It) (hc : c ≤ N i) (hN : N i ≤ 10) : Ct g 10 yJx35411_hasNext_aae02 cJx35411_hasNext_aae02 1 (some .boolean) 0 0 [.ref It] (t, rO g ad N S G (zIt σ0 It c lr (G (1 + i) 0) (ad (1 + i)))) (fun v σ' => ((v = some (.int (nI 1)) ∧ c < N i) ∨ (v = some (.int (nI 0)) ∧ c = N i)) ∧ σ' = (t, rO g ad N S G (zIt σ0 It c lr (G (1 + i) 0) (ad (1 + i))))) zNo :=
  k_Jx35411_hasNext_aae02 (rO_list hK hi) ((rO_out hA).trans zup_eq) hc (by omega)
theorem r_next (hK : rK g ad N) (i : Nat) (hi : i < 5) {It c : Nat} {lr : Int32} (hA : ∀ k, rLive N k = true → ad k ≠ It) (gI : g.2.1.size ≤ It) (hc : c < N i) (hN : N i ≤ 10) : Ct g 11 yJx35411_next_0502b cJx35411_next_0502b 3 (some (.object "java/lang/Object")) 0 0 [.ref It] (t, rO g ad N S G (zIt σ0 It c lr (G (1 + i) 0) (ad (1 + i)))) (fun v σ' => v = some (.ref (ad (rB i + c))) ∧ σ' = (t, rO g ad N S G (zIt σ0 It (c + 1) (nI c) (G (1 + i) 0) (ad (1 + i))))) zNo := by
  have h1 : rDat ad N i = ad (6 + i) := if_neg (by omega)
  have h2 := rO_list (S := S) (G := G) (σ0 := zIt σ0 It c lr (G (1 + i) 0) (ad (1 + i))) hK hi
  rw [h1] at h2
  have hl : rLive N (6 + i) = true := by
    match i, hi with
    | 0, _ => exact rlv (by omega)
    | 1, _ => exact rlv (by omega)
    | 2, _ => exact rlv (by omega)
    | 3, _ => exact rlv (by omega)
    | 4, _ => exact rlv (by omega)
    | i + 5, h => exact absurd h (by omega)
  have h := k_Jx35411_next_0502b (t := t) h2 (rO_data hK hi (by omega)) ((rO_out hA).trans (zup_eq (a := It))) gI (fun e => hA (1 + i) (rlv (by omega)) e.symm) (fun e => hA (6 + i) hl e.symm) hc hN (by decide) (show rEls ad (rB i) (N i) c = _ from if_pos hc)
  rw [rO_zup hK hA, show zup (zIt σ0 It c lr (G (1 + i) 0) (ad (1 + i))) It (.inr (2, [.int (nI (c + 1)), .int (nI c), .int (G (1 + i) 0), .ref (ad (1 + i))])) = zIt σ0 It (c + 1) (nI c) (G (1 + i) 0) (ad (1 + i)) from zup_zup] at h
  exact h
end ITS
theorem C_it {g : zG} {t : Nat × Nat} {ad N : Nat → Nat} {S : Int64} {G : Nat → Nat → Int32} {σ0 : Nat → Option va_E} {It c : Nat} {lr mod : Int32} {L : Nat} (hA : ∀ k, rLive N k = true → ad k ≠ It) : (t, rO g ad N S G (zIt σ0 It c lr mod L)).2 It = some (.inr (2, [.int (nI c), .int lr, .int mod, .ref L])) := (rO_out hA).trans zup_eq
theorem zFresh {g : zG} {t : Nat × Nat} {ad N : Nat → Nat} {S : Int64} {G : Nat → Nat → Int32} {σ0 : Nat → Option va_E} (hK : rK g ad N) (hfr : ∀ (a : Nat) (e : va_E), (t, rO g ad N S G σ0).2 a = some e → a < (t, rO g ad N S G σ0).1.1) : (∀ k, rLive N k = true → ad k ≠ t.1) ∧ (∀ e, σ0 t.1 = some e → False) ∧ g.2.1.size ≤ t.1 ∧ (∀ a e, σ0 a = some e → (∀ k, rLive N k = true → ad k ≠ a) → a < t.1) := by
  have hA : ∀ k, rLive N k = true → ad k ≠ t.1 := fun k hk e => by
    have : ad k < t.1 := hfr _ _ (rO_at hK hk)
    omega
  refine ⟨hA, fun e he => ?_, ?_, fun a e he ha => hfr a e ((rO_out ha).trans he)⟩
  · have : t.1 < t.1 := hfr t.1 e ((rO_out hA).trans he)
    omega
  · have h0 := hK.2 0 (rlv (by omega)) (by decide)
    have : ad 0 < t.1 := hfr _ _ (rO_at hK (rlv (by omega)))
    omega
