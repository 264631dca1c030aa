/-! ===== texts among the temporaries ===== -/
section SBT
variable {g : zG} {t : Nat × Nat} {ad N : Nat → Nat} {S : Int64} {G F : Nat → Nat → Int32} {σ0 : Nat → Option va_E} {X0 : Nat}
def zSB (g : zG) (σ0 : Nat → Option va_E) (Bx n : Nat) (ml : Int32) (fv : Nat → Int32) : Nat → Option va_E := zup (zup σ0 (Bx + 1) (.inl (g.2.2.2 2, 16, .inl fv))) Bx (.inr (1, [.ref (Bx + 1), .int (nI 0), .int ml, .int (nI n)]))
def zSx (g : zG) (σ0 : Nat → Option va_E) (Sx n : Nat) (fw : Nat → Int32) : Nat → Option va_E := zup (zup σ0 Sx (.inr (0, [.ref (Sx + 1), .int (nI 0), .int (nI 0), .int (nI 0)]))) (Sx + 1) (.inl (g.2.2.2 2, n, .inl fw))
theorem zSB_B {Bx n : Nat} {ml : Int32} {fv : Nat → Int32} : zSB g σ0 Bx n ml fv Bx = some (.inr (1, [.ref (Bx + 1), .int (nI 0), .int ml, .int (nI n)])) := zup_eq
theorem zSB_V {Bx n : Nat} {ml : Int32} {fv : Nat → Int32} : zSB g σ0 Bx n ml fv (Bx + 1) = some (.inl (g.2.2.2 2, 16, .inl fv)) := (zup_ne (by omega)).trans zup_eq
theorem zSB_set {Bx n n' : Nat} {ml : Int32} {fv fv' : Nat → Int32} : zup (zup (zSB g σ0 Bx n ml fv) Bx (.inr (1, [.ref (Bx + 1), .int (nI 0), .int ml, .int (nI n')]))) (Bx + 1) (.inl (g.2.2.2 2, 16, .inl fv')) = zSB g σ0 Bx n' ml fv' := by
  unfold zSB
  rw [zup_zup, zup_comm (by omega), zup_zup]
theorem zSB_sub {Bx n : Nat} {ml : Int32} {fv : Nat → Int32} (h1 : ∀ e, σ0 Bx = some e → False) (h2 : ∀ e, σ0 (Bx + 1) = some e → False) : ∀ a e, σ0 a = some e → zSB g σ0 Bx n ml fv a = some e := fun a e h =>
  zup_sub (fun e' he => h1 e' ((zup_ne (by omega)).symm.trans he)) a e (zup_sub h2 a e h)
theorem zup_mono {f f' : Nat → Option va_E} {b : Nat} {x : va_E} (h : ∀ a e, f a = some e → f' a = some e) : ∀ a e, zup f b x a = some e → zup f' b x a = some e := fun a e he => by
  by_cases hab : a = b
  · subst hab; rw [zup_eq] at he ⊢; exact he
  · rw [zup_ne hab] at he ⊢; exact h a e he
theorem zSx_S {Sx n : Nat} {fw : Nat → Int32} : zSx g σ0 Sx n fw Sx = some (.inr (0, [.ref (Sx + 1), .int (nI 0), .int (nI 0), .int (nI 0)])) := (zup_ne (by omega)).trans zup_eq
theorem zSx_W {Sx n : Nat} {fw : Nat → Int32} : zSx g σ0 Sx n fw (Sx + 1) = some (.inl (g.2.2.2 2, n, .inl fw)) := zup_eq
theorem zSx_sub {Sx n : Nat} {fw : Nat → Int32} (h1 : ∀ e, σ0 Sx = some e → False) (h2 : ∀ e, σ0 (Sx + 1) = some e → False) : ∀ a e, σ0 a = some e → zSx g σ0 Sx n fw a = some e := fun a e h =>
  zup_sub (fun e' he => h2 e' ((zup_ne (by omega)).symm.trans he)) a e (zup_sub h1 a e h)
/-- what is free over a world's place function -/
def rFree (ad N : Nat → Nat) (σ0 : Nat → Option va_E) (a : Nat) : Prop := (∀ k, rLive N k = true → ad k ≠ a) ∧ ∀ e, σ0 a = some e → False
def cFree (X0 : Nat) (σ0 : Nat → Option va_E) (a : Nat) : Prop := (a < X0 ∨ X0 + 61 ≤ a) ∧ ∀ e, σ0 a = some e → False
theorem rFresh {k : Nat} (hK : rK g ad N) (hfr : ∀ (a : Nat) (e : va_E), rO g ad N S G σ0 a = some e → a < t.1) (hk : t.1 ≤ k) : rFree ad N σ0 k := by
  have hA : ∀ q, rLive N q = true → ad q ≠ k := fun q hq e => by
    have := hfr _ _ (rO_at hK hq)
    omega
  refine ⟨hA, fun e he => ?_⟩
  have := hfr k e ((rO_out hA).trans he)
  omega
theorem cFresh {k : Nat} (hfr : ∀ (a : Nat) (e : va_E), cW g X0 F σ0 a = some e → a < t.1) (hk : t.1 ≤ k) : cFree X0 σ0 k := by
  have h60 : X0 + 60 < t.1 := hfr _ _ (cW_at (by decide))
  have hA : k < X0 ∨ X0 + 61 ≤ k := by omega
  refine ⟨hA, fun e he => ?_⟩
  have := hfr k e ((cW_out hA).trans he)
  omega
theorem cW_sub {σ1 σ2 : Nat → Option va_E} (h : ∀ a e, σ1 a = some e → σ2 a = some e) : ∀ a e, cW g X0 F σ1 a = some e → cW g X0 F σ2 a = some e := fun a e => by
  unfold cW
  split
  · exact id
  · exact h a e
theorem r_append {Bx n c : Nat} {ml : Int32} {fv : Nat → Int32} (hK : rK g ad N) (h1 : ∀ k, rLive N k = true → ad k ≠ Bx) (h2 : ∀ k, rLive N k = true → ad k ≠ Bx + 1) (hg : g.2.1.size ≤ Bx) (hc : c ≤ 255) (hn : n < 16) : Ct g 12 yJ4_append_cf468 cJ4_append_cf468 2 (some (.object "java/lang/StringBuilder")) 0 0 [.ref Bx, .int (nI c)] (t, rO g ad N S G (zSB g σ0 Bx n ml fv)) (fun v σ' => v = some (.ref Bx) ∧ σ' = (t, rO g ad N S G (zSB g σ0 Bx (n + 1) ml (upd fv (nI n).toNatClampNeg (vp_nar .byte ((nI c).toInt8.toInt32)))))) zNo := by
  have h := k_J4_append_cf468 (t := t) ((rO_out (g := g) (S := S) (G := G) h1).trans (zSB_B (g := g) (σ0 := σ0) (n := n) (ml := ml) (fv := fv))) ((rO_out h2).trans zSB_V) hg (by omega) (by omega) c hc hn
  rw [rO_zup hK h1, rO_zup hK h2, zSB_set] at h
  exact h
theorem c_append {Bx n c : Nat} {ml : Int32} {fv : Nat → Int32} (h1 : Bx < X0 ∨ X0 + 61 ≤ Bx) (h2 : Bx + 1 < X0 ∨ X0 + 61 ≤ Bx + 1) (hg : g.2.1.size ≤ Bx) (hc : c ≤ 255) (hn : n < 16) : Ct g 12 yJ4_append_cf468 cJ4_append_cf468 2 (some (.object "java/lang/StringBuilder")) 0 0 [.ref Bx, .int (nI c)] (t, cW g X0 F (zSB g σ0 Bx n ml fv)) (fun v σ' => v = some (.ref Bx) ∧ σ' = (t, cW g X0 F (zSB g σ0 Bx (n + 1) ml (upd fv (nI n).toNatClampNeg (vp_nar .byte ((nI c).toInt8.toInt32)))))) zNo := by
  have h := k_J4_append_cf468 (t := t) ((cW_out (g := g) (X0 := X0) (F := F) h1).trans (zSB_B (g := g) (σ0 := σ0) (n := n) (ml := ml) (fv := fv))) ((cW_out h2).trans zSB_V) hg (by omega) (by omega) c hc hn
  rw [cW_zup h1, cW_zup h2, zSB_set] at h
  exact h
theorem zchr : ∀ q, q < 10 → ((nI (48 + q)).toUInt32 % 65536).toInt32 = nI (48 + q) := by decide +kernel
end SBT
