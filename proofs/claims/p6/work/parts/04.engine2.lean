/-! ===== rows of fields, arrays, new, returns ===== -/
/-- the field that entry idx of own's pool names: field k of class ci -/
def zF (own : String) (idx ci k : Nat) (C : String) (T : u_T) (N : Nat) : Prop := vwCl[ci]? = some (C, T, N) ∧ (∀ w ∈ u_ws C T N, w ∈ zTBL) ∧ k < N ∧ (T k).1 = C ∧ (Cond.fieldLink own idx C (T k).2.1 (T k).2.2.1 ∈ zTBL ∨ ∃ host, Cond.fieldLinkNest own idx C (T k).2.1 (T k).2.2.1 host ∈ zNL)
/-- what a store wants of its class: types, names apart -/
def zT (C : String) (T : u_T) (N : Nat) : Prop := (∃ ty : Nat → FieldType, ∀ k, k < N → parseFieldDescriptor (T k).2.2.1 = some (ty k)) ∧ ∀ a, a < N → ∀ b, b < N → a ≠ b → (T a).2.1 ≠ (T b).2.1
section FROWS
variable {g : zG} {κ : zC} {own : String} {cc : ByteArray} {nL k n : Nat} {σ : zS} {pc : Nat} {lv : List (Nat × Value)} {rest : List Value}
theorem V_getf (X : zX g κ own cc nL) {a idx ci j : Nat} {C : String} {T : u_T} {N : Nat} (F : zF own idx ci j C T N) {fs : List Value} {v : Value} (he : σ.2 a = some (.inr (ci, fs))) (hv : fs[j]? = some v) (d : decode cc pc = .ok (.getfield idx, 3)) (kk : V g κ nL k n σ (pc + 3) lv (v :: rest)) : V g κ nL k n σ pc lv (.ref a :: rest) := by
  intro H locs ls hR hL hl
  obtain ⟨hc, hin, hk, hdecl, hlink⟩ := F
  have hP : va_P g.2.2.1 vwCl [(a, .inr (ci, fs))] H := fun i q hq => by
    match i, hq with
    | 0, hq => cases hq; exact hR.2.2.2 a _ he
    | i + 1, hq => simp at hq
  rcases hlink with hlink | ⟨host, hlink⟩
  · exact va_get X.1 X.2.1 X.2.2.2.2.1 hin X.2.2.2.1 X.2.2.2.2.2.2.1 hP 0 rfl hc j hk (X.2.2.2.2.1 _ hlink) (fun x hx => by rw [← hx, hdecl]) hv d (kk H locs ls hR hL hl)
  · exact va_getN X.1 X.2.1 X.2.2.2.2.1 hin X.2.2.2.1 X.2.2.2.2.2.2.1 hP 0 rfl hc j hk (va_Nw.use rfl (X.2.2.2.2.2.2.2.1 _ hlink)) (fun x hx => by rw [← hx, hdecl]) hv d (kk H locs ls hR hL hl)
theorem V_putf (X : zX g κ own cc nL) {a idx ci j : Nat} {C : String} {T : u_T} {N : Nat} (F : zF own idx ci j C T N) (Z : zT C T N) {fs : List Value} {v : Value} {ty : FieldType} (he : σ.2 a = some (.inr (ci, fs))) (ha : g.2.1.size ≤ a) (hl0 : j < fs.length) (hfin : (T j).2.2.2 = false) (hd : parseFieldDescriptor (T j).2.2.1 = some ty) (hn : narrow ty v = v) (hfit : fits ty v = true) (d : decode cc pc = .ok (.putfield idx, 3)) (kk : V g κ nL k n (σ.1, zup σ.2 a (.inr (ci, fs.set j v))) (pc + 3) lv rest) : V g κ nL k n σ pc lv (v :: .ref a :: rest) := by
  intro H locs ls hR hL hl
  obtain ⟨hc, hin, hk, hdecl, hlink⟩ := F
  obtain ⟨⟨ty0, hty⟩, hnm⟩ := Z
  have hts := X.2.2.2.2.1
  have hK := X.2.2.2.2.2.2.1
  have hap := va_apart (own := own) hts hin ty0 hty hnm hK hc
  obtain ⟨r, h1, cell, q1, q2, q3, q4⟩ := hR.2.2.2 a _ he
  have hr : r = (C, T, N) := Option.some.inj (h1.symm.trans hc)
  subst hr
  obtain ⟨hS, hfc, kC, hkC, hkind⟩ := hK.1 ci _ hc
  obtain ⟨cf, kf, fi, f, hi, hsl⟩ := hS j hk
  have hlay := hts _ (hin _ (u_in_lay hk))
  unfold u_lay at hlay
  rw [if_neg (by rw [hfin]; decide)] at hlay
  have hst := (u_facts hfc hkC (u_lays hts hin hk) hi).1
  have h6 := u_store hfc hkC hkind hlay hi hd hn hfit
  have hi' : (zs κ).fieldFound? C (T j).2.1 (T j).2.2.1 = some (cf, kf, fi, f) := by rw [← hi, hdecl]
  have key : ∀ H' : Heap, H'[a]? = some (cell.setSlot f.slot v) → H'.size = H.size → (∀ q, q ≠ a → H'[q]? = H[q]?) → zR g (σ.1, zup σ.2 a (.inr (ci, fs.set j v))) H' := fun H' e1 e2 e3 => by
    rw [hsl] at e1
    exact hR.put ha e2 e3 q1 e1 (by simp [Cell.setSlot]) ⟨_, hc, t_OB.to (V := updV (vp_V fs) j v) ⟨_, e1, q2, q3, t_set q4 hap hk v⟩ (fun i _ => vp_updV_set hl0 v i)⟩
  rcases hlink with hlink | ⟨host, hlink⟩
  · refine W.putK X.1 X.2.1 (f := f) ⟨X.2.2.2.1, hts _ hlink, ⟨_, _, _, hi'⟩, hst⟩ (by rw [q2]; exact h6) q1 q3 (by rw [hsl]; exact k2_hasslot (q4 j hk)) rfl rfl d fun H' e1 e2 e3 => ?_
    exact kk H' _ ls (key H' e1 e2 e3) (fun q hq => by rcases List.mem_append.mp hq with h | h; exact hL q h; cases (List.mem_singleton.mp h); exact ha) hl
  · refine va_WputK X.1 X.2.1 (f := f) X.2.2.2.1 (va_Nw.use rfl (X.2.2.2.2.2.2.2.1 _ hlink)) hi' hst (by rw [q2]; exact h6) q1 q3 (by rw [hsl]; exact k2_hasslot (q4 j hk)) rfl rfl d fun H' e1 e2 e3 => ?_
    exact kk H' _ ls (key H' e1 e2 e3) (fun q hq => by rcases List.mem_append.mp hq with h | h; exact hL q h; cases (List.mem_singleton.mp h); exact ha) hl
theorem V_iald (X : zX g κ own cc nL) {a N : Nat} {f : Nat → Int32} {i : Int32} (he : σ.2 a = some (.inl (g.2.2.2 0, N, .inl f))) (hin : vp_in i N) (d : decode cc pc = .ok (.iaload, 1)) (kk : V g κ nL k n σ (pc + 1) lv (.int (f i.toNatClampNeg) :: rest)) : V g κ nL k n σ pc lv (.int i :: .ref a :: rest) := by
  intro H locs ls hR hL hl
  have hP : va_P g.2.2.1 vwCl [(a, .inl (g.2.2.2 0, N, .inl f))] H := fun i q hq => by
    match i, hq with
    | 0, hq => cases hq; exact hR.2.2.2 a _ he
    | i + 1, hq => simp at hq
  exact va_iald X.1 X.2.1 X.2.2.2.2.2.2.1 hP 0 0 rfl rfl hin d (kk H locs ls hR hL hl)
theorem V_iast (X : zX g κ own cc nL) {a N : Nat} {f : Nat → Int32} {i x : Int32} (he : σ.2 a = some (.inl (g.2.2.2 0, N, .inl f))) (ha : g.2.1.size ≤ a) (hin : vp_in i N) (d : decode cc pc = .ok (.iastore, 1)) (kk : V g κ nL k n (σ.1, zup σ.2 a (.inl (g.2.2.2 0, N, .inl (upd f i.toNatClampNeg x)))) (pc + 1) lv rest) : V g κ nL k n σ pc lv (.int x :: .int i :: .ref a :: rest) := by
  intro H locs ls hR hL hl
  refine W.iast X.1 X.2.1 (hR.2.2.2 a _ he) ((X.2.2.2.2.2.2.1.2 0 _ rfl).1 N (fun j => .int (f j))) (fun q => by cases q) (by show ¬ (i < 0 ∨ (arrV _ _ _).slots.size ≤ _); rw [arrV_size]; exact hin) rfl rfl d fun H1 e z oq => ?_
  refine kk H1 _ ls (hR.put ha z oq (hR.2.2.2 a _ he) e (by simp [Cell.setSlot]) ?_) (fun q hq => by rcases List.mem_append.mp hq with h | h; exact hL q h; cases (List.mem_singleton.mp h); exact ha) hl
  show H1[a]? = some (vp_cell _ _)
  rw [e]
  rw [vp_cell_i, vp_cell_i, arrV_store]
  congr 2
  funext q
  by_cases hq : q = i.toNatClampNeg
  · subst hq
    simp [updV, upd]
  · simp [updV, upd, hq]
theorem V_alen (X : zX g κ own cc nL) {a : Nat} {x : vp_A} {v : Int32} (t : Nat) (he : σ.2 a = some (.inl (g.2.2.2 t, x))) (ht : t < 5) (hv : Int32.ofNat x.1 = v) (d : decode cc pc = .ok (.arraylength, 1)) (kk : V g κ nL k n σ (pc + 1) lv (.int v :: rest)) : V g κ nL k n σ pc lv (.ref a :: rest) := by
  intro H locs ls hR hL hl
  have hP : va_P g.2.2.1 vwCl [(a, .inl (g.2.2.2 t, x))] H := fun i q hq => by
    match i, hq with
    | 0, hq => cases hq; exact hR.2.2.2 a _ he
    | i + 1, hq => simp at hq
  have : ∃ ty, (zTY g)[t]? = some (g.2.2.2 t, ty) := by
    match t, ht with
    | 0, _ => exact ⟨_, rfl⟩
    | 1, _ => exact ⟨_, rfl⟩
    | 2, _ => exact ⟨_, rfl⟩
    | 3, _ => exact ⟨_, rfl⟩
    | 4, _ => exact ⟨_, rfl⟩
  obtain ⟨ty, hty⟩ := this
  exact va_alen X.1 X.2.1 X.2.2.2.2.2.2.1 hP 0 t rfl hty hv d (kk H locs ls hR hL hl)
/-- an array of int arrays: a row of it -/
theorem V_aald2 (X : zX g κ own cc nL) {a N : Nat} {f : Nat → Option Nat} {i : Int32} {q : Nat} (he : σ.2 a = some (.inl (g.2.2.2 4, N, .inr (.inr (.inr (.inr f)))))) (hin : vp_in i N) (hq : f i.toNatClampNeg = some q) (d : decode cc pc = .ok (.aaload, 1)) (kk : V g κ nL k n σ (pc + 1) lv (.ref q :: rest)) : V g κ nL k n σ pc lv (.int i :: .ref a :: rest) := by
  intro H locs ls hR hL hl
  have hlt : i.toNatClampNeg < N := Nat.not_le.mp fun q => hin (Or.inr q)
  exact W.aald (v := .ref q) (ty := .array .int) X.1 X.2.1 (hR.2.2.2 a _ he) ((X.2.2.2.2.2.2.1.2 4 _ rfl).1 N (fun j => va_rf (f j))) rfl (fun q => by cases q) (by show ¬ (i < 0 ∨ (arrV _ _ _).slots.size ≤ _); rw [arrV_size]; exact hin) (by show (arrV _ _ _).slots[_]? = _; rw [arrV_read _ _ hlt, hq]; rfl) rfl rfl d (kk H locs ls hR hL hl)
theorem V_iret (X : zX g κ own cc nL) {dd mc ms : Nat} {Post : Option Value → zS → Prop} {XP : String → zS → Prop} (E : zE g κ dd (some .int) mc ms Post XP) {v : Int32} (hk : k ≤ mc) (hn : n ≤ ms) (hp : Post (some (.int v)) σ) (d : decode cc pc = .ok (.ireturn, 1)) : V g κ nL k n σ pc lv [.int v] := by
  intro H locs ls hR hL hl
  rw [E.2.1]
  refine W.widen hk hn (vx_ret ?_)
  exact W.iret X.1 X.2.1 E.1 (fun t ht _ => ⟨_, σ, rfl, hp, by rw [ht]; exact hR⟩) hL d (hlocks := X.2.2.2.2.2.1)
theorem V_zret (X : zX g κ own cc nL) {dd mc ms : Nat} {ty : FieldType} {Post : Option Value → zS → Prop} {XP : String → zS → Prop} (E : zE g κ dd (some ty) mc ms Post XP) {v : Int32} (hnar : narrow ty (.int v) = .int v) (hk : k ≤ mc) (hn : n ≤ ms) (hp : Post (some (.int v)) σ) (d : decode cc pc = .ok (.ireturn, 1)) : V g κ nL k n σ pc lv [.int v] := by
  intro H locs ls hR hL hl
  rw [E.2.1]
  refine W.widen hk hn (vx_ret ?_)
  exact W.zret X.1 X.2.1 E.1 hnar (fun t ht _ => ⟨_, σ, rfl, hp, by rw [ht]; exact hR⟩) hL d (hlocks := X.2.2.2.2.2.1)
theorem V_lret (X : zX g κ own cc nL) {dd mc ms : Nat} {Post : Option Value → zS → Prop} {XP : String → zS → Prop} (E : zE g κ dd (some .long) mc ms Post XP) {v : Int64} (hk : k ≤ mc) (hn : n ≤ ms) (hp : Post (some (.long v)) σ) (d : decode cc pc = .ok (.lreturn, 1)) : V g κ nL k n σ pc lv [.long v] := by
  intro H locs ls hR hL hl
  rw [E.2.1]
  refine W.widen hk hn (vx_ret ?_)
  exact W.lret X.1 X.2.1 E.1 (fun t ht _ => ⟨_, σ, rfl, hp, by rw [ht]; exact hR⟩) hL d (hlocks := X.2.2.2.2.2.1)
theorem V_vret (X : zX g κ own cc nL) {dd mc ms : Nat} {Post : Option Value → zS → Prop} {XP : String → zS → Prop} (E : zE g κ dd none mc ms Post XP) (hk : k ≤ mc) (hn : n ≤ ms) (hp : Post none σ) (d : decode cc pc = .ok (.return_, 1)) : V g κ nL k n σ pc lv [] := by
  intro H locs ls hR hL hl
  rw [E.2.1]
  refine W.widen hk hn (vx_ret ?_)
  exact W.vret X.1 X.2.1 E.1 (fun t ht _ => ⟨_, σ, rfl, hp, by rw [ht]; exact hR⟩) hL d (hlocks := X.2.2.2.2.2.1)
theorem V_aret (X : zX g κ own cc nL) {dd mc ms : Nat} {ty : FieldType} {Post : Option Value → zS → Prop} {XP : String → zS → Prop} (E : zE g κ dd (some ty) mc ms Post XP) {v : Value} (hrt : (∃ n, ty = .object n) ∨ ∃ t, ty = .array t) (hv : v = .null ∨ ∃ a, v = .ref a) (hk : k ≤ mc) (hn : n ≤ ms) (hp : Post (some v) σ) (d : decode cc pc = .ok (.areturn, 1)) : V g κ nL k n σ pc lv [v] := by
  intro H locs ls hR hL hl
  rw [E.2.1]
  refine W.widen hk hn (vx_ret ?_)
  exact W.aret X.1 X.2.1 E.1 hrt hv (fun t ht _ => ⟨_, σ, rfl, hp, by rw [ht]; exact hR⟩) hL d (hlocks := X.2.2.2.2.2.1)
end FROWS
