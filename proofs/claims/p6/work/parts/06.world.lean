/-! ===== the class's world: 61 cells from X0 on; their int slots are F k j ===== -/
def fset (F : Nat → Nat → Int32) (k j : Nat) (x : Int32) : Nat → Nat → Int32 := fun k' j' => if k' = k then (if j' = j then x else F k' j') else F k' j'
theorem fset_eq {F : Nat → Nat → Int32} {k j : Nat} {x : Int32} : fset F k j x k j = x := by simp [fset]
theorem fset_ne {F : Nat → Nat → Int32} {k j k' j' : Nat} {x : Int32} (h : k' ≠ k ∨ j' ≠ j) : fset F k j x k' j' = F k' j' := by
  rcases h with h | h
  · simp [fset, h]
  · by_cases hk : k' = k <;> simp [fset, hk, h]
theorem fset_row {F : Nat → Nat → Int32} {k j : Nat} {x : Int32} : fset F k j x k = upd (F k) j x := by
  funext i
  by_cases h : i = j <;> simp [fset, upd, h]
theorem fset_other {F : Nat → Nat → Int32} {k j k' : Nat} {x : Int32} (h : k' ≠ k) : fset F k j x k' = F k' := by
  funext i
  simp [fset, h]
/-- how long the array at place k is -/
def cLen (k : Nat) : Nat := match k with
  | 2 => 7 | 3 => 7 | 4 => 7 | 5 => 6 | 6 => 6 | 8 => 5 | 9 => 5 | 10 => 5 | 11 => 5 | 13 => 5 | 14 => 7 | 15 => 7 | 16 => 7 | 17 => 5 | 19 => 6 | 20 => 6 | 21 => 6 | 22 => 64 | 24 => 5 | 25 => 5 | 26 => 5 | 27 => 32 | _ => 5
/-- the cell at place k, its ints read from f -/
def cCell (g : zG) (X0 k : Nat) (f : Nat → Int32) : va_E := match k with
  | 0 => .inr (9, [.ref (X0 + 1), .ref (X0 + 7), .ref (X0 + 12), .ref (X0 + 18), .ref (X0 + 23), .int (f 5), .int (f 6), .int (f 7), .int (f 8)])
  | 1 => .inr (6, [.ref (X0 + 2), .ref (X0 + 3), .ref (X0 + 4), .ref (X0 + 5), .ref (X0 + 6), .int (f 5), .int (f 6)])
  | 7 => .inr (5, [.ref (X0 + 8), .ref (X0 + 9), .ref (X0 + 10), .ref (X0 + 11), .int (f 4), .int (f 5)])
  | 12 => .inr (4, [.ref (X0 + 13), .int (f 1), .int (f 2), .int (f 3), .ref (X0 + 14), .ref (X0 + 15), .ref (X0 + 16), .ref (X0 + 17), .int (f 8)])
  | 18 => .inr (8, [.ref (X0 + 19), .ref (X0 + 20), .ref (X0 + 21), .int (f 3), .int (f 4), .ref (X0 + 22), .int (f 6)])
  | 23 => .inr (7, [.ref (X0 + 24), .ref (X0 + 25), .ref (X0 + 26), .ref (X0 + 27), .int (f 4), .ref (X0 + 28)])
  | 28 => .inl (g.2.2.2 4, 32, .inr (.inr (.inr (.inr (fun i => if i < 32 then some (X0 + (29 + i)) else none)))))
  | k => .inl (g.2.2.2 0, cLen k, .inl f)
theorem cCell_row (g : zG) (X0 : Nat) {k : Nat} (h : 29 ≤ k) (f : Nat → Int32) : cCell g X0 k f = .inl (g.2.2.2 0, 5, .inl f) := by
  obtain ⟨j, rfl⟩ := Nat.exists_eq_add_of_le h
  have : 29 + j = j + 29 := Nat.add_comm _ _
  rw [this]
  rfl
/-- the class's cells over whatever else there is -/
def cW (g : zG) (X0 : Nat) (F : Nat → Nat → Int32) (σ0 : Nat → Option va_E) : Nat → Option va_E := fun a => if X0 ≤ a ∧ a < X0 + 61 then some (cCell g X0 (a - X0) (F (a - X0))) else σ0 a
theorem cW_at {g : zG} {X0 : Nat} {F : Nat → Nat → Int32} {σ0 : Nat → Option va_E} {k : Nat} (hk : k < 61) : cW g X0 F σ0 (X0 + k) = some (cCell g X0 k (F k)) := by
  unfold cW
  rw [if_pos ⟨by omega, by omega⟩, Nat.add_sub_cancel_left]
theorem cW_out {g : zG} {X0 : Nat} {F : Nat → Nat → Int32} {σ0 : Nat → Option va_E} {a : Nat} (h : a < X0 ∨ X0 + 61 ≤ a) : cW g X0 F σ0 a = σ0 a := by
  unfold cW
  rw [if_neg (by omega)]
theorem cW_set {g : zG} {X0 : Nat} {F : Nat → Nat → Int32} {σ0 : Nat → Option va_E} {k j : Nat} {x : Int32} (hk : k < 61) {e : va_E} (he : cCell g X0 k (upd (F k) j x) = e) : zup (cW g X0 F σ0) (X0 + k) e = cW g X0 (fset F k j x) σ0 := by
  funext a
  by_cases ha : a = X0 + k
  · subst ha
    rw [zup_eq, cW_at hk, fset_row, he]
  · rw [zup_ne ha]
    by_cases h : X0 ≤ a ∧ a < X0 + 61
    · obtain ⟨q, rfl⟩ := Nat.exists_eq_add_of_le h.1
      have hq : q < 61 := by omega
      rw [cW_at hq, cW_at hq, fset_other (by omega)]
    · rw [cW_out (by omega), cW_out (by omega)]
theorem cW_zup {g : zG} {X0 : Nat} {F : Nat → Nat → Int32} {σ0 : Nat → Option va_E} {a : Nat} {e : va_E} (h : a < X0 ∨ X0 + 61 ≤ a) : zup (cW g X0 F σ0) a e = cW g X0 F (zup σ0 a e) := by
  funext b
  by_cases hb : b = a
  · subst hb
    rw [zup_eq, cW_out h, zup_eq]
  · rw [zup_ne hb]
    by_cases h' : X0 ≤ b ∧ b < X0 + 61
    · obtain ⟨q, rfl⟩ := Nat.exists_eq_add_of_le h'.1
      rw [cW_at (by omega), cW_at (by omega)]
    · rw [cW_out (by omega), cW_out (by omega), zup_ne hb]
section CROW
variable {g : zG} {κ : zC} {own : String} {cc : ByteArray} {nL k n : Nat} {t : Nat × Nat} {X0 : Nat} {F : Nat → Nat → Int32} {σ0 : Nat → Option va_E} {pc : Nat} {lv : List (Nat × Value)} {rest : List Value}
/-- a field of place q -/
theorem C_getf (X : zX g κ own cc nL) {idx ci j : Nat} {C : String} {T : u_T} {N : Nat} (Z : zF own idx ci j C T N) (q : Nat) (hq : q < 61) {fs : List Value} {v : Value} (he : cCell g X0 q (F q) = .inr (ci, fs)) (hv : fs[j]? = some v) (d : decode cc pc = .ok (.getfield idx, 3)) (kk : V g κ nL k n (t, cW g X0 F σ0) (pc + 3) lv (v :: rest)) : V g κ nL k n (t, cW g X0 F σ0) pc lv (.ref (X0 + q) :: rest) :=
  V_getf X Z (show (t, cW g X0 F σ0).2 (X0 + q) = _ from (cW_at hq).trans (congrArg some he)) hv d kk
theorem C_getfN (X : zX g κ own cc nL) {idx ci j : Nat} {C : String} {T : u_T} {N : Nat} (Z : zF own idx ci j C T N) (q : Nat) (hq : q < 61) {fs : List Value} {y z : Int32} (he : cCell g X0 q (F q) = .inr (ci, fs)) (hv : fs[j]? = some (.int y)) (hz : y = z) (d : decode cc pc = .ok (.getfield idx, 3)) (kk : V g κ nL k n (t, cW g X0 F σ0) (pc + 3) lv (.int z :: rest)) : V g κ nL k n (t, cW g X0 F σ0) pc lv (.ref (X0 + q) :: rest) := by
  subst hz
  exact C_getf X Z q hq he hv d kk
theorem C_putf (X : zX g κ own cc nL) {idx ci j : Nat} {C : String} {T : u_T} {N : Nat} (Z : zF own idx ci j C T N) (Y : zT C T N) (q : Nat) (hq : q < 61) (hX : g.2.1.size ≤ X0) {fs : List Value} {x : Int32} {ty : FieldType} (he : cCell g X0 q (F q) = .inr (ci, fs)) (hl : j < fs.length) (hfin : (T j).2.2.2 = false) (hd : parseFieldDescriptor (T j).2.2.1 = some ty) (hn : narrow ty (.int x) = .int x) (hfit : fits ty (.int x) = true) (hs : cCell g X0 q (upd (F q) j x) = .inr (ci, fs.set j (.int x))) (d : decode cc pc = .ok (.putfield idx, 3)) (kk : ∀ F' : Nat → Nat → Int32, F' = fset F q j x → V g κ nL k n (t, cW g X0 F' σ0) (pc + 3) lv rest) : V g κ nL k n (t, cW g X0 F σ0) pc lv (.int x :: .ref (X0 + q) :: rest) := by
  refine V_putf X Z Y (show (t, cW g X0 F σ0).2 (X0 + q) = _ from (cW_at hq).trans (congrArg some he)) (by omega) hl hfin hd hn hfit d ?_
  show V g κ nL k n (t, zup (cW g X0 F σ0) (X0 + q) (.inr (ci, fs.set j (.int x)))) (pc + 3) lv rest
  rw [cW_set hq hs]
  exact kk _ rfl
/-- an int array at place q, read at i = j -/
theorem C_iald (X : zX g κ own cc nL) (q : Nat) (hq : q < 61) {N : Nat} {i : Int32} (j : Nat) (hi : i = nI j) (hj : j < N) (hN : N < 2 ^ 31) (he : cCell g X0 q (F q) = .inl (g.2.2.2 0, N, .inl (F q))) (d : decode cc pc = .ok (.iaload, 1)) (kk : V g κ nL k n (t, cW g X0 F σ0) (pc + 1) lv (.int (F q j) :: rest)) : V g κ nL k n (t, cW g X0 F σ0) pc lv (.int i :: .ref (X0 + q) :: rest) := by
  subst hi
  refine V_iald X (show (t, cW g X0 F σ0).2 (X0 + q) = _ from (cW_at hq).trans (congrArg some he)) (vp_in_nI hj hN) d ?_
  rw [nI_clamp (by omega)]
  exact kk
theorem C_iast (X : zX g κ own cc nL) (q : Nat) (hq : q < 61) (hX : g.2.1.size ≤ X0) {N : Nat} {i x : Int32} (j : Nat) (hi : i = nI j) (hj : j < N) (hN : N < 2 ^ 31) (he : ∀ f : Nat → Int32, cCell g X0 q f = .inl (g.2.2.2 0, N, .inl f)) (d : decode cc pc = .ok (.iastore, 1)) (kk : ∀ F' : Nat → Nat → Int32, F' = fset F q j x → V g κ nL k n (t, cW g X0 F' σ0) (pc + 1) lv rest) : V g κ nL k n (t, cW g X0 F σ0) pc lv (.int x :: .int i :: .ref (X0 + q) :: rest) := by
  subst hi
  refine V_iast X (show (t, cW g X0 F σ0).2 (X0 + q) = _ from (cW_at hq).trans (congrArg some (he (F q)))) (by omega) (vp_in_nI hj hN) d ?_
  rw [nI_clamp (by omega)]
  show V g κ nL k n (t, zup (cW g X0 F σ0) (X0 + q) (.inl (g.2.2.2 0, N, .inl (upd (F q) j x)))) (pc + 1) lv rest
  rw [cW_set hq (he _)]
  exact kk _ rfl
theorem C_alen (X : zX g κ own cc nL) (q : Nat) (hq : q < 61) {N : Nat} {v : Int32} (he : cCell g X0 q (F q) = .inl (g.2.2.2 0, N, .inl (F q))) (hv : Int32.ofNat N = v) (d : decode cc pc = .ok (.arraylength, 1)) (kk : V g κ nL k n (t, cW g X0 F σ0) (pc + 1) lv (.int v :: rest)) : V g κ nL k n (t, cW g X0 F σ0) pc lv (.ref (X0 + q) :: rest) :=
  V_alen X 0 (show (t, cW g X0 F σ0).2 (X0 + q) = _ from (cW_at hq).trans (congrArg some he)) (by decide) hv d kk
/-- a row of the miles -/
theorem C_row (X : zX g κ own cc nL) {i : Int32} (j : Nat) (hi : i = nI j) (hj : j < 32) (d : decode cc pc = .ok (.aaload, 1)) (kk : V g κ nL k n (t, cW g X0 F σ0) (pc + 1) lv (.ref (X0 + (29 + j)) :: rest)) : V g κ nL k n (t, cW g X0 F σ0) pc lv (.int i :: .ref (X0 + 28) :: rest) := by
  subst hi
  refine V_aald2 X (show (t, cW g X0 F σ0).2 (X0 + 28) = _ from cW_at (k := 28) (by decide)) (vp_in_nI hj (by decide)) ?_ d kk
  rw [nI_clamp (by omega)]
  exact if_pos hj
/-- a call's receiver -/
theorem C_recv {q ci : Nat} (hq : q < 61) {fs : List Value} (he : cCell g X0 q (F q) = .inr (ci, fs)) : (t, cW g X0 F σ0).2 (X0 + q) = some (.inr (ci, fs)) := (cW_at hq).trans (congrArg some he)
end CROW
