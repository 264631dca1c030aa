/-! ===== further rows: casts, references, byte and boolean arrays, statics, interfaces ===== -/
theorem Ct.ofN {g : zG} {d : Nat} {y : MethodName} {cc : ByteArray} {nL : Nat} {ret : Option FieldType} {mc ms : Nat} {av : List Value} {σ : zS} {Post : Option Value → zS → Prop} {XP : String → zS → Prop}
    (hy : plainName y.cls = true) (hlen : (lg_sl av).length ≤ nL) {lv : List (Nat × Value)} (hlv : lv_args 0 av = lv)
    (body : ∀ κ : zC, zX g κ y.cls cc nL → zE g κ d ret mc ms Post XP → zB κ σ.1 → (zme κ).name = y.name → V g κ nL 0 0 σ 0 lv []) : Ct g d y cc nL ret mc ms av σ Post XP := by
  refine vx_ofW (cc := cc) (maxL := nL) (ret := ret) (ws' := zTBL) hy rfl ?_
  intro p e s m args below meth c s₁ B hml ht hP
  obtain ⟨rfl, hR, hK⟩ := hP
  have hts := atoms_spec (ws := .code y cc nL ret :: zTBL) B.pre
  have hl := lv_entry av (n := nL) hlen
  rw [hlv] at hl
  have key := body (p, e, _, s, m, av.toArray, below, meth, c, vx_MQ below (fun _ _ o t => ∃ (v : Option Value) (σ' : zS), o = .returned v ∧ Post v σ' ∧ zR g σ' t.heap) (fun E _ t => ∃ σ' : zS, XP E σ' ∧ zR g σ' t.heap) av.toArray s mc ms (zA g))
    ⟨B.exec, B.bytes, hml, findClass_of_methodNamed B.named, fun w hw => hts w (List.mem_cons_of_mem _ hw), B.notSynchronized, hK⟩
    ⟨B.returns, rfl, ht, rfl, hR.2.1, hR.2.2.1⟩ hR.1 (name_of_methodNamed B.named B.method).1
  have k2 := key s.heap [] _ hR (fun q h => absurd h List.not_mem_nil) hl
  rw [lg_entry_eq]
  exact k2
/-- a field, its reference's class another than the object's -/
def zF2 (own : String) (idx ci k : Nat) (ref C : String) (T : u_T) (N : Nat) : Prop := vwCl[ci]? = some (C, T, N) ∧ (∀ w ∈ u_ws C T N, w ∈ zTBL) ∧ k < N ∧ Cond.fieldLink own idx ref (T k).2.1 (T k).2.2.1 ∈ zTBL ∧ ((T k).1 = ref ∨ Cond.sameField ref (T k).1 (T k).2.1 (T k).2.2.1 ∈ zTBL)
section F4
variable {g : zG} {κ : zC} {own : String} {cc : ByteArray} {nL k n : Nat} {σ : zS} {pc : Nat} {lv : List (Nat × Value)} {rest st : List Value}
theorem V.fr (kk : (∀ (a : Nat) (e : va_E), σ.2 a = some e → a < σ.1.1) → V g κ nL k n σ pc lv st) : V g κ nL k n σ pc lv st := fun H locs ls hR hL hl =>
  kk (fun a e h => by rw [← hR.1.1]; exact (hR.2.2.2 a e h).lt) H locs ls hR hL hl
theorem z1P {g : zG} {σ : zS} {H : Heap} {a : Nat} {e : va_E} (hR : zR g σ H) (he : σ.2 a = some e) : va_P g.2.2.1 vwCl [(a, e)] H := fun i q hq => by
  match i, hq with
  | 0, hq => cases hq; exact hR.2.2.2 a _ he
  | i + 1, hq => simp at hq
theorem zF2.same (X : zX g κ own cc nL) {idx ci j : Nat} {ref C : String} {T : u_T} {N : Nat} (F : zF2 own idx ci j ref C T N) : ∀ x, (zs κ).fieldFound? (T j).1 (T j).2.1 (T j).2.2.1 = some x → (zs κ).fieldFound? ref (T j).2.1 (T j).2.2.1 = some x := by
  intro x hx
  rcases F.2.2.2.2 with h | h
  · rw [← h]; exact hx
  · exact u_same (zWord X h) x hx
theorem V_getf2 (X : zX g κ own cc nL) {a idx ci j : Nat} {ref C : String} {T : u_T} {N : Nat} (F : zF2 own idx ci j ref C T N) {fs : List Value} {v : Value} (he : σ.2 a = some (.inr (ci, fs))) (hv : fs[j]? = some v) (d : decode cc pc = .ok (.getfield idx, 3)) (kk : V g κ nL k n σ (pc + 3) lv (v :: rest)) : V g κ nL k n σ pc lv (.ref a :: rest) := by
  intro H locs ls hR hL hl
  have hs := F.same X
  obtain ⟨hc, hin, hk, hlink, -⟩ := F
  exact va_get X.1 X.2.1 X.2.2.2.2.1 hin X.2.2.2.1 X.2.2.2.2.2.2.1 (z1P hR he) 0 rfl hc j hk (X.2.2.2.2.1 _ hlink) hs hv d (kk H locs ls hR hL hl)
theorem V_putf2 (X : zX g κ own cc nL) {a idx ci j : Nat} {ref C : String} {T : u_T} {N : Nat} (F : zF2 own idx ci j ref C T N) (Z : zT C T N) {fs : List Value} {v : Value} {ty : FieldType} (he : σ.2 a = some (.inr (ci, fs))) (ha : g.2.1.size ≤ a) (hl0 : j < fs.length) (hfin : (T j).2.2.2 = false) (hd : parseFieldDescriptor (T j).2.2.1 = some ty) (hn : narrow ty v = v) (hfit : fits ty v = true) (d : decode cc pc = .ok (.putfield idx, 3)) (kk : V g κ nL k n (σ.1, zup σ.2 a (.inr (ci, fs.set j v))) (pc + 3) lv rest) : V g κ nL k n σ pc lv (v :: .ref a :: rest) := by
  intro H locs ls hR hL hl
  have hsm := F.same X
  obtain ⟨hc, hin, hk, hlink, -⟩ := F
  obtain ⟨⟨ty0, hty⟩, hnm⟩ := Z
  have hts := X.2.2.2.2.1
  have hK := X.2.2.2.2.2.2.1
  have hap := va_apart (own := own) hts hin ty0 hty hnm hK hc
  obtain ⟨r, h1, cell, q1, q2, q3, q4⟩ := hR.2.2.2 a _ he
  have hr : r = (C, T, N) := Option.some.inj (h1.symm.trans hc)
  subst hr
  obtain ⟨hS, hfc, kC, hkC, hkind⟩ := hK.1 ci _ hc
  obtain ⟨cf, kf, fi, f, hi, hsl⟩ := hS j hk
  have hlay := hts _ (hin _ (u_in_lay hk))
  unfold u_lay at hlay
  rw [if_neg (by rw [hfin]; decide)] at hlay
  have hst := (u_facts hfc hkC (u_lays hts hin hk) hi).1
  have h6 := u_store hfc hkC hkind hlay hi hd hn hfit
  have hi' := hsm _ hi
  have key : ∀ H' : Heap, H'[a]? = some (cell.setSlot f.slot v) → H'.size = H.size → (∀ q, q ≠ a → H'[q]? = H[q]?) → zR g (σ.1, zup σ.2 a (.inr (ci, fs.set j v))) H' := fun H' e1 e2 e3 => by
    rw [hsl] at e1
    exact hR.put ha e2 e3 q1 e1 (by simp [Cell.setSlot]) ⟨_, hc, t_OB.to (V := updV (vp_V fs) j v) ⟨_, e1, q2, q3, t_set q4 hap hk v⟩ (fun i _ => vp_updV_set hl0 v i)⟩
  refine W.putK X.1 X.2.1 (f := f) ⟨X.2.2.2.1, hts _ hlink, ⟨_, _, _, hi'⟩, hst⟩ (by rw [q2]; exact h6) q1 q3 (by rw [hsl]; exact k2_hasslot (q4 j hk)) rfl rfl d fun H' e1 e2 e3 => ?_
  exact kk H' _ ls (key H' e1 e2 e3) (fun q hq => by rcases List.mem_append.mp hq with h | h; exact hL q h; cases (List.mem_singleton.mp h); exact ha) hl
/-- a final field, in the constructor -/
theorem V_putfF (X : zX g κ own cc nL) {a idx ci j : Nat} {T : u_T} {N : Nat} (F : zF own idx ci j own T N) (hlk : Cond.fieldLink own idx own (T j).2.1 (T j).2.2.1 ∈ zTBL) (Z : zT own T N) (hnmI : (zme κ).name = "<init>") {fs : List Value} {v : Value} {ty : FieldType} (he : σ.2 a = some (.inr (ci, fs))) (ha : g.2.1.size ≤ a) (hl0 : j < fs.length) (hfin : (T j).2.2.2 = true) (hd : parseFieldDescriptor (T j).2.2.1 = some ty) (hn : narrow ty v = v) (hfit : fits ty v = true) (d : decode cc pc = .ok (.putfield idx, 3)) (kk : V g κ nL k n (σ.1, zup σ.2 a (.inr (ci, fs.set j v))) (pc + 3) lv rest) : V g κ nL k n σ pc lv (v :: .ref a :: rest) := by
  intro H locs ls hR hL hl
  obtain ⟨hc, hin, hk, hdecl, -⟩ := F
  obtain ⟨⟨ty0, hty⟩, hnm⟩ := Z
  have hts := X.2.2.2.2.1
  have hK := X.2.2.2.2.2.2.1
  have hap := va_apart (own := own) hts hin ty0 hty hnm hK hc
  obtain ⟨r, h1, cell, q1, q2, q3, q4⟩ := hR.2.2.2 a _ he
  have hr : r = (own, T, N) := Option.some.inj (h1.symm.trans hc)
  subst hr
  obtain ⟨hS, hfc, kC, hkC, hkind⟩ := hK.1 ci _ hc
  obtain ⟨cf, kf, fi, f, hi, hsl⟩ := hS j hk
  have hlay := hts _ (hin _ (u_in_lay hk))
  unfold u_lay at hlay
  rw [if_pos hfin] at hlay
  have hst := (u_facts hfc hkC (u_lays hts hin hk) hi).1
  have hcf : (zm κ).cls = cf := by
    obtain ⟨_, _, c', _, _, _, -, -, hf', -, -, -, hown2, -⟩ := Cond.laysFinal_spec hlay
    have e1 : c' = cf := by have := hi.symm.trans hf'; simp at this; exact this.1.symm
    rw [hdecl] at hown2
    rw [← e1]; exact Option.some.inj (X.2.2.2.1.symm.trans hown2)
  have h6 := u_fits hfc hkC hkind (Or.inr hlay) hi hd hn hfit
  have hi' : (zs κ).fieldFound? own (T j).2.1 (T j).2.2.1 = some (cf, kf, fi, f) := by rw [← hi, hdecl]
  refine W.putFinK X.1 X.2.1 X.2.2.2.1 (hts _ hlk) hi' hst hcf hnmI (by rw [q2]; exact h6) q1 q3 (by rw [hsl]; exact k2_hasslot (q4 j hk)) rfl rfl d fun H' e1 e2 e3 => ?_
  rw [hsl] at e1
  exact kk H' _ ls (hR.put ha e2 e3 q1 e1 (by simp [Cell.setSlot]) ⟨_, hc, t_OB.to (V := updV (vp_V fs) j v) ⟨_, e1, q2, q3, t_set q4 hap hk v⟩ (fun i _ => vp_updV_set hl0 v i)⟩) (fun q hq => by rcases List.mem_append.mp hq with h | h; exact hL q h; cases (List.mem_singleton.mp h); exact ha) hl
theorem V_cast (X : zX g κ own cc nL) {a idx ci N : Nat} {C : String} {T : u_T} {fs : List Value} (hc : vwCl[ci]? = some (C, T, N)) (hcl : Cond.classLink own idx C ∈ zTBL) (he : σ.2 a = some (.inr (ci, fs))) (d : decode cc pc = .ok (.checkcast idx, 3)) (kk : V g κ nL k n σ (pc + 3) lv (.ref a :: rest)) : V g κ nL k n σ pc lv (.ref a :: rest) := fun H locs ls hR hL hl =>
  va_castS X.1 X.2.1 X.2.2.2.1 (zWord X hcl) (X.2.2.2.2.2.2.1.1 ci _ hc).2 (zRecv X hR he hc) d (kk H locs ls hR hL hl)
theorem V_null (X : zX g κ own cc nL) (d : decode cc pc = .ok (.aconst_null, 1)) (kk : V g κ nL k n σ (pc + 1) lv (.null :: rest)) : V g κ nL k n σ pc lv rest := fun H locs ls hR hL hl => lv_null X.1 X.2.1 d (kk H locs ls hR hL hl)
theorem V_dup_x1 (X : zX g κ own cc nL) {va vb : Value} (d : decode cc pc = .ok (.dup_x1, 1)) (ha : va.category = 1) (hb : vb.category = 1) (kk : V g κ nL k n σ (pc + 1) lv (va :: vb :: va :: rest)) : V g κ nL k n σ pc lv (va :: vb :: rest) := fun H locs ls hR hL hl => lv_dup_x1 X.1 X.2.1 d ha hb (kk H locs ls hR hL hl)
theorem V_i2b (X : zX g κ own cc nL) {x : Int32} (d : decode cc pc = .ok (.i2b, 1)) (kk : V g κ nL k n σ (pc + 1) lv (.int x.toInt8.toInt32 :: rest)) : V g κ nL k n σ pc lv (.int x :: rest) := fun H locs ls hR hL hl => lv_i2b X.1 X.2.1 d rfl (kk H locs ls hR hL hl)
theorem V_lconst (X : zX g κ own cc nL) {q : Fin 2} {v : Int64} (d : decode cc pc = .ok (.lconst q, 1)) (hv : Int64.ofNat (q : Nat) = v) (kk : V g κ nL k n σ (pc + 1) lv (.long v :: rest)) : V g κ nL k n σ pc lv rest := fun H locs ls hR hL hl => lv_lconst X.1 X.2.1 d hv (kk H locs ls hR hL hl)
theorem V_pop2 (X : zX g κ own cc nL) {va : Value} (d : decode cc pc = .ok (.pop2, 1)) (ha : va.category = 2) (kk : V g κ nL k n σ (pc + 1) lv rest) : V g κ nL k n σ pc lv (va :: rest) := fun H locs ls hR hL hl => lv_pop2_2 X.1 X.2.1 d ha (kk H locs ls hR hL hl)
theorem V_acmpeq (X : zX g κ own cc nL) {a b : Nat} {off : Int} {tgt : Nat} (d : decode cc pc = .ok (.if_acmp .eq off, 3)) (ht : (pc : Int) + off = (tgt : Int)) (kt : a = b → V g κ nL k n σ tgt lv rest) (kf : ¬ a = b → V g κ nL k n σ (pc + 3) lv rest) : V g κ nL k n σ pc lv (.ref b :: .ref a :: rest) := fun H locs ls hR hL hl => lv_acmp_eq (rx := some a) (ry := some b) X.1 X.2.1 d ht (fun h => kt (Option.some.inj h) H locs ls hR hL hl) (fun h => kf (fun e => h (congrArg some e)) H locs ls hR hL hl)
theorem V_zald (X : zX g κ own cc nL) {a N : Nat} {f : Nat → Int32} {i : Int32} (he : σ.2 a = some (.inl (g.2.2.2 1, N, .inl f))) (hin : vp_in i N) (d : decode cc pc = .ok (.baload, 1)) (kk : V g κ nL k n σ (pc + 1) lv (.int (f i.toNatClampNeg) :: rest)) : V g κ nL k n σ pc lv (.int i :: .ref a :: rest) := fun H locs ls hR hL hl =>
  va_zald X.1 X.2.1 X.2.2.2.2.2.2.1 (z1P hR he) 0 1 rfl rfl hin d (kk H locs ls hR hL hl)
theorem V_zast (X : zX g κ own cc nL) {a N : Nat} {f : Nat → Int32} {i x : Int32} (he : σ.2 a = some (.inl (g.2.2.2 1, N, .inl f))) (ha : g.2.1.size ≤ a) (hin : vp_in i N) (d : decode cc pc = .ok (.bastore, 1)) (kk : V g κ nL k n (σ.1, zup σ.2 a (.inl (g.2.2.2 1, N, .inl (upd f i.toNatClampNeg (vp_nar .boolean x))))) (pc + 1) lv rest) : V g κ nL k n σ pc lv (.int x :: .int i :: .ref a :: rest) := by
  intro H locs ls hR hL hl
  refine W.zast X.1 X.2.1 (hR.2.2.2 a _ he) ((X.2.2.2.2.2.2.1.2 1 _ rfl).1 N (fun j => .int (f j))) (fun q => by cases q) (by show ¬ (i < 0 ∨ (arrV _ _ _).slots.size ≤ _); rw [arrV_size]; exact hin) rfl rfl d fun H1 e z oq => ?_
  refine kk H1 _ ls (hR.put ha z oq (hR.2.2.2 a _ he) e (by simp [Cell.setSlot]) ?_) (fun q hq => by rcases List.mem_append.mp hq with h | h; exact hL q h; cases (List.mem_singleton.mp h); exact ha) hl
  show H1[a]? = some (vp_cell _ _)
  rw [e]
  rw [vp_cell_i, vp_cell_i, arrV_store]
  congr 2
  funext q
  by_cases hq : q = i.toNatClampNeg
  · subst hq
    simp [updV, upd, vp_nar]
    try rfl
  · simp [updV, upd, hq]
theorem V_bast (X : zX g κ own cc nL) {a N : Nat} {f : Nat → Int32} {i x : Int32} (he : σ.2 a = some (.inl (g.2.2.2 2, N, .inl f))) (ha : g.2.1.size ≤ a) (hin : vp_in i N) (d : decode cc pc = .ok (.bastore, 1)) (kk : V g κ nL k n (σ.1, zup σ.2 a (.inl (g.2.2.2 2, N, .inl (upd f i.toNatClampNeg (vp_nar .byte x))))) (pc + 1) lv rest) : V g κ nL k n σ pc lv (.int x :: .int i :: .ref a :: rest) := by
  intro H locs ls hR hL hl
  refine W.bast X.1 X.2.1 (hR.2.2.2 a _ he) ((X.2.2.2.2.2.2.1.2 2 _ rfl).1 N (fun j => .int (f j))) (fun q => by cases q) (by show ¬ (i < 0 ∨ (arrV _ _ _).slots.size ≤ _); rw [arrV_size]; exact hin) rfl rfl d fun H1 e z oq => ?_
  refine kk H1 _ ls (hR.put ha z oq (hR.2.2.2 a _ he) e (by simp [Cell.setSlot]) ?_) (fun q hq => by rcases List.mem_append.mp hq with h | h; exact hL q h; cases (List.mem_singleton.mp h); exact ha) hl
  show H1[a]? = some (vp_cell _ _)
  rw [e]
  rw [vp_cell_i, vp_cell_i, arrV_store]
  congr 2
  funext q
  by_cases hq : q = i.toNatClampNeg
  · subst hq
    simp [updV, upd, vp_nar]
    try rfl
  · simp [updV, upd, hq]
theorem V_aaldO (X : zX g κ own cc nL) {a N : Nat} {f : Nat → Option Nat} {i : Int32} {q : Nat} (he : σ.2 a = some (.inl (g.2.2.2 3, N, .inr (.inr (.inr (.inr f)))))) (hin : vp_in i N) (hq : f i.toNatClampNeg = some q) (d : decode cc pc = .ok (.aaload, 1)) (kk : V g κ nL k n σ (pc + 1) lv (.ref q :: rest)) : V g κ nL k n σ pc lv (.int i :: .ref a :: rest) := by
  intro H locs ls hR hL hl
  have hlt : i.toNatClampNeg < N := Nat.not_le.mp fun q => hin (Or.inr q)
  exact W.aald (v := .ref q) (ty := .object "java/lang/Object") X.1 X.2.1 (hR.2.2.2 a _ he) ((X.2.2.2.2.2.2.1.2 3 _ rfl).1 N (fun j => va_rf (f j))) rfl (fun q => by cases q) (by show ¬ (i < 0 ∨ (arrV _ _ _).slots.size ≤ _); rw [arrV_size]; exact hin) (by show (arrV _ _ _).slots[_]? = _; rw [arrV_read _ _ hlt, hq]; rfl) rfl rfl d (kk H locs ls hR hL hl)
theorem V_aastO (X : zX g κ own cc nL) {a N v ci : Nat} {C : String} {T : u_T} {NN : Nat} {f : Nat → Option Nat} {i : Int32} {vs : List Value} (he : σ.2 a = some (.inl (g.2.2.2 3, N, .inr (.inr (.inr (.inr f)))))) (ha : g.2.1.size ≤ a) (hv : σ.2 v = some (.inr (ci, vs))) (hc : vwCl[ci]? = some (C, T, NN)) (hca : Cond.castable C "java/lang/Object" ∈ zNL) (hin : vp_in i N) (d : decode cc pc = .ok (.aastore, 1)) (kk : V g κ nL k n (σ.1, zup σ.2 a (.inl (g.2.2.2 3, N, .inr (.inr (.inr (.inr (va_up f i.toNatClampNeg (some v)))))))) (pc + 1) lv rest) : V g κ nL k n σ pc lv (.ref v :: .int i :: .ref a :: rest) := by
  intro H locs ls hR hL hl
  have hlt : i.toNatClampNeg < N := Nat.not_le.mp fun q => hin (Or.inr q)
  have h0 : ¬ i < 0 := fun q => hin (Or.inl q)
  have hK := X.2.2.2.2.2.2.1
  obtain ⟨r', hr', cellV, g1, g2, g3, -⟩ := hR.2.2.2 v _ hv
  have hcls := (hK.1 ci _ hc).2
  obtain ⟨kA, comp, k1, k2, k3, -⟩ := (hK.2 3 _ rfl).2
  obtain ⟨kE, hkE, -⟩ := Vm.findClass_spec k3
  obtain ⟨c0, t1, f1, f2, f3⟩ := Cond.castable_spec (va_Nw.use (A := za κ) rfl (X.2.2.2.2.2.2.2.1 _ hca))
  cases hcls.1.symm.trans f1
  cases k3.symm.trans f2
  obtain ⟨kC, hkC, -⟩ := hcls.2
  refine W.aast X.1 X.2.1 (hR.2.2.2 a _ he) (fun q h => by cases h) (fun h => by cases h) k1 k2 rfl hkE ⟨h0, by show _ < (arrV _ _ _).slots.size; rw [arrV_size]; exact hlt⟩ g1 (fun q h => by rw [g3] at h; cases h) (by rw [g2]; exact hkC) (by rw [g2]; exact f3) rfl rfl d fun H1 e z oq => ?_
  refine kk H1 _ ls (hR.put ha z oq (hR.2.2.2 a _ he) e (by simp [Cell.setSlot]) ?_) (fun q hq => by rcases List.mem_append.mp hq with h | h; exact hL q h; cases (List.mem_singleton.mp h); exact ha) hl
  show H1[a]? = some (vp_cell _ _)
  rw [e]
  rw [vp_cell_q, vp_cell_q, arrV_store]
  congr 2
  funext q
  by_cases hq : q = i.toNatClampNeg
  · subst hq
    simp [updV, va_up, va_rf]
  · simp [updV, va_up, hq]
theorem V_newaZ (X : zX g κ own cc nL) {dd mc0 ms0 : Nat} (Hh : zH κ dd mc0 ms0) (hw : Cond.arrayClass .boolean ∈ zTBL) {m : Nat} (hm : m < 65536) (hcells : k + 1 ≤ mc0) (hslots : n + m ≤ ms0) (d : decode cc pc = .ok (.newarray .boolean, 2))
    (kk : V g κ nL (k + 1) (n + m) ((σ.1.1 + 1, σ.1.2 + m), zup σ.2 σ.1.1 (.inl (g.2.2.2 1, m, .inl (fun _ => 0)))) (pc + 2) lv (.ref σ.1.1 :: rest)) : V g κ nL k n σ pc lv (.int (nI m) :: rest) := by
  intro H locs ls hR hL hl
  obtain ⟨r1, r2, r3, r4⟩ := Hh
  have hm' : (nI m).toNatClampNeg = m := nI_clamp (by omega)
  refine W.newa (atype := .boolean) X.1 X.2.1 (show (Cond.arrayClass (newarray.typeOf .boolean)).before _ _ = true from zWord X hw) rfl d rfl (nI_pos (by omega)) (by rw [hm']; show m * 1 ≤ _; omega) (by omega) (by rw [hm']; omega) fun cA kA comp h1 h2 h3 => ?_
  have hcA : cA = g.2.2.2 1 := Option.some.inj (h1.symm.trans (X.2.2.2.2.2.2.1.2 1 _ rfl).2)
  subst hcA
  have hz : H.size = σ.1.1 := hR.1.1
  rw [hm']
  have hb : (H.push { cls := g.2.2.2 1, slots := Array.replicate m (defaultValue (newarray.typeOf .boolean)), vm := .none })[H.size]? = some (vp_cell (g.2.2.2 1) (m, .inl (fun _ => 0))) := by
    rw [vp_cell_i]
    simp only [Array.getElem?_push_size]
    exact congrArg some (arrV_new ..)
  have hp := hR.push (e := .inl (g.2.2.2 1, m, .inl (fun _ => 0))) (H1 := H.push { cls := g.2.2.2 1, slots := Array.replicate m (defaultValue (newarray.typeOf .boolean)), vm := .none }) (by simp) (fun q hq => by rw [Array.getElem?_push, if_neg (Nat.ne_of_lt hq)]) hb (show _[σ.1.1]? = _ by rw [← hz]; exact hb)
  have hsz : (vp_cell (g.2.2.2 1) (m, .inl (fun _ => (0 : Int32)))).slots.size = m := by rw [vp_cell_i, arrV_size]
  rw [hsz] at hp
  have := kk _ locs ls hp hL hl
  rw [← hz] at this
  exact this
theorem V_newaB (X : zX g κ own cc nL) {dd mc0 ms0 : Nat} (Hh : zH κ dd mc0 ms0) (hw : Cond.arrayClass .byte ∈ zTBL) {m : Nat} (hm : m < 65536) (hcells : k + 1 ≤ mc0) (hslots : n + m ≤ ms0) (d : decode cc pc = .ok (.newarray .byte, 2))
    (kk : V g κ nL (k + 1) (n + m) ((σ.1.1 + 1, σ.1.2 + m), zup σ.2 σ.1.1 (.inl (g.2.2.2 2, m, .inl (fun _ => 0)))) (pc + 2) lv (.ref σ.1.1 :: rest)) : V g κ nL k n σ pc lv (.int (nI m) :: rest) := by
  intro H locs ls hR hL hl
  obtain ⟨r1, r2, r3, r4⟩ := Hh
  have hm' : (nI m).toNatClampNeg = m := nI_clamp (by omega)
  refine W.newa (atype := .byte) X.1 X.2.1 (show (Cond.arrayClass (newarray.typeOf .byte)).before _ _ = true from zWord X hw) rfl d rfl (nI_pos (by omega)) (by rw [hm']; show m * 1 ≤ _; omega) (by omega) (by rw [hm']; omega) fun cA kA comp h1 h2 h3 => ?_
  have hcA : cA = g.2.2.2 2 := Option.some.inj (h1.symm.trans (X.2.2.2.2.2.2.1.2 2 _ rfl).2)
  subst hcA
  have hz : H.size = σ.1.1 := hR.1.1
  rw [hm']
  have hb : (H.push { cls := g.2.2.2 2, slots := Array.replicate m (defaultValue (newarray.typeOf .byte)), vm := .none })[H.size]? = some (vp_cell (g.2.2.2 2) (m, .inl (fun _ => 0))) := by
    rw [vp_cell_i]
    simp only [Array.getElem?_push_size]
    exact congrArg some (arrV_new ..)
  have hp := hR.push (e := .inl (g.2.2.2 2, m, .inl (fun _ => 0))) (H1 := H.push { cls := g.2.2.2 2, slots := Array.replicate m (defaultValue (newarray.typeOf .byte)), vm := .none }) (by simp) (fun q hq => by rw [Array.getElem?_push, if_neg (Nat.ne_of_lt hq)]) hb (show _[σ.1.1]? = _ by rw [← hz]; exact hb)
  have hsz : (vp_cell (g.2.2.2 2) (m, .inl (fun _ => (0 : Int32)))).slots.size = m := by rw [vp_cell_i, arrV_size]
  rw [hsz] at hp
  have := kk _ locs ls hp hL hl
  rw [← hz] at this
  exact this
theorem V_anewO (X : zX g κ own cc nL) {dd mc0 ms0 : Nat} (Hh : zH κ dd mc0 ms0) {idx : Nat} (hcl : Cond.classLink own idx "java/lang/Object" ∈ zTBL) {m : Nat} (hm : m < 65536) (hcells : k + 1 ≤ mc0) (hslots : n + m ≤ ms0) (d : decode cc pc = .ok (.anewarray idx, 3))
    (kk : V g κ nL (k + 1) (n + m) ((σ.1.1 + 1, σ.1.2 + m), zup σ.2 σ.1.1 (.inl (g.2.2.2 3, m, .inr (.inr (.inr (.inr (fun _ => none))))))) (pc + 3) lv (.ref σ.1.1 :: rest)) : V g κ nL k n σ pc lv (.int (nI m) :: rest) := by
  intro H locs ls hR hL hl
  obtain ⟨r1, r2, r3, r4⟩ := Hh
  have hm' : (nI m).toNatClampNeg = m := nI_clamp (by omega)
  refine W.anew (C := "java/lang/Object") X.1 X.2.1 X.2.2.2.1 (zWord X hcl) (va_AO.use (X.2.2.2.2.2.2.2.2.2.2.2.2.1)) rfl d rfl (nI_pos (by omega)) (by rw [hm']; omega) (by omega) (by rw [hm']; omega) fun cA kA comp h1 h2 h3 h4 => ?_
  have hcA : cA = g.2.2.2 3 := by
    obtain ⟨kA', comp', k1, k2, k3, k4⟩ := (X.2.2.2.2.2.2.1.2 3 _ rfl).2
    exact Option.some.inj (h1.symm.trans k4)
  subst hcA
  have hz : H.size = σ.1.1 := hR.1.1
  rw [hm']
  have hb : (H.push { cls := g.2.2.2 3, slots := Array.replicate m .null, vm := .none })[H.size]? = some (vp_cell (g.2.2.2 3) (m, .inr (.inr (.inr (.inr (fun _ => none)))))) := by
    rw [vp_cell_q]
    simp only [Array.getElem?_push_size]
    exact congrArg some (arrV_new ..)
  have hp := hR.push (e := .inl (g.2.2.2 3, m, .inr (.inr (.inr (.inr (fun _ => none)))))) (H1 := H.push { cls := g.2.2.2 3, slots := Array.replicate m .null, vm := .none }) (by simp) (fun q hq => by rw [Array.getElem?_push, if_neg (Nat.ne_of_lt hq)]) hb (show _[σ.1.1]? = _ by rw [← hz]; exact hb)
  have hsz : (vp_cell (g.2.2.2 3) (m, .inr (.inr (.inr (.inr (fun _ => none)))))).slots.size = m := by rw [vp_cell_q, arrV_size]
  rw [hsz] at hp
  have := kk _ locs ls hp hL hl
  rw [← hz] at this
  exact this
theorem V_gets (X : zX g κ own cc nL) {dd mc ms : Nat} {ret : Option FieldType} {Post : Option Value → zS → Prop} {XP : String → zS → Prop} (E : zE g κ dd ret mc ms Post XP) {C f fd : String} {v : Value} {idx : Nat} (hZ : va_Z C f fd v (zA g) (zs κ) g.2.1) (hlink : Cond.fieldLink own idx C f fd ∈ zTBL) (d : decode cc pc = .ok (.getstatic idx, 3)) (kk : V g κ nL k n σ (pc + 3) lv (v :: rest)) : V g κ nL k n σ pc lv rest := by
  intro H locs ls hR hL hl T hT S
  have hbase := E.2.2.2.2
  have hz : (zs κ).heap.size ≤ H.size := by
    obtain ⟨-, h2, -⟩ := S.same
    rw [← hT]; exact h2
  refine va_gets (A := zA g) X.1 X.2.1 (hZ.kept fun a h1 h2 => hbase.2 a h1) ⟨hz, fun q hq hA => ?_, fun q hq => hL q hq⟩ X.2.2.2.1 (zWord X hlink) (fun _ h => h) d (kk H locs ls hR hL hl) T hT S
  have hq2 : q < g.2.1.size := Nat.not_le.mp hA
  rw [hR.2.2.1 q hq2, hbase.2 q hq2]
theorem zComp (X : zX g κ own cc nL) : va_Z "java/lang/String" "COMPACT_STRINGS" "Z" (.int 1) (zA g) (zs κ) g.2.1 := X.2.2.2.2.2.2.2.2.2.2.2.2.2.2.1
theorem zDefc (X : zX g κ own cc nL) : va_Z "java/util/ArrayList" "DEFAULTCAPACITY_EMPTY_ELEMENTDATA" "[Ljava/lang/Object;" (.ref (zEm g)) (zA g) (zs κ) g.2.1 := X.2.2.2.2.2.2.2.2.2.2.2.2.2.2.2.1
theorem V_objInit (X : zX g κ own cc nL) {dd mc0 ms0 : Nat} (Hh : zH κ dd mc0 ms0) (hd : 1 ≤ dd) {a idx : Nat} (h1 : Cond.methodLink own idx Lib.objectInit ∈ zTBL) (h2 : Cond.instanceMethod Lib.objectInit ∈ zTBL) (h3 : Cond.code Lib.objectInit ⟨#[0xb1]⟩ 1 none ∈ zTBL) (hw : (rest.map fun v => v.category).sum ≤ 8) (d : decode cc pc = .ok (.invokespecial idx, 3)) (kk : V g κ nL k n σ (pc + 3) lv rest) : V g κ nL k n σ pc lv (.ref a :: rest) := by
  intro H locs ls hR hL hl
  obtain ⟨r1, r2, r3, r4⟩ := Hh
  exact W.objInit X.1 X.2.1 X.2.2.2.1 (zWord X h1) (zWord X h2) (zWord X h3) rfl (hl.1.trans X.2.2.1.symm) rfl d (by omega) (by show 2 * 0 + _ + _ ≤ _; omega) (kk H locs ls hR hL hl)
theorem V_ldcS (X : zX g κ own cc nL) {idx q : Nat} {tx : String} (hZ : vk_R own idx tx q (zs κ)) (d : decode cc pc = .ok (.ldc idx, 2)) (kk : V g κ nL k n σ (pc + 2) lv (.ref q :: rest)) : V g κ nL k n σ pc lv rest := fun H locs ls hR hL hl => va_ldcS X.1 X.2.1 X.2.2.2.1 hZ d (kk H locs ls hR hL hl)
/-- the tail of a call by an interface -/
theorem V_run5 {mc ms : Nat} {Post : Option Value → zS → Prop} {XP : String → zS → Prop}
    (hr : ∀ (H : Heap) (locs : List Loc) (ls : Array Slot), zR g σ H → lv_has ls nL lv → vx_Run5 (zp κ) g.1 (ze κ) (zRm κ) (zs κ) (zm κ) (za κ) (zb κ) (zme κ) (zc κ) H locs k n mc ms (F0 (zm κ) pc ls st) rest (fun (_ : State) (o : Outcome) (t : State) => ∃ (v : Option Value) (σ' : zS), o = .returned v ∧ Post v σ' ∧ zR g σ' t.heap) (fun E _ t => ∃ σ' : zS, XP E σ' ∧ zR g σ' t.heap) (zA g))
    (kx : ∀ (E : String) (σ' : zS), XP E σ' → VX g κ nL (k + mc) (n + ms) σ' pc lv rest E)
    (kk : ∀ (v : Option Value) (σ' : zS), Post v σ' → V g κ nL (k + mc) (n + ms) σ' (pc + 5) lv (v.toList ++ rest)) : V g κ nL k n σ pc lv st := by
  intro H locs ls hR hL hl T hT S
  rcases hr H locs ls hR hl T hT S with ⟨v, st₀, t, T', L, h0, X', hL', e1, e2, ⟨v', σ', hv, hp, hR'⟩, s1⟩ | ⟨q, st₀, t, T', L, E, ce, h0, X', hL', e1, e2, ⟨σ', hp, hR'⟩, hce, hcv, hcl, s1⟩
  · cases hv
    obtain ⟨t2, a1, b1⟩ := kk v σ' hp T'.heap (locs ++ L) ls (by rw [e1]; exact hR') (fun q hq => by rcases List.mem_append.mp hq with h | h; exact hL q h; exact hL' q h) hl T' rfl X'
    exact ⟨t2, s1 t2 a1, b1⟩
  · obtain ⟨t2, a1, b1⟩ := kx E σ' hp T'.heap (locs ++ L) ls q ce (by rw [e1]; exact hR') (fun q hq => by rcases List.mem_append.mp hq with h | h; exact hL q h; exact hL' q h) hl (by rw [e1]; exact hce) hcv hcl T' rfl X'
    exact ⟨t2, s1.trans a1, b1⟩
/-- the words of a call by an interface -/
def zMF (own : String) (idx : Nat) (C : String) (x y : MethodName) (cc : ByteArray) (nL : Nat) (ret : Option FieldType) (np : Nat) : Prop :=
  Cond.code y cc nL ret ∈ zTBL ∧ Cond.initialized y.cls ∈ zTBL ∧ Cond.methodLink own idx x ∈ zTBL ∧ Cond.selects C x y ∈ zTBL ∧ Cond.instanceMethod y ∈ zTBL ∧ x.cls ≠ "java/lang/invoke/MethodHandle" ∧ x.cls ≠ "java/lang/invoke/VarHandle" ∧ (parseMethodDescriptor x.desc).map (fun d => d.parameters.length) = some np
theorem V_callF (X : zX g κ own cc nL) {dd mc0 ms0 : Nat} (Hh : zH κ dd mc0 ms0) {idx d' nL' np mc ms b ci cnt : Nat} {x y : MethodName} {cc' : ByteArray} {ret : Option FieldType} {av : List Value} {Post : Option Value → zS → Prop} {XP : String → zS → Prop} {C : String} {T : u_T} {N : Nat} {fs : List Value} (M : zMF own idx C x y cc' nL' ret np) (hF : va_Fw C x y (zs κ)) (hcl : vwCl[ci]? = some (C, T, N)) (he : σ.2 b = some (.inr (ci, fs))) (hd : d' < dd) (hnl : nL' ≤ 21) (hC : Ct g d' y cc' nL' ret mc ms (.ref b :: av) σ Post XP)
    (hav : av.length = np) (hs : st = av.reverse ++ .ref b :: rest) (hw : (rest.map fun v => v.category).sum ≤ 8) (hc : k + mc ≤ mc0 ∧ n + ms ≤ ms0) (d : decode cc pc = .ok (.invokeinterface idx cnt, 5))
    (kx : ∀ (E : String) (σ' : zS), XP E σ' → VX g κ nL (k + mc) (n + ms) σ' pc lv rest E)
    (kk : ∀ (v : Option Value) (σ' : zS), Post v σ' → V g κ nL (k + mc) (n + ms) σ' (pc + 5) lv (v.toList ++ rest)) : V g κ nL k n σ pc lv st := by
  refine V_run5 (rest := rest) (fun H locs ls hR hl => ?_) kx kk
  obtain ⟨m1, m2, m3, m4, m5, m6, m7, m8⟩ := M
  obtain ⟨r1, r2, r3, r4⟩ := Hh
  refine vx_runF (x := x) (bytes := cc') (maxL := nL') (ret := ret) (As := av) (C := C) (Ts := zTBL) ((X.2.2.2.2.2.2.1.1 ci _ hcl).2) ⟨X.1, X.2.1, X.2.2.1, X.2.2.2.1, X.2.2.2.2.1⟩ hC ?_ ⟨(zPre X hR (av := .ref b :: av)).1, zRecv X hR he hcl, (zPre X hR).2⟩ rfl hav hl.1 hs (lv_room hw) d ⟨Nat.le_trans hc.1 r3, Nat.le_trans hc.2 r4⟩
  refine ⟨⟨rfl, rfl, by show d' + 1 ≤ _; omega, by show 8 + (nL' + 11) + 40 * d' ≤ _; omega, pay_in X.2.2.2.2.1 (zGood m1), List.mem_cons_self⟩, zWord X m3, va_any rfl hF.1, va_any rfl hF.2.1, zWord X m4, zWord X m5, va_any rfl hF.2.2.1, va_any rfl hF.2.2.2.1, va_any rfl hF.2.2.2.2, zWord X m2, zWord X m1, ⟨m6, m7⟩, fun sig h => ?_⟩
  rw [h] at m8
  exact (Option.some.inj m8).symm
theorem zFwH (X : zX g κ own cc nL) : va_Fw RJx35411 zItH yJx35411_hasNext_aae02 (zs κ) := X.2.2.2.2.2.2.2.2.2.2.2.1.1.1
theorem zFwN (X : zX g κ own cc nL) : va_Fw RJx35411 zItN yJx35411_next_0502b (zs κ) := X.2.2.2.2.2.2.2.2.2.2.2.1.1.2
theorem zNone5 (X : zX g κ own cc nL) : vk_R RX5 229 "none" (g.2.2.2 6) (zs κ) := X.2.2.2.2.2.2.2.2.2.2.2.1.2.1
theorem zNone12 (X : zX g κ own cc nL) : vk_R RX12 300 "none" (g.2.2.2 7) (zs κ) := X.2.2.2.2.2.2.2.2.2.2.2.1.2.2
/-- super.m(..) -/
def zMS (own : String) (idx : Nat) (y : MethodName) (cc : ByteArray) (nL : Nat) (ret : Option FieldType) (np : Nat) : Prop :=
  Cond.code y cc nL ret ∈ zTBL ∧ Cond.initialized y.cls ∈ zTBL ∧ Cond.methodLink own idx y ∈ zTBL ∧ Cond.sameMethod y.cls y.cls y.name y.desc ∈ zTBL ∧ Cond.superclass own y.cls ∈ zTBL ∧ Cond.instanceMethod y ∈ zTBL ∧ y.name ≠ "<init>" ∧ (parseMethodDescriptor y.desc).map (fun d => d.parameters.length) = some np
theorem V_callSU (X : zX g κ own cc nL) {dd mc0 ms0 : Nat} (Hh : zH κ dd mc0 ms0) {idx d' nL' np mc ms b ci : Nat} {y : MethodName} {cc' : ByteArray} {ret : Option FieldType} {av : List Value} {Post : Option Value → zS → Prop} {XP : String → zS → Prop} {C : String} {T : u_T} {N : Nat} {fs : List Value} (M : zMS own idx y cc' nL' ret np) (hcl : vwCl[ci]? = some (C, T, N)) (he : σ.2 b = some (.inr (ci, fs))) (hd : d' < dd) (hnl : nL' ≤ 21) (hC : Ct g d' y cc' nL' ret mc ms (.ref b :: av) σ Post XP)
    (hav : av.length = np) (hs : st = av.reverse ++ .ref b :: rest) (hw : (rest.map fun v => v.category).sum ≤ 8) (hc : k + mc ≤ mc0 ∧ n + ms ≤ ms0) (d : decode cc pc = .ok (.invokespecial idx, 3))
    (kx : ∀ (E : String) (σ' : zS), XP E σ' → VX g κ nL (k + mc) (n + ms) σ' pc lv rest E)
    (kk : ∀ (v : Option Value) (σ' : zS), Post v σ' → V g κ nL (k + mc) (n + ms) σ' (pc + 3) lv (v.toList ++ rest)) : V g κ nL k n σ pc lv st := by
  refine V_run (rest := rest) (fun H locs ls hR hl => ?_) kx kk
  obtain ⟨m1, m2, m3, m4, m5, m6, m7, m8⟩ := M
  obtain ⟨r1, r2, r3, r4⟩ := Hh
  refine vx_runSU (bytes := cc') (maxL := nL') (ret := ret) (As := av) (C := C) (Ts := zTBL) ((X.2.2.2.2.2.2.1.1 ci _ hcl).2) ⟨X.1, X.2.1, X.2.2.1, X.2.2.2.1, X.2.2.2.2.1⟩ hC ?_ ⟨(zPre X hR (av := .ref b :: av)).1, zRecv X hR he hcl, (zPre X hR).2⟩ rfl hav hl.1 hs (lv_room hw) d ⟨Nat.le_trans hc.1 r3, Nat.le_trans hc.2 r4⟩
  refine ⟨⟨rfl, rfl, by show d' + 1 ≤ _; omega, by show 8 + (nL' + 11) + 40 * d' ≤ _; omega, pay_in X.2.2.2.2.1 (zGood m1), List.mem_cons_self⟩, zWord X m3, zWord X m4, zWord X m5, zWord X m6, zWord X m2, zWord X m1, m7, fun sig h => ?_⟩
  rw [h] at m8
  exact (Option.some.inj m8).symm
end F4
