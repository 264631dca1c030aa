/-! ===== methods with handlers: contracts, calls, catches ===== -/
def CtW (g : zG) (d : Nat) (y : MethodName) (cc : ByteArray) (nL : Nat) (ret : Option FieldType) (hh : List (Nat × Nat × Nat × Nat)) (mc ms : Nat) (av : List Value) (σ : zS) (Post : Option Value → zS → Prop) : Prop :=
  vx_Met g.1 y (.codeWith y cc nL ret hh :: zTBL) { frames := d, cells := mc, slots := ms, locals := 40 * d } (va_Pc av (fun U => zR g σ U.heap ∧ zKK g U)) (fun _ _ o t => ∃ (v : Option Value) (σ' : zS), o = .returned v ∧ Post v σ' ∧ zR g σ' t.heap) (fun E _ t => ∃ σ' : zS, zNo E σ' ∧ zR g σ' t.heap) mc ms (zA g)
def zEW (g : zG) (κ : zC) (d : Nat) (ret : Option FieldType) (hh : List (Nat × Nat × Nat × Nat)) (mc ms : Nat) (Post : Option Value → zS → Prop) : Prop :=
  (zme κ).sig.returnType = ret ∧ (zQ κ) = vx_MQ (zb κ) (fun _ _ o t => ∃ (v : Option Value) (σ' : zS), o = .returned v ∧ Post v σ' ∧ zR g σ' t.heap) (fun E _ t => ∃ σ' : zS, zNo E σ' ∧ zR g σ' t.heap) (za κ) (zs κ) mc ms (zA g) ∧ (zc κ).exceptionTable.toList = tableOf hh ∧ (zRm κ) = { frames := d, cells := mc, slots := ms, locals := 40 * d }
theorem zEW.room {g : zG} {κ : zC} {d : Nat} {ret : Option FieldType} {hh : List (Nat × Nat × Nat × Nat)} {mc ms : Nat} {Post : Option Value → zS → Prop} (E : zEW g κ d ret hh mc ms Post) : zH κ d mc ms := by
  obtain ⟨-, -, -, h⟩ := E
  unfold zH
  rw [h]
  exact ⟨Nat.le_refl _, Nat.le_refl _, Nat.le_refl _, Nat.le_refl _⟩
theorem CtW.of {g : zG} {d : Nat} {y : MethodName} {cc : ByteArray} {nL : Nat} {ret : Option FieldType} {hh : List (Nat × Nat × Nat × Nat)} {mc ms : Nat} {av : List Value} {σ : zS} {Post : Option Value → zS → Prop}
    (hy : plainName y.cls = true) (hlen : (lg_sl av).length ≤ nL) {lv : List (Nat × Value)} (hlv : lv_args 0 av = lv)
    (body : ∀ κ : zC, zX g κ y.cls cc nL → zEW g κ d ret hh mc ms Post → V g κ nL 0 0 σ 0 lv []) : CtW g d y cc nL ret hh mc ms av σ Post := by
  refine vx_ofWH (cc := cc) (maxL := nL) (ret := ret) (hh := hh) (ws' := zTBL) hy rfl ?_
  intro p e s m args below meth c s₁ B hml hP
  obtain ⟨rfl, hR, hK⟩ := hP
  have hts := atoms_spec (ws := .codeWith y cc nL ret hh :: zTBL) B.pre
  have ht := vx_table (x := y) B (hts _ List.mem_cons_self)
  have hl := lv_entry av (n := nL) hlen
  rw [hlv] at hl
  have key := body (p, e, _, s, m, av.toArray, below, meth, c, vx_MQ below (fun _ _ o t => ∃ (v : Option Value) (σ' : zS), o = .returned v ∧ Post v σ' ∧ zR g σ' t.heap) (fun E _ t => ∃ σ' : zS, zNo E σ' ∧ zR g σ' t.heap) av.toArray s mc ms (zA g))
    ⟨B.exec, B.bytes, hml, findClass_of_methodNamed B.named, fun w hw => hts w (List.mem_cons_of_mem _ hw), B.notSynchronized, hK⟩
    ⟨B.returns, rfl, ht, rfl⟩
  have k2 := key s.heap [] _ hR (fun q h => absurd h List.not_mem_nil) hl
  rw [lg_entry_eq]
  exact k2
/-- the words of a call of a method with handlers -/
def zMW (own : String) (idx : Nat) (y : MethodName) (cc : ByteArray) (nL : Nat) (ret : Option FieldType) (hh : List (Nat × Nat × Nat × Nat)) (np : Nat) : Prop := Cond.codeWith y cc nL ret hh ∈ zTBL ∧ Cond.initialized y.cls ∈ zTBL ∧ (y.cls ≠ "java/lang/invoke/MethodHandle" ∧ y.cls ≠ "java/lang/invoke/VarHandle" ∧ (parseMethodDescriptor y.desc).map (fun d => d.parameters.length) = some np) ∧ Cond.methodLink own idx y ∈ zTBL
theorem zGoodW {y : MethodName} {cc : ByteArray} {nL : Nat} {ret : Option FieldType} {hh : List (Nat × Nat × Nat × Nat)} (h : Cond.codeWith y cc nL ret hh ∈ zTBL) : GoodIn zTBL (.codeWith y cc nL ret hh :: zTBL) := fun w hw => by
  rcases List.mem_cons.mp hw with e | hw
  · subst e; exact zGoodT _ h
  · exact zGoodT _ hw
section LROWS
variable {g : zG} {κ : zC} {own : String} {cc : ByteArray} {nL k n : Nat} {σ : zS} {pc : Nat} {lv : List (Nat × Value)} {rest st : List Value}
theorem V_iretW (X : zX g κ own cc nL) {dd mc ms : Nat} {hh : List (Nat × Nat × Nat × Nat)} {Post : Option Value → zS → Prop} (E : zEW g κ dd (some .int) hh mc ms Post) {v : Int32} (hk : k ≤ mc) (hn : n ≤ ms) (hp : Post (some (.int v)) σ) (d : decode cc pc = .ok (.ireturn, 1)) : V g κ nL k n σ pc lv [.int v] := by
  intro H locs ls hR hL hl
  rw [E.2.1]
  refine W.widen hk hn (vx_ret ?_)
  exact W.iret X.1 X.2.1 E.1 (fun t ht _ => ⟨_, σ, rfl, hp, by rw [ht]; exact hR⟩) hL d (hlocks := X.2.2.2.2.2.1)
theorem V_callSX (X : zX g κ own cc nL) {dd mc0 ms0 : Nat} (Hh : zH κ dd mc0 ms0) {idx d' nL' np mc ms : Nat} {y : MethodName} {cc' : ByteArray} {ret : Option FieldType} {hh : List (Nat × Nat × Nat × Nat)} {av : List Value} {Post : Option Value → zS → Prop} (M : zMW own idx y cc' nL' ret hh np) (hst : Cond.static y ∈ zTBL) (hd : d' < dd) (hnl : nL' ≤ 21) (hC : CtW g d' y cc' nL' ret hh mc ms av σ Post)
    (hav : av.length = np) (hs : st = av.reverse ++ rest) (hw : (rest.map fun v => v.category).sum ≤ 8) (hc : k + mc ≤ mc0 ∧ n + ms ≤ ms0) (d : decode cc pc = .ok (.invokestatic idx, 3))
    (kk : ∀ (v : Option Value) (σ' : zS), Post v σ' → V g κ nL (k + mc) (n + ms) σ' (pc + 3) lv (v.toList ++ rest)) : V g κ nL k n σ pc lv st := by
  refine V_run (rest := rest) (XP := zNo) (fun H locs ls hR hl => ?_) (fun _ _ h => False.elim h) kk
  obtain ⟨m1, m2, m3, m4⟩ := M
  obtain ⟨r1, r2, r3, r4⟩ := Hh
  refine vx_runSX (As := av) (Ts := zTBL) (hh := hh) (bytes := cc') (maxL := nL') (ret := ret) ⟨X.1, X.2.1, X.2.2.1, X.2.2.2.1, X.2.2.2.2.1⟩ hC ⟨⟨rfl, rfl, by show d' + 1 ≤ _; omega, by show 8 + (nL' + 11) + 40 * d' ≤ _; omega, pay_in X.2.2.2.2.1 (zGoodW m1), List.mem_cons_self⟩, zWord X m1, zWord X m2, ⟨m3.1, m3.2.1⟩, fun sig h => ?_, zWord X m4, zWord X hst⟩ (zPre X hR) rfl hav hl.1 hs (lv_room hw) d ⟨Nat.le_trans hc.1 r3, Nat.le_trans hc.2 r4⟩
  have h2 := m3.2.2
  rw [h] at h2
  exact (Option.some.inj h2).symm
theorem zCast (X : zX g κ own cc nL) {a b : String} (h : Cond.castable a b ∈ zNL) : (Cond.castable a b).before (za κ) (zs κ) = true := va_Nw.use (A := za κ) rfl (X.2.2.2.2.2.2.2.1 _ h)
theorem VX_c1 (X : zX g κ own cc nL) (x : ExceptionTableEntry) (suf : List ExceptionTableEntry) (ht : (zc κ).exceptionTable.toList = x :: suf) (hcov : covers x pc = true) (h0 : x.catchType ≠ 0) {nm : String} (hlink : Cond.classLink own x.catchType nm ∈ zTBL) (hcast : Cond.castable nm nm ∈ zNL) (kk : ∀ q : Nat, V g κ nL k n σ x.handlerPc lv [.ref q]) : VX g κ nL k n σ pc lv rest nm := by
  intro H locs ls q ce hR hL hl h1 h2 h3
  exact vx_catch X.2.2.2.1 [] x suf ht (fun z hz => absurd hz List.not_mem_nil) hcov h0 (zWord X hlink) (zCast X hcast) h1 h2 h3 (kk q H locs ls hR hL hl)
theorem VX_c2 (X : zX g κ own cc nL) (x y : ExceptionTableEntry) (suf : List ExceptionTableEntry) (ht : (zc κ).exceptionTable.toList = x :: y :: suf) (hcx : covers x pc = true) (hcy : covers y pc = true) (hx0 : x.catchType ≠ 0) (hy0 : y.catchType ≠ 0) {n1 n2 : String} (l1 : Cond.classLink own x.catchType n1 ∈ zTBL) (l2 : Cond.classLink own y.catchType n2 ∈ zTBL) (c1 : Cond.castable n1 n1 ∈ zNL) (c2 : Cond.castable n2 n2 ∈ zNL)
    (k1 : ∀ q : Nat, V g κ nL k n σ x.handlerPc lv [.ref q]) (k2 : ∀ q : Nat, V g κ nL k n σ y.handlerPc lv [.ref q]) : VX g κ nL k n σ pc lv rest n2 := by
  intro H locs ls q ce hR hL hl h1 h2 h3
  obtain ⟨b1, b2, hb1, hb2, -⟩ := Cond.castable_spec (zCast X c1)
  by_cases hasg : (zs κ).vm.assignable ce.cls b1 = true
  · refine vx_catch X.2.2.2.1 [] x (y :: suf) ht (fun z hz => absurd hz List.not_mem_nil) hcx hx0 (zWord X l1) ?_ h1 h2 h3 (k1 q H locs ls hR hL hl)
    simp [Cond.before, Cond.holds, Cond.value, h3, hb1, hasg]
  · refine vx_catch X.2.2.2.1 [x] y suf ht (fun z hz => ?_) hcy hy0 (zWord X l2) (zCast X c2) h1 h2 h3 (k2 q H locs ls hR hL hl)
    cases List.mem_singleton.mp hz
    exact Or.inr ⟨hx0, n1, zWord X l1, ce.cls, b1, h3, hb1, by simpa using hasg⟩
end LROWS
theorem zThr_mem {L : List (Prop × String)} {E : String} (h : zThr L E) : E ∈ L.map Prod.snd := by
  induction L with
  | nil => exact h.elim
  | cons a r ih =>
    rcases h with ⟨-, rfl⟩ | ⟨-, h⟩
    · exact List.mem_cons_self
    · exact List.mem_cons_of_mem _ (ih h)
def qW (g : zG) (X0 : Nat) (σb : Nat → Option va_E) (Oa : Nat) (R : Int32 → Int64 → (Nat → Nat → Int32) → Prop) : Option Value → zS → Prop := fun v σ' => ∃ x : Int32, v = some (.int x) ∧ ∃ (t' : Nat × Nat) (F' : Nat → Nat → Int32) (n' : Int64), σ' = (t', cW g X0 F' (zup σb Oa (.inr (10, [.long n'])))) ∧ R x n' F'
section LROWS2
variable {g : zG} {κ : zC} {own : String} {cc : ByteArray} {nL k n : Nat} {σ : zS} {pc : Nat} {lv : List (Nat × Value)} {rest st : List Value}
theorem zNcE (X : zX g κ own cc nL) : zNC (zs κ) := X.2.2.2.2.2.2.2.2.2.2.2.2.2.2.2.2
theorem VX_c3 (X : zX g κ own cc nL) (x y : ExceptionTableEntry) (suf : List ExceptionTableEntry) (ht : (zc κ).exceptionTable.toList = x :: y :: suf) (hcy : covers y pc = true) (hx0 : x.catchType ≠ 0) (hy0 : y.catchType ≠ 0) {n1 n2 : String} (l1 : Cond.classLink own x.catchType n1 ∈ zTBL) (l2 : Cond.classLink own y.catchType n2 ∈ zTBL) (hn : va_Nc n2 n1 (zs κ)) (c2 : Cond.castable n2 n2 ∈ zNL) (k2 : ∀ q : Nat, V g κ nL k n σ y.handlerPc lv [.ref q]) : VX g κ nL k n σ pc lv rest n2 := by
  intro H locs ls q ce hR hL hl h1 h2 h3
  refine vx_catch X.2.2.2.1 [x] y suf ht (fun z hz => ?_) hcy hy0 (zWord X l2) (zCast X c2) h1 h2 h3 (k2 q H locs ls hR hL hl)
  cases List.mem_singleton.mp hz
  exact Or.inr ⟨hx0, n1, zWord X l1, hn⟩
theorem V_lcmp (X : zX g κ own cc nL) {x y : Int64} (d : decode cc pc = .ok (.lcmp, 1)) (kk : V g κ nL k n σ (pc + 1) lv (.int (lg_cmp x y) :: rest)) : V g κ nL k n σ pc lv (.long y :: .long x :: rest) := fun H locs ls hR hL hl => W.lcmp X.1 X.2.1 d (kk H locs ls hR hL hl)
end LROWS2
theorem lc0 {x y : Int64} (h : x = y) : lg_cmp x y = 0 := by
  subst h
  simp [lg_cmp]
theorem zb_eq {b c v : Int32} (h : (b = 0 ∧ v = 0) ∨ (b = 1 ∧ ¬ v = 0)) (h' : (c = 0 ∧ v = 0) ∨ (c = 1 ∧ ¬ v = 0)) : b = c := by
  rcases h with ⟨rfl, e⟩ | ⟨rfl, e⟩ <;> rcases h' with ⟨rfl, e'⟩ | ⟨rfl, e'⟩
  · rfl
  · exact absurd e e'
  · exact absurd e' e
  · rfl
