/-! ===== the engine: a judgement V over an abstract store, its rows one an instruction, contracts Ct ===== -/
abbrev zG : Type := Launch × Heap × va_G × (Nat → ClassId)
abbrev zS : Type := (Nat × Nat) × (Nat → Option va_E)
/-- all slots of a heap -/
def hsl (H : Heap) : Nat := (H.toList.map (fun c => c.slots.size)).sum
abbrev zC : Type := Program × Env × Room × State × MethodId × Array Value × List Frame × Method × Code × (State → Prop)
abbrev zp (κ : zC) : Program := κ.1
abbrev ze (κ : zC) : Env := κ.2.1
abbrev zRm (κ : zC) : Room := κ.2.2.1
abbrev zs (κ : zC) : State := κ.2.2.2.1
abbrev zm (κ : zC) : MethodId := κ.2.2.2.2.1
abbrev za (κ : zC) : Array Value := κ.2.2.2.2.2.1
abbrev zb (κ : zC) : List Frame := κ.2.2.2.2.2.2.1
abbrev zme (κ : zC) : Method := κ.2.2.2.2.2.2.2.1
abbrev zc (κ : zC) : Code := κ.2.2.2.2.2.2.2.2.1
abbrev zQ (κ : zC) : State → Prop := κ.2.2.2.2.2.2.2.2.2
/-- the array classes: int[], boolean[], byte[], Object[], int[][] -/
def zTY (g : zG) : List (ClassId × FieldType) := [(g.2.2.2 0, .int), (g.2.2.2 1, .boolean), (g.2.2.2 2, .byte), (g.2.2.2 3, .object "java/lang/Object"), (g.2.2.2 4, .array .int)]
/-- the heap holds what the store says; what was there at the law's entry is as it was -/
def zR (g : zG) (σ : zS) (H : Heap) : Prop := (H.size = σ.1.1 ∧ hsl H = σ.1.2) ∧ g.2.1.size ≤ H.size ∧ (∀ q : Nat, q < g.2.1.size → H[q]? = g.2.1[q]?) ∧ ∀ (a : Nat) (e : va_E), σ.2 a = some e → va_at g.2.2.1 vwCl (a, e) H
def zup (f : Nat → Option va_E) (a : Nat) (e : va_E) : Nat → Option va_E := fun q => if q = a then some e else f q
theorem zup_eq {f : Nat → Option va_E} {a : Nat} {e : va_E} : zup f a e a = some e := if_pos rfl
theorem zup_ne {f : Nat → Option va_E} {a q : Nat} {e : va_E} (h : q ≠ a) : zup f a e q = f q := if_neg h
theorem hsl_same {H H1 : Heap} (hz : H1.size = H.size) (h : ∀ (q : Nat) (c c1 : Cell), H[q]? = some c → H1[q]? = some c1 → c1.slots.size = c.slots.size) : hsl H1 = hsl H := by
  unfold hsl
  congr 1
  apply List.ext_getElem?
  intro i
  simp only [List.getElem?_map, Array.getElem?_toList]
  cases h1 : H[i]? with
  | none =>
    have : H1[i]? = none := by rw [Array.getElem?_eq_none_iff] at h1 ⊢; omega
    rw [this]
  | some c =>
    have hl : i < H1.size := by rw [hz]; exact (Array.getElem?_eq_some_iff.mp h1).1
    rw [Array.getElem?_eq_getElem hl]
    simp only [Option.map_some, Option.some.injEq]
    exact h i c _ h1 (Array.getElem?_eq_getElem hl)
theorem hsl_push {H H1 : Heap} {c : Cell} (hz : H1.size = H.size + 1) (ho : ∀ q : Nat, q < H.size → H1[q]? = H[q]?) (hc : H1[H.size]? = some c) : hsl H1 = hsl H + c.slots.size := by
  have e : H1.toList = H.toList ++ [c] := by
    apply List.ext_getElem?
    intro i
    by_cases hi : i < H.size
    · rw [List.getElem?_append_left (by simpa using hi), Array.getElem?_toList, Array.getElem?_toList, ho i hi]
    · by_cases hi2 : i = H.size
      · subst hi2
        rw [Array.getElem?_toList, hc, List.getElem?_append_right (by simp)]
        simp
      · rw [Array.getElem?_toList, Array.getElem?_eq_none (by omega), List.getElem?_append_right (by simp; omega)]
        rw [List.getElem?_eq_none]
        simp
        omega
  unfold hsl
  rw [e]
  simp
theorem zR.put {g : zG} {σ : zS} {H H1 : Heap} {a : Nat} {e : va_E} {c c1 : Cell} (h : zR g σ H) (ha : g.2.1.size ≤ a) (hz : H1.size = H.size) (ho : ∀ q : Nat, q ≠ a → H1[q]? = H[q]?) (hc : H[a]? = some c) (hc1 : H1[a]? = some c1) (hs : c1.slots.size = c.slots.size) (hn : va_at g.2.2.1 vwCl (a, e) H1) : zR g (σ.1, zup σ.2 a e) H1 := by
  obtain ⟨h1, h2, h3, h4⟩ := h
  refine ⟨⟨hz.trans h1.1, (hsl_same hz fun q d d1 e1 e2 => ?_).trans h1.2⟩, by rw [hz]; exact h2, fun q hq => (ho q (by omega)).trans (h3 q hq), fun b e' hb => ?_⟩
  · by_cases hq : q = a
    · subst hq
      rw [hc] at e1; rw [hc1] at e2
      cases e1; cases e2
      exact hs
    · rw [ho q hq, e1] at e2
      cases e2
      rfl
  · by_cases hba : b = a
    · subst hba
      rw [show (σ.1, zup σ.2 b e).2 b = some e from zup_eq] at hb
      cases hb
      exact hn
    · exact (h4 b e' (by rw [← hb]; exact (zup_ne hba).symm)).kept (ho b hba)
theorem zR.push {g : zG} {σ : zS} {H H1 : Heap} {e : va_E} {c : Cell} (h : zR g σ H) (hz : H1.size = H.size + 1) (ho : ∀ q : Nat, q < H.size → H1[q]? = H[q]?) (hc : H1[H.size]? = some c) (hn : va_at g.2.2.1 vwCl (σ.1.1, e) H1) : zR g ((σ.1.1 + 1, σ.1.2 + c.slots.size), zup σ.2 σ.1.1 e) H1 := by
  obtain ⟨h1, h2, h3, h4⟩ := h
  refine ⟨⟨by rw [hz, h1.1], by rw [hsl_push hz ho hc, h1.2]⟩, by rw [hz]; omega, fun q hq => (ho q (by omega)).trans (h3 q hq), fun b e' hb => ?_⟩
  by_cases hba : b = σ.1.1
  · subst hba
    rw [show ((σ.1.1 + 1, σ.1.2 + c.slots.size), zup σ.2 σ.1.1 e).2 σ.1.1 = some e from zup_eq] at hb
    cases hb
    exact hn
  · have hb' : σ.2 b = some e' := by rw [← hb]; exact (zup_ne hba).symm
    have hv := h4 b e' hb'
    exact hv.kept (ho b hv.lt)
/-- the words that stand at every state that a warm table has seen -/
def zNst : Cond → Bool
  | .fieldLinkNest _ _ _ _ _ _ => true
  | .methodLinkNest _ _ _ _ => true
  | .castable _ _ => true
  | .declares _ => true
  | .privateMethod _ => true
  | _ => false
def zTBL : List Cond := lw_tbl.filter goodWord
def zNL : List Cond := lw_tbl.filter zNst
theorem zNst_warm {w : Cond} (hw : zNst w = true) {s U : State} (hW : s.WarmedH U.vm) (h : va_Nw w s) : va_Nw w U := by
  cases w <;> first | exact Bool.noConfusion (show false = true from hw) | exact va_Nw.warmF hW h | exact va_Nw.warmM hW h | exact va_Nw.warmC hW h | exact va_Nw.warmD hW h | exact Cond.privateMethod_warm hW h
def zA (g : zG) : Nat → Prop := fun q => g.2.1.size ≤ q
/-- the String constants: where they are; "none" whole -/
def zSt (g : zG) (U : State) : Prop := (∀ q ∈ zNone, ∃ adK adV : Nat → Nat, vk_S 1 [4] [[110, 111, 110, 101]] adK adV (zA g) U g.2.1 ∧ vk_R q.1 q.2 "none" (adK 0) U) ∧ ∀ q ∈ zStr, ∃ a : Nat, vk_R q.1 q.2.1 q.2.2 a U
theorem zSt.warm {g : zG} {s U : State} (hW : s.WarmedH U.vm) (h : zSt g s) : zSt g U := by
  refine ⟨fun q hq => ?_, fun q hq => ?_⟩
  · obtain ⟨k, v, h1, h2⟩ := h.1 q hq
    exact ⟨k, v, h1.moved hW.alike, h2.warm hW⟩
  · obtain ⟨a, h1⟩ := h.2 q hq
    exact ⟨a, h1.warm hW⟩
/-- arrays of int arrays can be made -/
def zAOA (U : State) : Prop := (Cond.arrayOver (.array .int)).before #[] U = true
theorem zidx_bare (vm : Vm) (comp : ClassId) : (vm.bare.classes.findIdx? fun (x : Class) => match x.kind with | .array component _ => component == comp | _ => false) = (vm.classes.findIdx? fun (x : Class) => match x.kind with | .array component _ => component == comp | _ => false) := by
  simp only [Vm.bare, Array.findIdx?_map]
  rfl
theorem zAOA.moved {u U : State} (hvm : u.vm.Alike U.vm) (h : zAOA u) : zAOA U := by
  obtain ⟨comp, c, k, h1, h2, h3, h4, h5⟩ := arrayOverA_spec h
  obtain ⟨k', hk', he⟩ := hvm.2.2 _ _ h3
  have hi : (U.vm.classes.findIdx? fun (x : Class) => match x.kind with | .array component _ => component == comp | _ => false) = some c := by
    rw [← zidx_bare]
    first | rw [hvm.bare_eq] | rw [← hvm.bare_eq]
    rw [zidx_bare]
    exact h2
  have hkind : k'.kind = .array comp (.array .int) := by rw [he]; exact h4
  have f1 : U.vm.findClass (FieldType.array .int).toString = some comp := by rw [hvm.findClass]; exact h1
  have f2 : U.vm.findClass ("[" ++ (FieldType.array .int).toString) = some c := by rw [hvm.findClass]; exact h5
  unfold zAOA Cond.before Cond.holds
  simp only [Cond.value]
  rw [f1, Option.bind_some]
  refine (congrArg (fun o : Option Nat => (o.bind (fun c => (U.vm.classes[c]?).map fun (k : Class) => match k.kind with | .array _ ty => decide (ty = FieldType.array .int) && decide (U.vm.findClass ("[" ++ (FieldType.array .int).toString) = some c) | _ => false) == some true)) hi).trans ?_
  simp [hk', hkind, f2]
/-- the empty array of the lists -/
def zEm (g : zG) : Nat := g.2.2.2 5
def zItH : MethodName := ⟨"java/util/Iterator", "hasNext", "()Z"⟩
def zItN : MethodName := ⟨"java/util/Iterator", "next", "()Ljava/lang/Object;"⟩
/-- which exceptions are not caught as which -/
def zNC (U : State) : Prop := va_Nc "java/lang/IllegalStateException" "java/lang/IllegalArgumentException" U ∧ va_Nc "java/lang/IllegalArgumentException" "java/lang/IndexOutOfBoundsException" U ∧ va_Nc "java/lang/IllegalStateException" "java/lang/IndexOutOfBoundsException" U
theorem zNC.moved {u U : State} (hvm : u.vm.Alike U.vm) (h : zNC u) : zNC U := ⟨h.1.moved hvm, h.2.1.moved hvm, h.2.2.moved hvm⟩
def zEx (g : zG) (U : State) : Prop := ((va_Fw RJx35411 zItH yJx35411_hasNext_aae02 U ∧ va_Fw RJx35411 zItN yJx35411_next_0502b U) ∧ vk_R RX5 229 "none" (g.2.2.2 6) U ∧ vk_R RX12 300 "none" (g.2.2.2 7) U) ∧ va_AO "java/lang/Object" U ∧ zAOA U ∧ va_Z "java/lang/String" "COMPACT_STRINGS" "Z" (.int 1) (zA g) U g.2.1 ∧ va_Z "java/util/ArrayList" "DEFAULTCAPACITY_EMPTY_ELEMENTDATA" "[Ljava/lang/Object;" (.ref (zEm g)) (zA g) U g.2.1 ∧ zNC U
theorem zEx.warm {g : zG} {s U : State} (hW : s.WarmedH U.vm) (h : zEx g s) : zEx g U := ⟨⟨⟨h.1.1.1.moved (by decide) hW.alike, h.1.1.2.moved (by decide) hW.alike⟩, h.1.2.1.warm hW, h.1.2.2.warm hW⟩, h.2.1.moved hW.alike, h.2.2.1.moved hW.alike, h.2.2.2.1.moved hW.alike, h.2.2.2.2.1.moved hW.alike, h.2.2.2.2.2.moved hW.alike⟩
/-- what of the machine's tables is taken along: classes, arrays, nest words, the two statics that a throw reads, String constants -/
def zKK (g : zG) (U : State) : Prop := va_K g.2.2.1 vwCl (zTY g) U ∧ (∀ w ∈ zNL, va_Nw w U) ∧ vx_Zq Bundle.tN "UNASSIGNED_STACK" Bundle.steD (zA g) U g.2.1 ∧ vx_Zq Bundle.tN "SUPPRESSED_SENTINEL" Bundle.listD (zA g) U g.2.1 ∧ zSt g U ∧ zEx g U
theorem zKK.warm {g : zG} {s U : State} (hW : s.WarmedH U.vm) (h : zKK g s) : zKK g U := by
  obtain ⟨h1, h2, h3, h4, h5, h6⟩ := h
  exact ⟨h1.moved hW.alike, fun w hw => zNst_warm (List.mem_filter.mp hw).2 hW (h2 w hw), h3.moved hW.alike, h4.moved hW.alike, h5.warm hW, h6.warm hW⟩
def zX (g : zG) (κ : zC) (own : String) (cc : ByteArray) (nL : Nat) : Prop := (zp κ).tables.exec = Jvm.exec ∧ (zc κ).code = cc ∧ (zc κ).maxLocals = nL ∧ (zs κ).vm.findClass own = some (zm κ).cls ∧ (∀ w ∈ zTBL, w.before (za κ) (zs κ) = true) ∧ (zme κ).locks = false ∧ zKK g (zs κ)
/-- THE JUDGEMENT: from the frame at pc, with these locals and this stack, over any heap that the store describes -/
def V (g : zG) (κ : zC) (nL k n : Nat) (σ : zS) (pc : Nat) (lv : List (Nat × Value)) (st : List Value) : Prop :=
  ∀ (H : Heap) (locs : List Loc) (ls : Array Slot), zR g σ H → (∀ q ∈ locs, g.2.1.size ≤ q.base) → lv_has ls nL lv → W (zp κ) g.1 (ze κ) (zRm κ) (zs κ) (zm κ) (za κ) (zb κ) (zme κ) (zc κ) H locs k n (zQ κ) (F0 (zm κ) pc ls st)
/-- a contract: called with these arguments in this store -/
def Ct (g : zG) (d : Nat) (y : MethodName) (cc : ByteArray) (nL : Nat) (ret : Option FieldType) (mc ms : Nat) (av : List Value) (σ : zS) (Post : Option Value → zS → Prop) (XP : String → zS → Prop) : Prop :=
  vx_Met g.1 y (.code y cc nL ret :: zTBL) { frames := d, cells := mc, slots := ms, locals := 40 * d } (va_Pc av (fun U => zR g σ U.heap ∧ zKK g U)) (fun _ _ o t => ∃ (v : Option Value) (σ' : zS), o = .returned v ∧ Post v σ' ∧ zR g σ' t.heap) (fun E _ t => ∃ σ' : zS, XP E σ' ∧ zR g σ' t.heap) mc ms (zA g)
/-- what a body knows of its own end -/
def zE (g : zG) (κ : zC) (d : Nat) (ret : Option FieldType) (mc ms : Nat) (Post : Option Value → zS → Prop) (XP : String → zS → Prop) : Prop :=
  (zme κ).sig.returnType = ret ∧ (zQ κ) = vx_MQ (zb κ) (fun _ _ o t => ∃ (v : Option Value) (σ' : zS), o = .returned v ∧ Post v σ' ∧ zR g σ' t.heap) (fun E _ t => ∃ σ' : zS, XP E σ' ∧ zR g σ' t.heap) (za κ) (zs κ) mc ms (zA g) ∧ (∀ x ∈ (zc κ).exceptionTable.toList, False) ∧ (zRm κ) = { frames := d, cells := mc, slots := ms, locals := 40 * d } ∧ (zs κ).heap.size ≥ g.2.1.size ∧ ∀ q : Nat, q < g.2.1.size → (zs κ).heap[q]? = g.2.1[q]?
/-- how large the heap was at the entry -/
def zB (κ : zC) (t0 : Nat × Nat) : Prop := (zs κ).heap.size = t0.1 ∧ hsl (zs κ).heap = t0.2
theorem Ct.of {g : zG} {d : Nat} {y : MethodName} {cc : ByteArray} {nL : Nat} {ret : Option FieldType} {mc ms : Nat} {av : List Value} {σ : zS} {Post : Option Value → zS → Prop} {XP : String → zS → Prop}
    (hy : plainName y.cls = true) (hlen : (lg_sl av).length ≤ nL) {lv : List (Nat × Value)} (hlv : lv_args 0 av = lv)
    (body : ∀ κ : zC, zX g κ y.cls cc nL → zE g κ d ret mc ms Post XP → zB κ σ.1 → ((zs κ).vm.method? (zm κ) = some (zme κ)) → V g κ nL 0 0 σ 0 lv []) : Ct g d y cc nL ret mc ms av σ Post XP := by
  refine vx_ofW (cc := cc) (maxL := nL) (ret := ret) (ws' := zTBL) hy rfl ?_
  intro p e s m args below meth c s₁ B hml ht hP
  obtain ⟨rfl, hR, hK⟩ := hP
  have hts := atoms_spec (ws := .code y cc nL ret :: zTBL) B.pre
  have hl := lv_entry av (n := nL) hlen
  rw [hlv] at hl
  have key := body (p, e, _, s, m, av.toArray, below, meth, c, vx_MQ below (fun _ _ o t => ∃ (v : Option Value) (σ' : zS), o = .returned v ∧ Post v σ' ∧ zR g σ' t.heap) (fun E _ t => ∃ σ' : zS, XP E σ' ∧ zR g σ' t.heap) av.toArray s mc ms (zA g))
    ⟨B.exec, B.bytes, hml, findClass_of_methodNamed B.named, fun w hw => hts w (List.mem_cons_of_mem _ hw), B.notSynchronized, hK⟩
    ⟨B.returns, rfl, ht, rfl, hR.2.1, hR.2.2.1⟩ hR.1 B.method
  have k2 := key s.heap [] _ hR (fun q h => absurd h List.not_mem_nil) hl
  rw [lg_entry_eq]
  exact k2
section ROWS
variable {g : zG} {κ : zC} {own : String} {cc : ByteArray} {nL k n : Nat} {σ : zS} {pc : Nat} {lv : List (Nat × Value)} {rest : List Value}
theorem V.sub {lv' : List (Nat × Value)} (ks : List Nat) (h : lv_pick lv ks = lv') (kk : V g κ nL k n σ pc lv' rest) : V g κ nL k n σ pc lv rest := fun H locs ls hR hL hl => kk H locs ls hR hL (lv_sub hl ks h)
theorem V.st {st : List Value} (h : rest = st) (kk : V g κ nL k n σ pc lv st) : V g κ nL k n σ pc lv rest := h ▸ kk
theorem V.so {σ' : zS} (h : σ = σ') (kk : V g κ nL k n σ' pc lv rest) : V g κ nL k n σ pc lv rest := h ▸ kk
theorem V.widen {k' n' : Nat} (h1 : k ≤ k') (h2 : n ≤ n') (kk : V g κ nL k' n' σ pc lv rest) : V g κ nL k n σ pc lv rest := fun H locs ls hR hL hl => W.widen h1 h2 (kk H locs ls hR hL hl)
/-- what was counted too much is given back -/
theorem V.shrink {t0 : Nat × Nat} (B : zB κ t0) (k' n' : Nat) (h1 : σ.1.1 ≤ t0.1 + k') (h2 : σ.1.2 ≤ t0.2 + n') (kk : V g κ nL k' n' σ pc lv rest) : V g κ nL k n σ pc lv rest := by
  intro H locs ls hR hL hl T hT S
  refine kk H locs ls hR hL hl T hT { S with same := ?_ }
  obtain ⟨a1, a2, a3, a4, a5, a6⟩ := S.same
  have e0 : (T.setVm (zs κ).vm).heap = H := hT
  rw [e0] at a2 a3 a4 a5 a6
  have hs : ((H.toList.drop (zs κ).heap.size).map (·.slots.size)).sum + hsl (zs κ).heap = hsl H := by
    have e1 : H.toList = H.toList.take (zs κ).heap.size ++ H.toList.drop (zs κ).heap.size := (List.take_append_drop _ _).symm
    have e2 : ((H.toList.take (zs κ).heap.size).map (·.slots.size)) = ((zs κ).heap.toList.map (·.slots.size)) := by
      apply List.ext_getElem?
      intro i
      rw [List.getElem?_map, List.getElem?_map]
      by_cases hi : i < (zs κ).heap.size
      · rw [List.getElem?_take, if_pos hi, Array.getElem?_toList, Array.getElem?_toList]
        obtain ⟨c', q1, q2, q3, q4⟩ := a6 i _ (Array.getElem?_eq_getElem hi)
        rw [q1, Array.getElem?_eq_getElem hi]
        simp [q3]
      · rw [List.getElem?_take, if_neg hi, Array.getElem?_toList, Array.getElem?_eq_none (by omega)]
    have e3 : hsl H = ((H.toList.take (zs κ).heap.size).map (·.slots.size)).sum + ((H.toList.drop (zs κ).heap.size).map (·.slots.size)).sum := by
      unfold hsl
      rw [← List.sum_append, ← List.map_append, List.take_append_drop]
    rw [e3, e2]
    unfold hsl
    omega
  obtain ⟨b1, b2⟩ := B
  obtain ⟨r1, r2⟩ := hR.1
  refine ⟨a1, by rw [e0]; exact a2, by rw [e0]; omega, by rw [e0]; exact a4, by rw [e0]; omega, by rw [e0]; exact a6⟩
theorem V.topi {x : Int32} (kk : ∀ y : Int32, y = x → V g κ nL k n σ pc lv (.int y :: rest)) : V g κ nL k n σ pc lv (.int x :: rest) := kk x rfl
theorem V_iconst (X : zX g κ own cc nL) {j : Int} {v : Int32} (d : decode cc pc = .ok (.iconst j, 1)) (hv : Int32.ofInt j = v) (kk : V g κ nL k n σ (pc + 1) lv (.int v :: rest)) : V g κ nL k n σ pc lv rest := fun H locs ls hR hL hl => lv_iconst X.1 X.2.1 d hv (kk H locs ls hR hL hl)
theorem V_bipush (X : zX g κ own cc nL) {j : Int} {v : Int32} (d : decode cc pc = .ok (.bipush j, 2)) (hv : (Int8.ofInt j).toInt32 = v) (kk : V g κ nL k n σ (pc + 2) lv (.int v :: rest)) : V g κ nL k n σ pc lv rest := fun H locs ls hR hL hl => lv_bipush X.1 X.2.1 d hv (kk H locs ls hR hL hl)
theorem V_sipush (X : zX g κ own cc nL) {j : Int} {v : Int32} (d : decode cc pc = .ok (.sipush j, 3)) (hv : (Int16.ofInt j).toInt32 = v) (kk : V g κ nL k n σ (pc + 3) lv (.int v :: rest)) : V g κ nL k n σ pc lv rest := fun H locs ls hR hL hl => lv_sipush X.1 X.2.1 d hv (kk H locs ls hR hL hl)
theorem V_iload_n (X : zX g κ own cc nL) {q : Fin 4} {x : Int32} (d : decode cc pc = .ok (.iload_n q, 1)) (j : Nat) (hj : lv[j]? = some ((q : Nat), .int x)) (kk : V g κ nL k n σ (pc + 1) lv (.int x :: rest)) : V g κ nL k n σ pc lv rest := fun H locs ls hR hL hl => lv_iload_n X.1 X.2.1 d rfl (lv_at hl j hj) (kk H locs ls hR hL hl)
theorem V_iload (X : zX g κ own cc nL) {i : Nat} {x : Int32} (d : decode cc pc = .ok (.iload i, 2)) (j : Nat) (hj : lv[j]? = some (i, .int x)) (kk : V g κ nL k n σ (pc + 2) lv (.int x :: rest)) : V g κ nL k n σ pc lv rest := fun H locs ls hR hL hl => lv_iload X.1 X.2.1 d (lv_at hl j hj) (kk H locs ls hR hL hl)
theorem V_aload_n (X : zX g κ own cc nL) {q : Fin 4} {x : Nat} (d : decode cc pc = .ok (.aload_n q, 1)) (j : Nat) (hj : lv[j]? = some ((q : Nat), .ref x)) (kk : V g κ nL k n σ (pc + 1) lv (.ref x :: rest)) : V g κ nL k n σ pc lv rest := fun H locs ls hR hL hl => lv_aload_n X.1 X.2.1 d rfl (lv_at hl j hj) (kk H locs ls hR hL hl)
theorem V_aload (X : zX g κ own cc nL) {i : Nat} {x : Nat} (d : decode cc pc = .ok (.aload i, 2)) (j : Nat) (hj : lv[j]? = some (i, .ref x)) (kk : V g κ nL k n σ (pc + 2) lv (.ref x :: rest)) : V g κ nL k n σ pc lv rest := fun H locs ls hR hL hl => lv_aload X.1 X.2.1 d (lv_at hl j hj) (kk H locs ls hR hL hl)
theorem V_lload_n (X : zX g κ own cc nL) {q : Fin 4} {x : Int64} (d : decode cc pc = .ok (.lload_n q, 1)) (j : Nat) (hj : lv[j]? = some ((q : Nat), .long x)) (kk : V g κ nL k n σ (pc + 1) lv (.long x :: rest)) : V g κ nL k n σ pc lv rest := fun H locs ls hR hL hl => lv_lload_n X.1 X.2.1 d rfl (lv_at hl j hj) (kk H locs ls hR hL hl)
theorem V_istore_n (X : zX g κ own cc nL) {q : Fin 4} {x : Int32} (lv' : List (Nat × Value)) (d : decode cc pc = .ok (.istore_n q, 1)) (hn : (q : Nat) < nL) (hv : ((q : Nat), Value.int x) :: lv.filter (fun r => !(r.1 == (q : Nat)) && !(r.1 + 1 == (q : Nat) && r.2.category == 2)) = lv') (kk : V g κ nL k n σ (pc + 1) lv' rest) : V g κ nL k n σ pc lv (.int x :: rest) := fun H locs ls hR hL hl => lv_istore_n X.1 X.2.1 d rfl hl hn hv fun ls' hl' => kk H locs ls' hR hL hl'
theorem V_istore (X : zX g κ own cc nL) {i : Nat} {x : Int32} (lv' : List (Nat × Value)) (d : decode cc pc = .ok (.istore i, 2)) (hn : i < nL) (hv : (i, Value.int x) :: lv.filter (fun r => !(r.1 == i) && !(r.1 + 1 == i && r.2.category == 2)) = lv') (kk : V g κ nL k n σ (pc + 2) lv' rest) : V g κ nL k n σ pc lv (.int x :: rest) := fun H locs ls hR hL hl => lv_istore X.1 X.2.1 d hl hn hv fun ls' hl' => kk H locs ls' hR hL hl'
theorem V_astore_n (X : zX g κ own cc nL) {q : Fin 4} {x : Nat} (lv' : List (Nat × Value)) (d : decode cc pc = .ok (.astore_n q, 1)) (hn : (q : Nat) < nL) (hv : ((q : Nat), Value.ref x) :: lv.filter (fun r => !(r.1 == (q : Nat)) && !(r.1 + 1 == (q : Nat) && r.2.category == 2)) = lv') (kk : V g κ nL k n σ (pc + 1) lv' rest) : V g κ nL k n σ pc lv (.ref x :: rest) := fun H locs ls hR hL hl => lv_astore_n X.1 X.2.1 d rfl hl hn hv fun ls' hl' => kk H locs ls' hR hL hl'
theorem V_astore (X : zX g κ own cc nL) {i : Nat} {x : Nat} (lv' : List (Nat × Value)) (d : decode cc pc = .ok (.astore i, 2)) (hn : i < nL) (hv : (i, Value.ref x) :: lv.filter (fun r => !(r.1 == i) && !(r.1 + 1 == i && r.2.category == 2)) = lv') (kk : V g κ nL k n σ (pc + 2) lv' rest) : V g κ nL k n σ pc lv (.ref x :: rest) := fun H locs ls hR hL hl => lv_astore X.1 X.2.1 d hl hn hv fun ls' hl' => kk H locs ls' hR hL hl'
theorem V_lstore_n (X : zX g κ own cc nL) {q : Fin 4} {x : Int64} (lv' : List (Nat × Value)) (d : decode cc pc = .ok (.lstore_n q, 1)) (hn : (q : Nat) + 1 < nL) (hv : ((q : Nat), Value.long x) :: lv.filter (fun r => !(r.1 == (q : Nat)) && (!(r.1 == (q : Nat) + 1) && !(r.1 + 1 == (q : Nat) && r.2.category == 2))) = lv') (kk : V g κ nL k n σ (pc + 1) lv' rest) : V g κ nL k n σ pc lv (.long x :: rest) := fun H locs ls hR hL hl => lv_lstore_n X.1 X.2.1 d rfl hl hn hv fun ls' hl' => kk H locs ls' hR hL hl'
theorem V_iinc (X : zX g κ own cc nL) {i : Nat} {j : Int} {x : Int32} (v : Int32) (lv' : List (Nat × Value)) (d : decode cc pc = .ok (.iinc i j, 3)) (q : Nat) (hq : lv[q]? = some (i, .int x)) (hv : x + Int32.ofInt j = v) (hn : i < nL) (hl' : (i, Value.int v) :: lv.filter (fun r => !(r.1 == i) && !(r.1 + 1 == i && r.2.category == 2)) = lv') (kk : V g κ nL k n σ (pc + 3) lv' rest) : V g κ nL k n σ pc lv rest := fun H locs ls hR hL hl => lv_iinc X.1 X.2.1 d hl hq hv hn hl' fun ls' hl' => kk H locs ls' hR hL hl'
theorem V_dup (X : zX g κ own cc nL) {va : Value} (d : decode cc pc = .ok (.dup, 1)) (hc : va.category = 1) (kk : V g κ nL k n σ (pc + 1) lv (va :: va :: rest)) : V g κ nL k n σ pc lv (va :: rest) := fun H locs ls hR hL hl => lv_dup X.1 X.2.1 d hc (kk H locs ls hR hL hl)
theorem V_pop (X : zX g κ own cc nL) {va : Value} (d : decode cc pc = .ok (.pop, 1)) (hc : va.category = 1) (kk : V g κ nL k n σ (pc + 1) lv rest) : V g κ nL k n σ pc lv (va :: rest) := fun H locs ls hR hL hl => lv_pop X.1 X.2.1 d hc (kk H locs ls hR hL hl)
theorem V_iadd (X : zX g κ own cc nL) {x y : Int32} (d : decode cc pc = .ok (.iadd, 1)) (kk : V g κ nL k n σ (pc + 1) lv (.int (x + y) :: rest)) : V g κ nL k n σ pc lv (.int y :: .int x :: rest) := fun H locs ls hR hL hl => lv_iadd X.1 X.2.1 d (kk H locs ls hR hL hl)
theorem V_isub (X : zX g κ own cc nL) {x y : Int32} (d : decode cc pc = .ok (.isub, 1)) (kk : V g κ nL k n σ (pc + 1) lv (.int (x - y) :: rest)) : V g κ nL k n σ pc lv (.int y :: .int x :: rest) := fun H locs ls hR hL hl => lv_isub X.1 X.2.1 d (kk H locs ls hR hL hl)
theorem V_imul (X : zX g κ own cc nL) {x y : Int32} (d : decode cc pc = .ok (.imul, 1)) (kk : V g κ nL k n σ (pc + 1) lv (.int (x * y) :: rest)) : V g κ nL k n σ pc lv (.int y :: .int x :: rest) := fun H locs ls hR hL hl => lv_imul X.1 X.2.1 d (kk H locs ls hR hL hl)
theorem V_iand (X : zX g κ own cc nL) {x y : Int32} (d : decode cc pc = .ok (.iand, 1)) (kk : V g κ nL k n σ (pc + 1) lv (.int (x &&& y) :: rest)) : V g κ nL k n σ pc lv (.int y :: .int x :: rest) := fun H locs ls hR hL hl => lv_iand X.1 X.2.1 d (kk H locs ls hR hL hl)
theorem V_ior (X : zX g κ own cc nL) {x y : Int32} (d : decode cc pc = .ok (.ior, 1)) (kk : V g κ nL k n σ (pc + 1) lv (.int (x ||| y) :: rest)) : V g κ nL k n σ pc lv (.int y :: .int x :: rest) := fun H locs ls hR hL hl => lv_ior X.1 X.2.1 d (kk H locs ls hR hL hl)
theorem V_ixor (X : zX g κ own cc nL) {x y : Int32} (d : decode cc pc = .ok (.ixor, 1)) (kk : V g κ nL k n σ (pc + 1) lv (.int (x ^^^ y) :: rest)) : V g κ nL k n σ pc lv (.int y :: .int x :: rest) := fun H locs ls hR hL hl => lv_ixor X.1 X.2.1 d (kk H locs ls hR hL hl)
theorem V_ishl (X : zX g κ own cc nL) {x y : Int32} (d : decode cc pc = .ok (.ishl, 1)) (kk : V g κ nL k n σ (pc + 1) lv (.int (x <<< (y &&& 31)) :: rest)) : V g κ nL k n σ pc lv (.int y :: .int x :: rest) := fun H locs ls hR hL hl => lv_ishl X.1 X.2.1 d (kk H locs ls hR hL hl)
theorem V_ishr (X : zX g κ own cc nL) {x y : Int32} (d : decode cc pc = .ok (.ishr, 1)) (kk : V g κ nL k n σ (pc + 1) lv (.int (x >>> (y &&& 31)) :: rest)) : V g κ nL k n σ pc lv (.int y :: .int x :: rest) := fun H locs ls hR hL hl => lv_ishr X.1 X.2.1 d (kk H locs ls hR hL hl)
theorem V_idiv (X : zX g κ own cc nL) {x y : Int32} (hne : ¬ y = 0) (d : decode cc pc = .ok (.idiv, 1)) (kk : V g κ nL k n σ (pc + 1) lv (.int (x / y) :: rest)) : V g κ nL k n σ pc lv (.int y :: .int x :: rest) := fun H locs ls hR hL hl => lv_idiv X.1 X.2.1 d hne (kk H locs ls hR hL hl)
theorem V_irem (X : zX g κ own cc nL) {x y : Int32} (hne : ¬ y = 0) (d : decode cc pc = .ok (.irem, 1)) (kk : V g κ nL k n σ (pc + 1) lv (.int (x - x / y * y) :: rest)) : V g κ nL k n σ pc lv (.int y :: .int x :: rest) := fun H locs ls hR hL hl => lv_irem X.1 X.2.1 d hne (kk H locs ls hR hL hl)
theorem V_i2l (X : zX g κ own cc nL) {x : Int32} (d : decode cc pc = .ok (.i2l, 1)) (kk : V g κ nL k n σ (pc + 1) lv (.long x.toInt64 :: rest)) : V g κ nL k n σ pc lv (.int x :: rest) := fun H locs ls hR hL hl => lv_i2l X.1 X.2.1 d rfl (kk H locs ls hR hL hl)
theorem V_i2c (X : zX g κ own cc nL) {x : Int32} (d : decode cc pc = .ok (.i2c, 1)) (kk : V g κ nL k n σ (pc + 1) lv (.int (x.toUInt32 % 65536).toInt32 :: rest)) : V g κ nL k n σ pc lv (.int x :: rest) := fun H locs ls hR hL hl => lv_i2c X.1 X.2.1 d rfl (kk H locs ls hR hL hl)
theorem V_lmul (X : zX g κ own cc nL) {x y : Int64} (d : decode cc pc = .ok (.lmul, 1)) (kk : V g κ nL k n σ (pc + 1) lv (.long (x * y) :: rest)) : V g κ nL k n σ pc lv (.long y :: .long x :: rest) := fun H locs ls hR hL hl => lv_lmul X.1 X.2.1 d (kk H locs ls hR hL hl)
theorem V_ladd (X : zX g κ own cc nL) {x y : Int64} (d : decode cc pc = .ok (.ladd, 1)) (kk : V g κ nL k n σ (pc + 1) lv (.long (x + y) :: rest)) : V g κ nL k n σ pc lv (.long y :: .long x :: rest) := fun H locs ls hR hL hl => lv_ladd X.1 X.2.1 d (kk H locs ls hR hL hl)
theorem V_goto (X : zX g κ own cc nL) {off : Int} {tgt : Nat} (d : decode cc pc = .ok (.goto off, 3)) (ht : (pc : Int) + off = (tgt : Int)) (kk : V g κ nL k n σ tgt lv rest) : V g κ nL k n σ pc lv rest := fun H locs ls hR hL hl => lv_goto X.1 X.2.1 d ht (kk H locs ls hR hL hl)
theorem V_ifeq (X : zX g κ own cc nL) {x : Int32} {off : Int} {tgt : Nat} (d : decode cc pc = .ok (.ifCond .eq off, 3)) (ht : (pc : Int) + off = (tgt : Int)) (kt : x = 0 → V g κ nL k n σ tgt lv rest) (kf : ¬ x = 0 → V g κ nL k n σ (pc + 3) lv rest) : V g κ nL k n σ pc lv (.int x :: rest) := fun H locs ls hR hL hl => lv_if_eq X.1 X.2.1 d ht (fun h => kt h H locs ls hR hL hl) (fun h => kf h H locs ls hR hL hl)
theorem V_ifne (X : zX g κ own cc nL) {x : Int32} {off : Int} {tgt : Nat} (d : decode cc pc = .ok (.ifCond .ne off, 3)) (ht : (pc : Int) + off = (tgt : Int)) (kt : ¬ x = 0 → V g κ nL k n σ tgt lv rest) (kf : x = 0 → V g κ nL k n σ (pc + 3) lv rest) : V g κ nL k n σ pc lv (.int x :: rest) := fun H locs ls hR hL hl => lv_if_ne X.1 X.2.1 d ht (fun h => kt h H locs ls hR hL hl) (fun h => kf h H locs ls hR hL hl)
theorem V_iflt (X : zX g κ own cc nL) {x : Int32} {off : Int} {tgt : Nat} (d : decode cc pc = .ok (.ifCond .lt off, 3)) (ht : (pc : Int) + off = (tgt : Int)) (kt : x < 0 → V g κ nL k n σ tgt lv rest) (kf : ¬ x < 0 → V g κ nL k n σ (pc + 3) lv rest) : V g κ nL k n σ pc lv (.int x :: rest) := fun H locs ls hR hL hl => lv_if_lt X.1 X.2.1 d ht (fun h => kt h H locs ls hR hL hl) (fun h => kf h H locs ls hR hL hl)
theorem V_ifge (X : zX g κ own cc nL) {x : Int32} {off : Int} {tgt : Nat} (d : decode cc pc = .ok (.ifCond .ge off, 3)) (ht : (pc : Int) + off = (tgt : Int)) (kt : 0 ≤ x → V g κ nL k n σ tgt lv rest) (kf : ¬ 0 ≤ x → V g κ nL k n σ (pc + 3) lv rest) : V g κ nL k n σ pc lv (.int x :: rest) := fun H locs ls hR hL hl => lv_if_ge X.1 X.2.1 d ht (fun h => kt h H locs ls hR hL hl) (fun h => kf h H locs ls hR hL hl)
theorem V_ifgt (X : zX g κ own cc nL) {x : Int32} {off : Int} {tgt : Nat} (d : decode cc pc = .ok (.ifCond .gt off, 3)) (ht : (pc : Int) + off = (tgt : Int)) (kt : 0 < x → V g κ nL k n σ tgt lv rest) (kf : ¬ 0 < x → V g κ nL k n σ (pc + 3) lv rest) : V g κ nL k n σ pc lv (.int x :: rest) := fun H locs ls hR hL hl => lv_if_gt X.1 X.2.1 d ht (fun h => kt h H locs ls hR hL hl) (fun h => kf h H locs ls hR hL hl)
theorem V_ifle (X : zX g κ own cc nL) {x : Int32} {off : Int} {tgt : Nat} (d : decode cc pc = .ok (.ifCond .le off, 3)) (ht : (pc : Int) + off = (tgt : Int)) (kt : x ≤ 0 → V g κ nL k n σ tgt lv rest) (kf : ¬ x ≤ 0 → V g κ nL k n σ (pc + 3) lv rest) : V g κ nL k n σ pc lv (.int x :: rest) := fun H locs ls hR hL hl => lv_if_le X.1 X.2.1 d ht (fun h => kt h H locs ls hR hL hl) (fun h => kf h H locs ls hR hL hl)
theorem V_icmpeq (X : zX g κ own cc nL) {x y : Int32} {off : Int} {tgt : Nat} (d : decode cc pc = .ok (.if_icmp .eq off, 3)) (ht : (pc : Int) + off = (tgt : Int)) (kt : x = y → V g κ nL k n σ tgt lv rest) (kf : ¬ x = y → V g κ nL k n σ (pc + 3) lv rest) : V g κ nL k n σ pc lv (.int y :: .int x :: rest) := fun H locs ls hR hL hl => lv_icmp_eq X.1 X.2.1 d ht (fun h => kt h H locs ls hR hL hl) (fun h => kf h H locs ls hR hL hl)
theorem V_icmpne (X : zX g κ own cc nL) {x y : Int32} {off : Int} {tgt : Nat} (d : decode cc pc = .ok (.if_icmp .ne off, 3)) (ht : (pc : Int) + off = (tgt : Int)) (kt : ¬ x = y → V g κ nL k n σ tgt lv rest) (kf : x = y → V g κ nL k n σ (pc + 3) lv rest) : V g κ nL k n σ pc lv (.int y :: .int x :: rest) := fun H locs ls hR hL hl => lv_icmp_ne X.1 X.2.1 d ht (fun h => kt h H locs ls hR hL hl) (fun h => kf h H locs ls hR hL hl)
theorem V_icmplt (X : zX g κ own cc nL) {x y : Int32} {off : Int} {tgt : Nat} (d : decode cc pc = .ok (.if_icmp .lt off, 3)) (ht : (pc : Int) + off = (tgt : Int)) (kt : x < y → V g κ nL k n σ tgt lv rest) (kf : ¬ x < y → V g κ nL k n σ (pc + 3) lv rest) : V g κ nL k n σ pc lv (.int y :: .int x :: rest) := fun H locs ls hR hL hl => lv_icmp_lt X.1 X.2.1 d ht (fun h => kt h H locs ls hR hL hl) (fun h => kf h H locs ls hR hL hl)
theorem V_icmpge (X : zX g κ own cc nL) {x y : Int32} {off : Int} {tgt : Nat} (d : decode cc pc = .ok (.if_icmp .ge off, 3)) (ht : (pc : Int) + off = (tgt : Int)) (kt : y ≤ x → V g κ nL k n σ tgt lv rest) (kf : ¬ y ≤ x → V g κ nL k n σ (pc + 3) lv rest) : V g κ nL k n σ pc lv (.int y :: .int x :: rest) := fun H locs ls hR hL hl => lv_icmp_ge X.1 X.2.1 d ht (fun h => kt h H locs ls hR hL hl) (fun h => kf h H locs ls hR hL hl)
theorem V_icmpgt (X : zX g κ own cc nL) {x y : Int32} {off : Int} {tgt : Nat} (d : decode cc pc = .ok (.if_icmp .gt off, 3)) (ht : (pc : Int) + off = (tgt : Int)) (kt : y < x → V g κ nL k n σ tgt lv rest) (kf : ¬ y < x → V g κ nL k n σ (pc + 3) lv rest) : V g κ nL k n σ pc lv (.int y :: .int x :: rest) := fun H locs ls hR hL hl => lv_icmp_gt X.1 X.2.1 d ht (fun h => kt h H locs ls hR hL hl) (fun h => kf h H locs ls hR hL hl)
theorem V_icmple (X : zX g κ own cc nL) {x y : Int32} {off : Int} {tgt : Nat} (d : decode cc pc = .ok (.if_icmp .le off, 3)) (ht : (pc : Int) + off = (tgt : Int)) (kt : x ≤ y → V g κ nL k n σ tgt lv rest) (kf : ¬ x ≤ y → V g κ nL k n σ (pc + 3) lv rest) : V g κ nL k n σ pc lv (.int y :: .int x :: rest) := fun H locs ls hR hL hl => lv_icmp_le X.1 X.2.1 d ht (fun h => kt h H locs ls hR hL hl) (fun h => kf h H locs ls hR hL hl)
end ROWS
