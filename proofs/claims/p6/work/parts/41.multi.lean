/-! ===== an array of 32 int arrays of 5 ints, made at once ===== -/
def zoF (T i : Nat) : Nat → Option Nat := fun j => if j < i then some (T + 1 + j) else none
def zoC (cA : ClassId) (T i : Nat) : Cell := vp_cell cA (32, .inr (.inr (.inr (.inr (zoF T i)))))
def ziC (cB : ClassId) : Cell := vp_cell cB (5, .inl (fun _ => 0))
theorem zoC_0 (cA : ClassId) (T : Nat) : ({ cls := cA, slots := Array.replicate 32 .null, vm := .none } : Cell) = zoC cA T 0 := by
  unfold zoC
  rw [vp_cell_q, arrV_new]
  congr 1
theorem ziC_0 (cB : ClassId) : ({ cls := cB, slots := Array.replicate 5 (.int 0), vm := .none } : Cell) = ziC cB := by
  unfold ziC
  rw [vp_cell_i, arrV_new]
theorem zoC_s (cA : ClassId) (T i : Nat) : (zoC cA T i).setSlot i (.ref (T + 1 + i)) = zoC cA T (i + 1) := by
  unfold zoC
  rw [vp_cell_q, vp_cell_q, arrV_store]
  congr 1
  funext j
  by_cases h : j = i
  · subst h
    simp [updV, zoF, va_rf]
  · by_cases h2 : j < i
    · simp [updV, zoF, va_rf, h, h2, show j < i + 1 by omega]
    · simp [updV, zoF, va_rf, h, h2, show ¬ j < i + 1 by omega]
theorem zoC_f (cA : ClassId) (T i : Nat) : (zoC cA T i).cls = cA ∧ (zoC cA T i).vm = .none ∧ (zoC cA T i).slots.size = 32 := ⟨rfl, rfl, by unfold zoC; rw [vp_cell_q, arrV_size]⟩
theorem ziC_f (cB : ClassId) : (ziC cB).slots.size = 5 := by unfold ziC; rw [vp_cell_i, arrV_size]
/-- i of the rows made -/
def zmf (s : State) (cA cB : ClassId) : Nat → State
  | 0 => s.pushCell (zoC cA s.heap.size 0)
  | i + 1 => ((zmf s cA cB i).pushCell (ziC cB)).setCell s.heap.size (zoC cA s.heap.size (i + 1))
theorem zmf_f (s : State) (cA cB : ClassId) (i : Nat) : (zmf s cA cB i).heap.size = s.heap.size + 1 + i ∧ (zmf s cA cB i).heap[s.heap.size]? = some (zoC cA s.heap.size i) ∧ (zmf s cA cB i).vm = s.vm ∧ (zmf s cA cB i).slotsUsed = s.slotsUsed + 32 + 5 * i := by
  induction i with
  | zero => exact ⟨by simp [zmf], by simp [zmf], rfl, by simp [zmf, (zoC_f cA s.heap.size 0).2.2]⟩
  | succ i ih =>
    obtain ⟨a, b, d, u⟩ := ih
    have hlt : s.heap.size < (zmf s cA cB i).heap.size := by omega
    have hb : ((zmf s cA cB i).pushCell (ziC cB)).heap[s.heap.size]? = some (zoC cA s.heap.size i) := by rw [State.heap_pushCell_of_lt (h := hlt)]; exact b
    refine ⟨?_, State.heap_setCell_self hb, d, ?_⟩
    · show (((zmf s cA cB i).heap.push (ziC cB)).setIfInBounds _ _).size = _
      simp [a]
      omega
    · show (zmf s cA cB i).slotsUsed + (ziC cB).slots.size = _
      rw [ziC_f, u]
      omega
theorem zmf_top (s : State) (f : JFrame) (cA cB : ClassId) (i : Nat) : zmf (s.setTop f) cA cB i = (zmf s cA cB i).setTop f := by
  induction i with
  | zero => rfl
  | succ i ih => simp only [zmf, ih, State.heap_setTop, State.pushCell_setTop, State.setCell_setTop]
section MWP
variable {E : CtlPost} {e : Env} {d : Bool} {acts : List Action} {s : State}
theorem znewArr {c comp : ClassId} {k : Class} {type : FieldType} {len : Nat} {init : Value} {x : Cell} (hx : ({ cls := c, slots := Array.replicate len init, vm := .none } : Cell) = x) (hk : s.vm.classes[c]? = some k) (hkind : k.kind = .array comp type)
    (hlimit : ¬ len > e.platform.arrayLengthLimit) (hheap : ¬ len * componentBytes type > e.platform.maxHeapBytes) (hfit : fits type init = true) (hdef : init.isDefault = true) {Q : Addr → Pre}
    (h1 : s.heap.size < e.platform.maxCells) (h2 : s.slotsUsed + len ≤ e.platform.maxSlots) (hq : Q s.heap.size d acts (s.pushCell x)) : wp (Jvm.newArray c len init) Q E e d acts s := by
  subst hx
  have hfits : ∀ i v, (Array.replicate len init)[i]? = some v → s.fitsSlot c .none i v = true := by
    intro i v hv
    simp only [Array.getElem?_replicate] at hv
    split at hv
    · cases hv; simp [State.fitsSlot, State.slotType?, hk, hkind, hfit]
    · cases hv
  have hda : allocActs (Array.replicate len init) s.heap.size acts = acts := by
    have hall : ((Array.replicate len init).all (·.isDefault)) = true := by
      rw [Array.all_replicate]; split <;> simp [hdef]
    unfold allocActs; rw [if_pos hall]
  simp only [Jvm.newArray, Jvm.arrayFits, wp_bind', W.ask, W.ite, hlimit, if_false, wp_pure', W.theClass, hk, hkind, hheap, W.alloc, W.stop, Option.some.injEq, exists_eq_left', Array.size_replicate, hda]
  rw [if_neg (by omega)]
  exact ⟨h1, h2, hfits, hq⟩
theorem zmake1 {cB cc : ClassId} {kC : Class} (hkc : s.vm.classes[cB]? = some kC) (hkindc : kC.kind = .array cc .int) (hl : ¬ 5 > e.platform.arrayLengthLimit) (hh : ¬ 5 * componentBytes .int > e.platform.maxHeapBytes)
    (h1 : s.heap.size < e.platform.maxCells) (h2 : s.slotsUsed + 5 ≤ e.platform.maxSlots) {Q : Addr → Pre} (hq : Q s.heap.size d acts (s.pushCell (ziC cB))) : wp (multianewarray.make cB [nI 5]) Q E e d acts s := by
  rw [multianewarray.make]
  have hn : ¬ nI 5 < 0 := nI_pos (by decide)
  simp only [wp_bind', W.ite, hn, if_false, wp_pure', W.theClass, hkc, hkindc, Option.some.injEq, exists_eq_left']
  rw [show (nI 5).toNatClampNeg = 5 from nI_clamp (by decide)]
  exact znewArr (ziC_0 cB) hkc hkindc hl hh rfl rfl h1 h2 hq
theorem zmake2 {cA cB cc : ClassId} {kA kC : Class} (hk : s.vm.classes[cA]? = some kA) (hkind : kA.kind = .array cB (.array .int)) (hkc : s.vm.classes[cB]? = some kC) (hkindc : kC.kind = .array cc .int)
    (hl1 : ¬ 32 > e.platform.arrayLengthLimit) (hh1 : ¬ 32 * componentBytes (.array .int) > e.platform.maxHeapBytes) (hl : ¬ 5 > e.platform.arrayLengthLimit) (hh : ¬ 5 * componentBytes .int > e.platform.maxHeapBytes)
    (hc : s.heap.size + 33 ≤ e.platform.maxCells) (hs : s.slotsUsed + 192 ≤ e.platform.maxSlots) {Q : Addr → Pre} (hq : ∀ d' acts', Q s.heap.size d' acts' (zmf s cA cB 32)) : wp (multianewarray.make cA [nI 32, nI 5]) Q E e d acts s := by
  have hn : ¬ nI 32 < 0 := nI_pos (by decide)
  have hm : ¬ nI 5 < 0 := nI_pos (by decide)
  have hfind : ([nI 5].find? (· < 0)) = none := by simp [hm]
  rw [multianewarray.make]
  simp only [wp_bind', W.ite, hn, if_false, wp_pure', W.theClass, hk, hkind, Option.some.injEq, exists_eq_left']
  rw [show (nI 32).toNatClampNeg = 32 from nI_clamp (by decide)]
  refine znewArr (zoC_0 cA s.heap.size) hk hkind hl1 hh1 rfl rfl (by omega) (by omega) ?_
  simp only [hfind]
  rw [ite_self, wp_bind', Std.Legacy.Range.forIn_eq_forIn_range']
  have hsz : ([:32] : Std.Legacy.Range).size = 32 := by simp [Std.Legacy.Range.size]
  rw [hsz]
  show wp (forIn (List.range' 0 32 1) PUnit.unit _) _ E e d acts _
  refine wp_forIn_inv (fun rest s' => ∃ i, i ≤ 32 ∧ rest = List.range' i (32 - i) ∧ s' = zmf s cA cB i) _ _ ⟨0, Nat.zero_le _, rfl, rfl⟩ ?_ ?_
  · rintro x rest s' d' acts' Q' ⟨i, hi, hl', rfl⟩ hnext
    have hlt : i < 32 := Nat.not_le.mp fun h => by
      rw [show 32 - i = 0 from by omega] at hl'
      simp at hl'
    rw [show 32 - i = (32 - (i + 1)) + 1 from by omega, List.range'_succ] at hl'
    obtain ⟨e1, e2⟩ := List.cons.inj hl'
    subst e1
    obtain ⟨f1, f2, f3, f4⟩ := zmf_f s cA cB x
    obtain ⟨o1, o2, o3⟩ := zoC_f cA s.heap.size x
    simp only [wp_bind']
    refine zmake1 (by rw [f3]; exact hkc) hkindc hl hh (by rw [f1]; omega) (by rw [f4]; omega) ?_
    have hlt0 : s.heap.size < (zmf s cA cB x).heap.size := by rw [f1]; omega
    simp only [wp_bind', W.writeLoc, wp_pure']
    refine ⟨zoC cA s.heap.size x, by rw [State.heap_pushCell_of_lt (h := hlt0)]; exact f2, by rw [o2]; simp, by rw [o3]; exact hlt, ?_, hnext _ _ _ ⟨x + 1, hlt, e2, ?_⟩⟩
    · rw [o1, o2]
      simp [State.fitsSlot, State.slotType?, f3, hk, hkind, fits]
    · rw [f1, zoC_s]
      rfl
  · rintro s' d' acts' ⟨i, hi, hl', rfl⟩
    have hiN : i = 32 := by
      rcases Nat.lt_or_ge i 32 with h | h
      · rw [show 32 - i = (32 - (i + 1)) + 1 from by omega, List.range'_succ] at hl'
        cases hl'
      · omega
    subst hiN
    simp only [wp_pure']
    exact hq _ _
end MWP
section MST
variable {p : Program} {l : Launch} {e : Env} {R : Room} {s : State} {m : MethodId} {args : Array Value} {below : List Frame} {meth : Method} {c : Code} {T : State} {locs : List Loc} {cells slots : Nat}
theorem zmf_stand (X : Stand p l e R s m args below meth c T locs cells slots) (cA cB : ClassId) (i : Nat) : Stand p l e R s m args below meth c (zmf T cA cB i) (locs ++ (List.range i).map fun j => ⟨T.heap.size, j⟩) (cells + 1 + i) (slots + 32 + 5 * i) := by
  induction i with
  | zero =>
    have h := X.pushed (zoC cA T.heap.size 0)
    rw [(zoC_f cA T.heap.size 0).2.2] at h
    simpa [zmf] using h
  | succ i ih =>
    obtain ⟨f1, f2, f3, f4⟩ := zmf_f T cA cB i
    have hlt0 : T.heap.size < (zmf T cA cB i).heap.size := by rw [f1]; omega
    have hcell : ((zmf T cA cB i).pushCell (ziC cB)).heap[T.heap.size]? = some (zoC cA T.heap.size i) := by rw [State.heap_pushCell_of_lt (h := hlt0)]; exact f2
    have h := (ih.pushed (ziC cB)).stored hcell i (.ref (T.heap.size + 1 + i))
    rw [ziC_f, zoC_s] at h
    have e2 : (locs ++ (List.range (i + 1)).map fun j => (⟨T.heap.size, j⟩ : Loc)) = (locs ++ (List.range i).map fun j => (⟨T.heap.size, j⟩ : Loc)) ++ [⟨T.heap.size, i⟩] := by simp [List.range_succ, List.append_assoc]
    rw [e2, show slots + 32 + 5 * (i + 1) = slots + 32 + 5 * i + 5 by omega]
    exact h
theorem zmulti (X : Stand p l e R s m args below meth c T locs cells slots) (hexec : p.tables.exec = Jvm.exec) {own : String} {index : Nat} (hown : s.vm.findClass own = some m.cls) (hclink : (Cond.classLink own index "[[I").before args s = true)
    (hover : (Cond.arrayOver (.array .int)).before #[] s = true) (harr : (Cond.arrayClass .int).before args s = true) {g : JFrame} (hg : g.method = m) (hdg : decode c.code g.pc = .ok (.multianewarray index 2, 4)) {rest : List Value} (hstack : g.stack = .int (nI 5) :: .int (nI 32) :: rest)
    (hcells : cells + 33 ≤ R.cells) (hslots : slots + 192 ≤ R.slots) :
    ∃ (vm₁ : Vm) (cA cB : ClassId), s.vm.findClass ("[" ++ (FieldType.array .int).toString) = some cA ∧ s.vm.findClass (FieldType.array .int).toString = some cB ∧
      Stand p l e R s m args below meth c (zmf (T.setVm vm₁) cA cB 32) (locs ++ (List.range 32).map fun j => ⟨T.heap.size, j⟩) (cells + 33) (slots + 192) ∧
      ∀ tg, Steps p.tables e below ((zmf (T.setVm vm₁) cA cB 32).setTop { g with pc := g.pc + 4, stack := .ref T.heap.size :: rest }) tg → Steps p.tables e below (T.setTop g) tg := by
  subst hg
  have hpl : e.platform.magicAccessors = ({} : Platform).magicAccessors := by rw [X.admits.platform]
  obtain ⟨comp, cA, kA, hcomp, -, hkA, hkindA, hnameA⟩ := arrayOverA_spec hover
  obtain ⟨comp', kC, cc, hcomp', hkC, hkindC⟩ := Cond.arrayClass_spec harr
  have ecomp : comp' = comp := Option.some.inj (hcomp'.symm.trans hcomp)
  subst ecomp
  obtain ⟨c0, hfc0, hcl⟩ := Cond.classLink_spec hown hclink e.platform hpl
  have hnm : ("[" ++ (FieldType.array .int).toString) = "[[I" := by decide
  rw [hnm] at hnameA
  cases hnameA.symm.trans hfc0
  obtain ⟨hg₁, hwarm₁, hready₁⟩ := State.classEntry (e := e) X.warmed hcl
  generalize T.vm.noted g.method.cls index (.cls cA) = vm₁ at hg₁ hwarm₁ hready₁
  have hal : s.vm.Alike vm₁ := hwarm₁.alike
  obtain ⟨kA₁, hkA₁, heA⟩ := hal.2.2 _ _ hkA
  obtain ⟨kC₁, hkC₁, heC⟩ := hal.2.2 _ _ hkC
  have hkindA₁ : kA₁.kind = .array comp' (.array .int) := by rw [heA]; exact hkindA
  have hkindC₁ : kC₁.kind = .array cc .int := by rw [heC]; exact hkindC
  have X₁ := X.noted hwarm₁
  obtain ⟨hr1, hr2⟩ := X.roomAbove hcells hslots
  refine ⟨vm₁, cA, comp', by rw [hnm]; exact hnameA, hcomp, zmf_stand X₁ cA comp' 32, fun target hrest => ?_⟩
  have hl1 : ¬ 32 > e.platform.arrayLengthLimit := by rw [Launch.admits_arrayLengthLimit X.admits]; omega
  have hh1 : ¬ 32 * componentBytes (.array .int) > e.platform.maxHeapBytes := by
    rw [Launch.admits_maxHeapBytes X.admits]; show ¬ 32 * 4 > 536870912; omega
  have hl2 : ¬ 5 > e.platform.arrayLengthLimit := by rw [Launch.admits_arrayLengthLimit X.admits]; omega
  have hh2 : ¬ 5 * componentBytes .int > e.platform.maxHeapBytes := by
    rw [Launch.admits_maxHeapBytes X.admits]; show ¬ 5 * 4 > 536870912; omega
  jvm_step X.here [hexec, hdg]
  simp only [multianewarray.sem, wp_bind', W.resolveClassAt_links (State.method?_setTop g X.here.top) hg₁]
  rw [W.popN, if_neg (by decide)]
  refine ⟨g, State.topJava?_setTop' (s := T.setVm vm₁) g X.here.top, [.int (nI 32), .int (nI 5)], rest, rfl, hstack, ?_⟩
  simp only [List.mapM_cons, List.mapM_nil, wp_bind', wp_pure']
  refine zmake2 (kA := kA₁) (kC := kC₁) (cB := comp') (cc := cc) hkA₁ hkindA₁ hkC₁ hkindC₁ hl1 hh1 hl2 hh2 (by show T.heap.size + 33 ≤ _; omega) (by show T.slotsUsed + 192 ≤ _; omega) (fun d' acts' => ?_)
  have XF := zmf_stand X₁ cA comp' 32
  have eS : ((T.setTop g).setVm vm₁).setTop { g with stack := rest } = (T.setVm vm₁).setTop { g with stack := rest } := by
    show ((T.setVm vm₁).setTop g).setTop _ = _
    rw [State.setTop_setTop]
  rw [eS, zmf_top]
  simp only [wp_bind', W.mark, W.pushRef, State.topJava?_setTop' _ XF.here.top, Option.some.injEq, exists_eq_left', State.setTop_setTop, State.heap_setTop]
  intro acts
  simp [jvm, XF.here.top]
  exact hrest
end MST
/-- the store while the rows are made -/
def zmS (g : zG) (T : Nat) (f : Nat → Option va_E) (i : Nat) : Nat → Option va_E := fun a => if a = T then some (.inl (g.2.2.2 4, 32, .inr (.inr (.inr (.inr (zoF T i)))))) else if T < a ∧ a ≤ T + i then some (.inl (g.2.2.2 0, 5, .inl (fun _ => 0))) else f a
theorem zmS_R {g : zG} {σ : zS} {s : State} (h : zR g σ s.heap) (i : Nat) : zR g ((σ.1.1 + 1 + i, σ.1.2 + 32 + 5 * i), zmS g σ.1.1 σ.2 i) (zmf s (g.2.2.2 4) (g.2.2.2 0) i).heap := by
  have hz : s.heap.size = σ.1.1 := h.1.1
  induction i with
  | zero =>
    have hb : (s.heap.push (zoC (g.2.2.2 4) s.heap.size 0))[s.heap.size]? = some (zoC (g.2.2.2 4) s.heap.size 0) := by simp
    have hp := h.push (e := .inl (g.2.2.2 4, 32, .inr (.inr (.inr (.inr (zoF σ.1.1 0)))))) (H1 := s.heap.push (zoC (g.2.2.2 4) s.heap.size 0)) (by simp) (fun q hq => by rw [Array.getElem?_push, if_neg (Nat.ne_of_lt hq)]) hb (show _[σ.1.1]? = _ by rw [← hz]; exact hb)
    rw [(zoC_f _ _ 0).2.2] at hp
    have e1 : zmS g σ.1.1 σ.2 0 = zup σ.2 σ.1.1 (.inl (g.2.2.2 4, 32, .inr (.inr (.inr (.inr (zoF σ.1.1 0)))))) := by
      funext a
      unfold zmS zup
      by_cases ha : a = σ.1.1
      · rw [if_pos ha, if_pos ha]
      · rw [if_neg ha, if_neg ha, if_neg (by omega)]
    rw [e1]
    exact hp
  | succ i ih =>
    obtain ⟨f1, f2, f3, f4⟩ := zmf_f s (g.2.2.2 4) (g.2.2.2 0) i
    have hb : ((zmf s (g.2.2.2 4) (g.2.2.2 0) i).heap.push (ziC (g.2.2.2 0)))[(zmf s (g.2.2.2 4) (g.2.2.2 0) i).heap.size]? = some (ziC (g.2.2.2 0)) := by simp
    have hz2 : (zmf s (g.2.2.2 4) (g.2.2.2 0) i).heap.size = σ.1.1 + 1 + i := by rw [f1, hz]
    have hp := ih.push (e := .inl (g.2.2.2 0, 5, .inl (fun _ => 0))) (H1 := (zmf s (g.2.2.2 4) (g.2.2.2 0) i).heap.push (ziC (g.2.2.2 0))) (by simp) (fun q hq => by rw [Array.getElem?_push, if_neg (Nat.ne_of_lt hq)]) hb (show _[σ.1.1 + 1 + i]? = _ by rw [← hz2]; exact hb)
    rw [ziC_f] at hp
    have hlt0 : s.heap.size < (zmf s (g.2.2.2 4) (g.2.2.2 0) i).heap.size := by rw [f1]; omega
    have hc : ((zmf s (g.2.2.2 4) (g.2.2.2 0) i).heap.push (ziC (g.2.2.2 0)))[σ.1.1]? = some (zoC (g.2.2.2 4) s.heap.size i) := by
      rw [← hz, Array.getElem?_push, if_neg (Nat.ne_of_lt hlt0)]
      exact f2
    have hla : σ.1.1 < ((zmf s (g.2.2.2 4) (g.2.2.2 0) i).heap.push (ziC (g.2.2.2 0))).size := (Array.getElem?_eq_some_iff.mp hc).1
    have hH : (zmf s (g.2.2.2 4) (g.2.2.2 0) (i + 1)).heap = ((zmf s (g.2.2.2 4) (g.2.2.2 0) i).heap.push (ziC (g.2.2.2 0))).setIfInBounds σ.1.1 (zoC (g.2.2.2 4) s.heap.size (i + 1)) := by rw [← hz]; rfl
    have hc1 : (zmf s (g.2.2.2 4) (g.2.2.2 0) (i + 1)).heap[σ.1.1]? = some (zoC (g.2.2.2 4) s.heap.size (i + 1)) := by
      rw [hH, Array.getElem?_setIfInBounds, if_pos rfl, if_pos hla]
    have hp2 := hp.put (H1 := (zmf s (g.2.2.2 4) (g.2.2.2 0) (i + 1)).heap) (a := σ.1.1) (e := .inl (g.2.2.2 4, 32, .inr (.inr (.inr (.inr (zoF σ.1.1 (i + 1))))))) (by have := h.2.1; omega) (by rw [hH]; simp) (fun q hq => by rw [hH]; simp [Array.getElem?_setIfInBounds, Ne.symm hq]) hc hc1 (by rw [(zoC_f _ _ _).2.2, (zoC_f _ _ _).2.2]) (by
      show (zmf s (g.2.2.2 4) (g.2.2.2 0) (i + 1)).heap[σ.1.1]? = some (vp_cell _ _)
      rw [hc1, hz]
      rfl)
    have e1 : zmS g σ.1.1 σ.2 (i + 1) = zup (zup (zmS g σ.1.1 σ.2 i) (σ.1.1 + 1 + i) (.inl (g.2.2.2 0, 5, .inl (fun _ => 0)))) σ.1.1 (.inl (g.2.2.2 4, 32, .inr (.inr (.inr (.inr (zoF σ.1.1 (i + 1))))))) := by
      funext a
      unfold zmS zup
      by_cases ha : a = σ.1.1
      · rw [if_pos ha, if_pos ha]
      · rw [if_neg ha, if_neg ha]
        dsimp only
        rw [if_neg ha]
        by_cases hb' : a = σ.1.1 + 1 + i
        · rw [if_pos hb', if_pos (by omega)]
        · rw [if_neg hb']
          by_cases hc' : σ.1.1 < a ∧ a ≤ σ.1.1 + i
          · rw [if_pos hc', if_pos (by omega)]
          · rw [if_neg hc', if_neg (by omega)]
    rw [e1]
    exact hp2
theorem V_mnew {g : zG} {κ : zC} {own : String} {cc : ByteArray} {nL k n : Nat} {σ : zS} {pc : Nat} {lv : List (Nat × Value)} {rest : List Value} (X : zX g κ own cc nL) {dd mc0 ms0 : Nat} (Hh : zH κ dd mc0 ms0) {idx : Nat} (hcl : Cond.classLink own idx "[[I" ∈ zTBL) (hw : Cond.arrayClass .int ∈ zTBL) (hcells : k + 33 ≤ mc0) (hslots : n + 192 ≤ ms0) (d : decode cc pc = .ok (.multianewarray idx 2, 4))
    (kk : V g κ nL (k + 33) (n + 192) ((σ.1.1 + 33, σ.1.2 + 192), zmS g σ.1.1 σ.2 32) (pc + 4) lv (.ref σ.1.1 :: rest)) : V g κ nL k n σ pc lv (.int (nI 5) :: .int (nI 32) :: rest) := by
  intro H locs ls hR hL hl T hT S
  obtain ⟨r1, r2, r3, r4⟩ := Hh
  have hK := X.2.2.2.2.2.2.1
  obtain ⟨vm₁, cA, cB, h1, h2, S', step⟩ := zmulti S X.1 X.2.2.2.1 (zWord X hcl) (X.2.2.2.2.2.2.2.2.2.2.2.2.2.1) (zWord X hw) (g := F0 (zm κ) pc ls (.int (nI 5) :: .int (nI 32) :: rest)) rfl (by rw [X.2.1]; exact d) (rest := rest) rfl (by omega) (by omega)
  have hcB : cB = g.2.2.2 0 := Option.some.inj (h2.symm.trans (hK.2 0 _ rfl).2)
  have hcA : cA = g.2.2.2 4 := Option.some.inj (h1.symm.trans (hK.2 4 _ rfl).2)
  subst hcB
  subst hcA
  have hz : T.heap.size = σ.1.1 := by rw [hT]; exact hR.1.1
  have hR' : zR g σ (T.setVm vm₁).heap := by show zR g σ T.heap; rw [hT]; exact hR
  obtain ⟨t, a1, b1⟩ := kk _ _ ls (zmS_R hR' 32) (fun q hq => by
      rcases List.mem_append.mp hq with h | h
      · exact hL q h
      · obtain ⟨z, -, e1⟩ := List.mem_map.mp h
        rw [← e1]
        show g.2.1.size ≤ T.heap.size
        rw [hT]
        exact hR.2.1) hl _ rfl S'
  refine ⟨t, step t ?_, b1⟩
  rw [hz]
  exact a1
