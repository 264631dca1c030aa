/-! ===== rows of calls, throws, new ===== -/
theorem zWord {κ : zC} {g : zG} {own : String} {cc : ByteArray} {nL : Nat} (X : zX g κ own cc nL) {w : Cond} (h : w ∈ zTBL) : w.before (za κ) (zs κ) = true := X.2.2.2.2.1 w h
theorem zGoodT : GoodIn zTBL zTBL := fun w h => ⟨h, good_of_word (List.mem_filter.mp h).2⟩
theorem zGood {y : MethodName} {cc : ByteArray} {nL : Nat} {ret : Option FieldType} (h : Cond.code y cc nL ret ∈ zTBL) : GoodIn zTBL (.code y cc nL ret :: zTBL) := fun w hw => by
  rcases List.mem_cons.mp hw with e | hw
  · subst e; exact zGoodT _ h
  · exact zGoodT _ hw
/-- the words of a call -/
def zM0 (y : MethodName) (cc : ByteArray) (nL : Nat) (ret : Option FieldType) (np : Nat) : Prop := Cond.code y cc nL ret ∈ zTBL ∧ Cond.initialized y.cls ∈ zTBL ∧ (y.cls ≠ "java/lang/invoke/MethodHandle" ∧ y.cls ≠ "java/lang/invoke/VarHandle" ∧ (parseMethodDescriptor y.desc).map (fun d => d.parameters.length) = some np)
def zM (own : String) (idx : Nat) (y : MethodName) (cc : ByteArray) (nL : Nat) (ret : Option FieldType) (np : Nat) : Prop := zM0 y cc nL ret np ∧ Cond.methodLink own idx y ∈ zTBL
def zMN (own : String) (idx : Nat) (y : MethodName) (cc : ByteArray) (nL : Nat) (ret : Option FieldType) (np : Nat) : Prop := zM0 y cc nL ret np ∧ ∃ host, Cond.methodLinkNest own idx y host ∈ zNL
/-- the room of a frame -/
def zH (κ : zC) (d mc ms : Nat) : Prop := d ≤ (zRm κ).frames ∧ 40 * d ≤ (zRm κ).locals ∧ mc ≤ (zRm κ).cells ∧ ms ≤ (zRm κ).slots
theorem zE.room {g : zG} {κ : zC} {d : Nat} {ret : Option FieldType} {mc ms : Nat} {Post : Option Value → zS → Prop} {XP : String → zS → Prop} (E : zE g κ d ret mc ms Post XP) : zH κ d mc ms := by
  obtain ⟨-, -, -, h, -⟩ := E
  unfold zH
  rw [h]
  exact ⟨Nat.le_refl _, Nat.le_refl _, Nat.le_refl _, Nat.le_refl _⟩
/-- an exception over the frame at pc -/
def VX (g : zG) (κ : zC) (nL k n : Nat) (σ : zS) (pc : Nat) (lv : List (Nat × Value)) (rest : List Value) (E : String) : Prop :=
  ∀ (H : Heap) (locs : List Loc) (ls : Array Slot) (q : Addr) (ce : Cell), zR g σ H → (∀ q ∈ locs, g.2.1.size ≤ q.base) → lv_has ls nL lv → H[q]? = some ce → ce.vm = .none → (zs κ).vm.findClass E = some ce.cls → vx_W (zp κ) g.1 (ze κ) (zRm κ) (zs κ) (zm κ) (za κ) (zb κ) (zme κ) (zc κ) H locs k n (zQ κ) (F0 (zm κ) pc ls rest) q
section CROWS
variable {g : zG} {κ : zC} {own : String} {cc : ByteArray} {nL k n : Nat} {σ : zS} {pc : Nat} {lv : List (Nat × Value)} {rest st : List Value}
/-- the tail of every call -/
theorem V_run {mc ms : Nat} {Post : Option Value → zS → Prop} {XP : String → zS → Prop}
    (hr : ∀ (H : Heap) (locs : List Loc) (ls : Array Slot), zR g σ H → lv_has ls nL lv → vx_Run (zp κ) g.1 (ze κ) (zRm κ) (zs κ) (zm κ) (za κ) (zb κ) (zme κ) (zc κ) H locs k n mc ms (F0 (zm κ) pc ls st) rest (fun (_ : State) (o : Outcome) (t : State) => ∃ (v : Option Value) (σ' : zS), o = .returned v ∧ Post v σ' ∧ zR g σ' t.heap) (fun E _ t => ∃ σ' : zS, XP E σ' ∧ zR g σ' t.heap) (zA g))
    (kx : ∀ (E : String) (σ' : zS), XP E σ' → VX g κ nL (k + mc) (n + ms) σ' pc lv rest E)
    (kk : ∀ (v : Option Value) (σ' : zS), Post v σ' → V g κ nL (k + mc) (n + ms) σ' (pc + 3) lv (v.toList ++ rest)) : V g κ nL k n σ pc lv st := by
  intro H locs ls hR hL hl T hT S
  rcases hr H locs ls hR hl T hT S with ⟨v, st₀, t, T', L, h0, X', hL', e1, e2, ⟨v', σ', hv, hp, hR'⟩, s1⟩ | ⟨q, st₀, t, T', L, E, ce, h0, X', hL', e1, e2, ⟨σ', hp, hR'⟩, hce, hcv, hcl, s1⟩
  · cases hv
    obtain ⟨t2, a1, b1⟩ := kk v σ' hp T'.heap (locs ++ L) ls (by rw [e1]; exact hR') (fun q hq => by rcases List.mem_append.mp hq with h | h; exact hL q h; exact hL' q h) hl T' rfl X'
    exact ⟨t2, s1 t2 a1, b1⟩
  · obtain ⟨t2, a1, b1⟩ := kx E σ' hp T'.heap (locs ++ L) ls q ce (by rw [e1]; exact hR') (fun q hq => by rcases List.mem_append.mp hq with h | h; exact hL q h; exact hL' q h) hl (by rw [e1]; exact hce) hcv hcl T' rfl X'
    exact ⟨t2, s1.trans a1, b1⟩
theorem zPre (X : zX g κ own cc nL) {av : List Value} {H : Heap} (hR : zR g σ H) : PreS (zs κ) H (va_Pc av (fun U => zR g σ U.heap ∧ zKK g U)) av := by
  refine ⟨fun a U g' mk h => ?_, fun U hU hW => ⟨rfl, by rw [hU]; exact hR, X.2.2.2.2.2.2.warm hW⟩⟩
  obtain ⟨h1, h2, h3⟩ := h
  exact ⟨h1, h2, h3.warm (s := U) (U := U.calling g' mk a) (State.WarmedH.refl U)⟩
theorem zCB (X : zX g κ own cc nL) {dd mc0 ms0 : Nat} (Hh : zH κ dd mc0 ms0) {idx d' nL' np mc ms : Nat} {y : MethodName} {cc' : ByteArray} {ret : Option FieldType} (M : zM own idx y cc' nL' ret np) (hd : d' < dd) (hnl : nL' ≤ 21) :
    CallB (zRm κ) (zs κ) (za κ) own idx y cc' nL' ret (.code y cc' nL' ret :: zTBL) { frames := d', cells := mc, slots := ms, locals := 40 * d' } mc ms np := by
  obtain ⟨⟨h1, h2, h3⟩, h4⟩ := M
  obtain ⟨r1, r2, r3, r4⟩ := Hh
  exact callB_of np X.2.2.2.2.1 (zGood h1) rfl rfl rfl (zWord X h2) (zWord X h4) h3 ⟨by show d' + 1 ≤ _; omega, by show 8 + (nL' + 11) + 40 * d' ≤ _; omega⟩
theorem V_callS (X : zX g κ own cc nL) {dd mc0 ms0 : Nat} (Hh : zH κ dd mc0 ms0) {idx d' nL' np mc ms : Nat} {y : MethodName} {cc' : ByteArray} {ret : Option FieldType} {av : List Value} {Post : Option Value → zS → Prop} {XP : String → zS → Prop} (M : zM own idx y cc' nL' ret np) (hst : Cond.static y ∈ zTBL) (hd : d' < dd) (hnl : nL' ≤ 21) (hC : Ct g d' y cc' nL' ret mc ms av σ Post XP)
    (hav : av.length = np) (hs : st = av.reverse ++ rest) (hw : (rest.map fun v => v.category).sum ≤ 8) (hc : k + mc ≤ mc0 ∧ n + ms ≤ ms0) (d : decode cc pc = .ok (.invokestatic idx, 3))
    (kx : ∀ (E : String) (σ' : zS), XP E σ' → VX g κ nL (k + mc) (n + ms) σ' pc lv rest E)
    (kk : ∀ (v : Option Value) (σ' : zS), Post v σ' → V g κ nL (k + mc) (n + ms) σ' (pc + 3) lv (v.toList ++ rest)) : V g κ nL k n σ pc lv st := by
  refine V_run (rest := rest) (fun H locs ls hR hl => ?_) kx kk
  exact vx_runS (As := av) ⟨X.1, X.2.1, X.2.2.1, X.2.2.2.1, X.2.2.2.2.1⟩ hC ⟨zCB X Hh M hd hnl, zWord X hst⟩ (zPre X hR) rfl hav hl.1 hs (lv_room hw) d ⟨Nat.le_trans hc.1 Hh.2.2.1, Nat.le_trans hc.2 Hh.2.2.2⟩
theorem zRecv (X : zX g κ own cc nL) {b ci : Nat} {fs : List Value} {q : vw_C} {H : Heap} (hR : zR g σ H) (he : σ.2 b = some (.inr (ci, fs))) (hc : vwCl[ci]? = some q) : ∃ cell : Cell, H[b]? = some cell ∧ cell.vm.isStatics = false ∧ (zs κ).vm.findClass q.1 = some cell.cls := by
  obtain ⟨q', h1, cell, g1, g2, g3, -⟩ := hR.2.2.2 b _ he
  exact ⟨cell, g1, by rw [g3]; rfl, by rw [g2]; exact (X.2.2.2.2.2.2.1.1 ci q hc).2.1⟩
theorem V_callV (X : zX g κ own cc nL) {dd mc0 ms0 : Nat} (Hh : zH κ dd mc0 ms0) {idx d' nL' np mc ms b ci : Nat} {y : MethodName} {cc' : ByteArray} {ret : Option FieldType} {av : List Value} {Post : Option Value → zS → Prop} {XP : String → zS → Prop} (M : zM own idx y cc' nL' ret np) (hin : Cond.instanceMethod y ∈ zTBL) {C : String} {T : u_T} {N : Nat} {fs : List Value} (hcl : vwCl[ci]? = some (C, T, N)) (hse : Cond.selects C y y ∈ zTBL) (he : σ.2 b = some (.inr (ci, fs))) (hd : d' < dd) (hnl : nL' ≤ 21) (hC : Ct g d' y cc' nL' ret mc ms (.ref b :: av) σ Post XP)
    (hav : av.length = np) (hs : st = av.reverse ++ .ref b :: rest) (hw : (rest.map fun v => v.category).sum ≤ 8) (hc : k + mc ≤ mc0 ∧ n + ms ≤ ms0) (d : decode cc pc = .ok (.invokevirtual idx, 3))
    (kx : ∀ (E : String) (σ' : zS), XP E σ' → VX g κ nL (k + mc) (n + ms) σ' pc lv rest E)
    (kk : ∀ (v : Option Value) (σ' : zS), Post v σ' → V g κ nL (k + mc) (n + ms) σ' (pc + 3) lv (v.toList ++ rest)) : V g κ nL k n σ pc lv st := by
  refine V_run (rest := rest) (fun H locs ls hR hl => ?_) kx kk
  exact vx_runV (As := av) (C := C) ⟨X.1, X.2.1, X.2.2.1, X.2.2.2.1, X.2.2.2.2.1⟩ hC ⟨zCB X Hh M hd hnl, zWord X hin, zWord X hse⟩ ⟨(zPre X hR (av := .ref b :: av)).1, zRecv X hR he hcl, (zPre X hR).2⟩ rfl hav hl.1 hs (lv_room hw) d ⟨Nat.le_trans hc.1 Hh.2.2.1, Nat.le_trans hc.2 Hh.2.2.2⟩
theorem V_callI (X : zX g κ own cc nL) {dd mc0 ms0 : Nat} (Hh : zH κ dd mc0 ms0) {idx d' nL' np mc ms b : Nat} {y : MethodName} {cc' : ByteArray} {av : List Value} {Post : Option Value → zS → Prop} {XP : String → zS → Prop} (M : zM own idx y cc' nL' none np) (hin : Cond.instanceMethod y ∈ zTBL) (hy : y.name = "<init>") (hd : d' < dd) (hnl : nL' ≤ 21) (hC : Ct g d' y cc' nL' none mc ms (.ref b :: av) σ Post XP)
    (hav : av.length = np) (hs : st = av.reverse ++ .ref b :: rest) (hw : (rest.map fun v => v.category).sum ≤ 8) (hc : k + mc ≤ mc0 ∧ n + ms ≤ ms0) (d : decode cc pc = .ok (.invokespecial idx, 3))
    (kx : ∀ (E : String) (σ' : zS), XP E σ' → VX g κ nL (k + mc) (n + ms) σ' pc lv rest E)
    (kk : ∀ (v : Option Value) (σ' : zS), Post v σ' → V g κ nL (k + mc) (n + ms) σ' (pc + 3) lv (v.toList ++ rest)) : V g κ nL k n σ pc lv st := by
  refine V_run (rest := rest) (fun H locs ls hR hl => ?_) kx kk
  exact vx_runI (As := av) ⟨X.1, X.2.1, X.2.2.1, X.2.2.2.1, X.2.2.2.2.1⟩ hC ⟨zCB X Hh M hd hnl, hy, zWord X hin⟩ (zPre X hR) rfl hav hl.1 hs (lv_room hw) d ⟨Nat.le_trans hc.1 Hh.2.2.1, Nat.le_trans hc.2 Hh.2.2.2⟩
theorem zCN (X : zX g κ own cc nL) {dd mc0 ms0 : Nat} (Hh : zH κ dd mc0 ms0) {idx d' nL' np mc ms : Nat} {y : MethodName} {cc' : ByteArray} {ret : Option FieldType} (M : zMN own idx y cc' nL' ret np) (hd : d' < dd) (hnl : nL' ≤ 21) :
    ∃ host, va_CN (zRm κ) (zs κ) (za κ) own idx y host cc' nL' ret (.code y cc' nL' ret :: zTBL) { frames := d', cells := mc, slots := ms, locals := 40 * d' } mc ms np := by
  obtain ⟨⟨h1, h2, h3⟩, host, h4⟩ := M
  obtain ⟨r1, r2, r3, r4⟩ := Hh
  exact ⟨host, va_cnB np X.2.2.2.2.1 (zGood h1) rfl rfl rfl (X.2.2.2.2.2.2.2.1 _ h4) (zWord X h2) h3 ⟨by show d' + 1 ≤ _; omega, by show 8 + (nL' + 11) + 40 * d' ≤ _; omega⟩⟩
theorem V_callSN (X : zX g κ own cc nL) {dd mc0 ms0 : Nat} (Hh : zH κ dd mc0 ms0) {idx d' nL' np mc ms : Nat} {y : MethodName} {cc' : ByteArray} {ret : Option FieldType} {av : List Value} {Post : Option Value → zS → Prop} {XP : String → zS → Prop} (M : zMN own idx y cc' nL' ret np) (hst : Cond.static y ∈ zTBL) (hd : d' < dd) (hnl : nL' ≤ 21) (hC : Ct g d' y cc' nL' ret mc ms av σ Post XP)
    (hav : av.length = np) (hs : st = av.reverse ++ rest) (hw : (rest.map fun v => v.category).sum ≤ 8) (hc : k + mc ≤ mc0 ∧ n + ms ≤ ms0) (d : decode cc pc = .ok (.invokestatic idx, 3))
    (kx : ∀ (E : String) (σ' : zS), XP E σ' → VX g κ nL (k + mc) (n + ms) σ' pc lv rest E)
    (kk : ∀ (v : Option Value) (σ' : zS), Post v σ' → V g κ nL (k + mc) (n + ms) σ' (pc + 3) lv (v.toList ++ rest)) : V g κ nL k n σ pc lv st := by
  refine V_run (rest := rest) (fun H locs ls hR hl => ?_) kx kk
  obtain ⟨host, hCN⟩ := zCN (mc := mc) (ms := ms) X Hh M hd hnl
  exact vx_runSN (As := av) (Ts := zTBL) (host := host) ⟨X.1, X.2.1, X.2.2.1, X.2.2.2.1, X.2.2.2.2.1⟩ hC ⟨hCN, zWord X hst, trivial⟩ (zPre X hR) rfl hav hl.1 hs (lv_room hw) d ⟨Nat.le_trans hc.1 Hh.2.2.1, Nat.le_trans hc.2 Hh.2.2.2⟩
theorem V_callIN (X : zX g κ own cc nL) {dd mc0 ms0 : Nat} (Hh : zH κ dd mc0 ms0) {idx d' nL' np mc ms b : Nat} {y : MethodName} {cc' : ByteArray} {av : List Value} {Post : Option Value → zS → Prop} {XP : String → zS → Prop} (M : zMN own idx y cc' nL' none np) (hin : Cond.instanceMethod y ∈ zTBL) (hy : y.name = "<init>") (hd : d' < dd) (hnl : nL' ≤ 21) (hC : Ct g d' y cc' nL' none mc ms (.ref b :: av) σ Post XP)
    (hav : av.length = np) (hs : st = av.reverse ++ .ref b :: rest) (hw : (rest.map fun v => v.category).sum ≤ 8) (hc : k + mc ≤ mc0 ∧ n + ms ≤ ms0) (d : decode cc pc = .ok (.invokespecial idx, 3))
    (kx : ∀ (E : String) (σ' : zS), XP E σ' → VX g κ nL (k + mc) (n + ms) σ' pc lv rest E)
    (kk : ∀ (v : Option Value) (σ' : zS), Post v σ' → V g κ nL (k + mc) (n + ms) σ' (pc + 3) lv (v.toList ++ rest)) : V g κ nL k n σ pc lv st := by
  refine V_run (rest := rest) (fun H locs ls hR hl => ?_) kx kk
  obtain ⟨host, hCN⟩ := zCN (mc := mc) (ms := ms) X Hh M hd hnl
  exact vx_runIN (As := av) (Ts := zTBL) (host := host) ⟨X.1, X.2.1, X.2.2.1, X.2.2.2.1, X.2.2.2.2.1⟩ hC ⟨hCN, hy, zWord X hin⟩ (zPre X hR) rfl hav hl.1 hs (lv_room hw) d ⟨Nat.le_trans hc.1 Hh.2.2.1, Nat.le_trans hc.2 Hh.2.2.2⟩
/-- an exception that this method doesn't catch -/
theorem VX_out {dd mc ms : Nat} {ret : Option FieldType} {Post : Option Value → zS → Prop} {XP : String → zS → Prop} (X : zX g κ own cc nL) (E : zE g κ dd ret mc ms Post XP) {Ex : String} (hk : k ≤ mc) (hn : n ≤ ms) (hp : XP Ex σ) : VX g κ nL k n σ pc lv rest Ex := by
  intro H locs ls q ce hR hL hl h1 h2 h3
  rw [E.2.1]
  exact vx_out (fun x hx => (E.2.2.1 x hx).elim) X.2.2.2.2.2.1 h1 h2 h3 (fun t ht _ => ⟨σ, hp, by rw [ht]; exact hR⟩) hL hk hn
theorem V_throwS (X : zX g κ own cc nL) {dd mc ms : Nat} {ret : Option FieldType} {Post : Option Value → zS → Prop} {XP : String → zS → Prop} (E : zE g κ dd ret mc ms Post XP) (hl0 : g.1.stackTraces = false) {cls text : String} {names : List String} {ik is ic : Nat} (hcls : Bundle.fit cls = true) (hnames : ∀ q ∈ names, Bundle.fit q = true)
    (hwd : ∀ w ∈ Cond.classLink own ik cls :: Cond.initialized cls :: vx_atS own ic cls names, w ∈ zTBL ∨ w ∈ zNL) (hot : ∀ w ∈ Cond.classLink own ik cls :: Cond.initialized cls :: vx_atS own ic cls names, vx_ot w = true)
    (hstr : ∃ sa, vk_R own is text sa (zs κ)) (d0 : decode cc pc = .ok (.new ik, 3)) (d3 : decode cc (pc + 3) = .ok (.dup, 1)) (d4 : decode cc (pc + 4) = .ok (.ldc is, 2)) (d6 : decode cc (pc + 6) = .ok (.invokespecial ic, 3)) (d9 : decode cc (pc + 9) = .ok (.athrow, 1))
    (hd : names.length + 3 < dd) (hw : (rest.map fun v => v.category).sum ≤ 8) (hnl : names.length ≤ 6) (hk : k + 1 ≤ mc) (hn : n + 6 ≤ ms) (hp : ∀ z : Nat × Nat, XP cls (z, σ.2)) : V g κ nL k n σ pc lv rest := by
  intro H locs ls hR hL hl
  obtain ⟨r1, r2, r3, r4⟩ := E.room
  have hts : ∀ w ∈ Cond.classLink own ik cls :: Cond.initialized cls :: vx_atS own ic cls names, w.before (za κ) (zs κ) = true := fun w hw => by
    rcases hwd w hw with h | h
    · exact zWord X h
    · have hz := (List.mem_filter.mp h).2
      exact va_Nw.use (by cases w <;> first | exact Bool.noConfusion (show false = true from hz) | rfl) (X.2.2.2.2.2.2.2.1 w h)
  obtain ⟨sa, hstr⟩ := hstr
  have hbase := E.2.2.2.2
  have hU := X.2.2.2.2.2.2.2.2.1
  have hN := X.2.2.2.2.2.2.2.2.2.1
  rw [E.2.1]
  intro T hT S
  have hz : (zs κ).heap.size ≤ H.size := by
    obtain ⟨-, h2, -⟩ := S.same
    rw [← hT]; exact h2
  refine vx_throwS (A := zA g) X.1 X.2.1 hl0 X.2.2.2.1 hcls hnames (hts _ List.mem_cons_self) (hts _ (List.mem_cons_of_mem _ List.mem_cons_self)) hstr (fun w hw => hts w (List.mem_cons_of_mem _ (List.mem_cons_of_mem _ hw))) hot
    (hU.kept fun a h1 h2 => hbase.2 a h1) (hN.kept fun a h1 h2 => hbase.2 a h1)
    ⟨hz, fun q hq hA => ?_, fun q hq => hL q hq⟩ (hl.1.trans X.2.2.1.symm) d0 d3 d4 d6 d9 (fun x hx => (E.2.2.1 x hx).elim) (by omega) (by omega) (by omega) (by omega) X.2.2.2.2.2.1 ?_ hL hk hn T hT S
  · have hq2 : q < g.2.1.size := Nat.not_le.mp hA
    rw [hR.2.2.1 q hq2, hbase.2 q hq2]
  · intro t _ hsz hsame
    obtain ⟨h1, h2, h3, h4⟩ := hR
    refine ⟨((t.heap.size, hsl t.heap), σ.2), hp _, ⟨rfl, rfl⟩, Nat.le_trans h2 hsz, fun q hq => (hsame q (by omega)).trans (h3 q hq), fun a e ha => ?_⟩
    have hv := h4 a e ha
    exact hv.kept (hsame a hv.lt)
end CROWS
