/-! ===== BEGIN a method of a class above, found by the receiver, that may throw (follows va_callVU, va_runU of this kit) ===== -/
section
variable {p : Program} {l : Launch} {e : Env} {R : Room} {s : State} {m : MethodId} {args : Array Value} {below : List Frame} {meth : Method} {c : Code} {H : Heap} {locs : List Loc} {cells slots : Nat}
theorem vx_callVU {T : State} {locs : List Loc} {cells slots : Nat} (X : Stand p l e R s m args below meth c T locs cells slots) (hexec : p.tables.exec = Jvm.exec) {own C owner : String} {index : Nat} {x y : MethodName} {bytes : ByteArray} {maxL : Nat} {ret : Option FieldType}
    (hown : s.vm.findClass own = some m.cls) (hlink : (Cond.methodLink own index x).before args s = true) (hsame : (Cond.sameMethod x.cls owner x.name x.desc).before args s = true)
    (hd0 : va_Decl s ⟨owner, x.name, x.desc⟩) (howner : owner ≠ "java/lang/invoke/MethodHandle" ∧ owner ≠ "java/lang/invoke/VarHandle")
    (hsel : (Cond.selects C x y).before args s = true) (hinst : (Cond.instanceMethod y).before args s = true) (hcode : (Cond.code y bytes maxL ret).before args s = true)
    {W : Nat} {Pre : Pt → Array Value → Prop} {Post : Pt → Array Value → Option Value → Pt → Prop} {PostX : Pt → Array Value → Addr → Pt → Prop} (hK : vx_Back l R p e below s args y 3 W Pre Post PostX)
    {b : Addr} {cellB : Cell} (hcell : T.heap[b]? = some cellB) (hobj : cellB.vm.isStatics = false) (hcls : s.vm.findClass C = some cellB.cls)
    {g : JFrame} (hg : g.method = m) (hsize : g.locals.size = c.maxLocals) {argsL rest : List Value} (hlen : ∀ sig, parseMethodDescriptor x.desc = some sig → argsL.length = sig.parameters.length)
    (hstack : g.stack = argsL.reverse ++ .ref b :: rest) (hW : 2 * g.monitorRoom + (rest.map fun v => v.category).sum ≤ W) (hdg : decode c.code g.pc = .ok (.invokevirtual index, 3))
    (hpre : ∀ vm₁, s.WarmedH vm₁ → Pre ⟨T.setVm vm₁, locs, cells, slots⟩ (Value.ref b :: argsL).toArray) :
    (∃ (v : Option Value) (vm₁ : Vm) (B : Pt), s.WarmedH vm₁ ∧ Stand p l e R s m args below meth c B.U B.locs B.cells B.slots ∧ Post ⟨T.setVm vm₁, locs, cells, slots⟩ (Value.ref b :: argsL).toArray v B ∧
      ∀ target, Steps p.tables e below (B.U.setTop { g with pc := g.pc + 3, stack := v.toList ++ rest }) target → Steps p.tables e below (T.setTop g) target) ∨
    (∃ (q : Addr) (vm₁ : Vm) (B : Pt), s.WarmedH vm₁ ∧ Stand p l e R s m args below meth c B.U B.locs B.cells B.slots ∧ PostX ⟨T.setVm vm₁, locs, cells, slots⟩ (Value.ref b :: argsL).toArray q B ∧
      Steps p.tables e below (T.setTop g) ((B.U.setTop { g with stack := rest }).pushFrame (.throwing q))) := by
  obtain ⟨r0, r, hn, hrm, hstR, hsigR⟩ := hd0
  obtain ⟨cn, ck, r1, hcn, hck, hni, hf, hn1⟩ := Cond.sameMethod_found hsame
  cases hn.symm.trans hn1
  obtain ⟨mk, methM, hnamed, hmethM, -, habM⟩ := Cond.instanceMethod_spec hinst
  obtain ⟨c2, r2, m2, q1, q2, q3, q4, kP, hkP, hkPi⟩ := Cond.selects_spec hsel
  cases hcls.symm.trans q1
  cases hf.symm.trans q2
  cases hnamed.symm.trans q3
  have hselP : selectMethod e.platform s.vm cellB.cls r0 = .method mk := by rw [Launch.admits_selectMethod X.admits]; exact q4
  obtain ⟨vm₁, X₁, hstep₁⟩ := X.invokevirtualUp hexec hown hlink hsame howner hn hrm hstR (a := b) (cell := cellB) hcell
    (fun z h => by rw [h] at hobj; cases hobj) hselP hmethM habM hkP hkPi (g := g) hg (argsL := argsL) (rest := rest) (hlen _ hsigR) hstack hdg
  rcases hK m meth c ⟨T.setVm vm₁, locs, cells, slots⟩ { g with stack := rest } (.invokevirtual index) mk (Value.ref b :: argsL).toArray X₁ hg hsize hdg hW (X₁.named hnamed) (hpre vm₁ X₁.warmed) with ⟨v, B, X', hpost, hsteps⟩ | ⟨q, B, X', hpost, hsteps⟩
  · exact Or.inl ⟨v, vm₁, B, X₁.warmed, X', hpost, fun target h => hstep₁ _ fun acts => by rw [doInvoke_state]; exact hsteps.trans h⟩
  · exact Or.inr ⟨q, vm₁, B, X₁.warmed, X', hpost, hstep₁ _ fun acts => by rw [doInvoke_state]; exact hsteps⟩
theorem vx_runU {x y : MethodName} {bytes cc : ByteArray} {maxL nL mc ms n index : Nat} {ret : Option FieldType} {ws : List Cond} {rm : Room} {Pc : Array Value → State → Prop} {Qc : Array Value → State → Outcome → State → Prop} {XC : String → State → State → Prop} {free : Addr → Prop} {Ts : List Cond} {own C owner : String} {b : Addr} {As rest : List Value} {g : JFrame}
    (S : CallFix p m c cc nL s args Ts own) (hM : vx_Met l y ws rm Pc Qc XC mc ms free) (cw : va_CU R s args own C owner index x y bytes maxL ret ws rm mc ms n) (hp : PreV s H C b Pc As)
    (hg : g.method = m) (hn : As.length = n) (hsize : g.locals.size = nL) (hstack : g.stack = As.reverse ++ .ref b :: rest) (hW : 2 * g.monitorRoom + (rest.map fun v => v.category).sum ≤ 8) (hdg : decode cc g.pc = .ok (.invokevirtual index, 3)) (hf : cells + mc ≤ R.cells ∧ slots + ms ≤ R.slots) :
    vx_Run p l e R s m args below meth c H locs cells slots mc ms g rest (Qc (Value.ref b :: As).toArray) XC free := by
  obtain ⟨hrc, hrs, hfr, hlo, hws, hcw⟩ := cw.back
  have hini := cw.init
  have hK : vx_Back l R p e below s args y 3 8 (PreOf R mc ms Pc) (PostOf Qc mc ms free) (vx_Post XC mc ms free) := vx_back (bytes := bytes) (maxL := maxL) (ret := ret) hM hp.1 hrc hrs hfr hlo hws hcw (fun a' U hW => word_at hW (Or.inl (by first | rfl | simp [Cond.onTables, Cond.keeps, Cond.steady])) hini)
  obtain ⟨hx, hb, hml, ho, -⟩ := S
  obtain ⟨-, ⟨cellB, hcB, hoB, hclB⟩, hPc⟩ := hp
  intro T hT X
  rcases vx_callVU X hx (C := C) (owner := owner) (bytes := bytes) (maxL := maxL) (ret := ret) ho cw.link cw.same cw.decl cw.notMH cw.sel cw.inst cw.code hK (by rw [hT]; exact hcB) hoB hclB hg (hsize.trans hml.symm) (argsL := As) (rest := rest) (fun sig h => hn.trans (cw.len sig h)) hstack hW (by rw [hb]; exact hdg)
    (fun vm₁ hW₁ => ⟨hf.1, hf.2, hPc (T.setVm vm₁) hT hW₁⟩) with ⟨v, vm₁, ⟨U', l2, c2, s2⟩, hW₁, X', ⟨g', mk, t, L, e1, e2, hq, h1, hL, h2, h3⟩, st⟩ | ⟨q, vm₁, ⟨U', l2, c2, s2⟩, hW₁, X', ⟨g', mk, t, L, E, ce, e1, e2, hq, hce, hcv, hcl, h1, hL, h2, h3⟩, st⟩
  · dsimp only [Pt.U, Pt.locs, Pt.cells, Pt.slots] at X' e1 e2 h1 h2 h3 st
    subst h1; subst h2; subst h3
    exact Or.inl ⟨v, (T.setVm vm₁).calling g' mk (Value.ref b :: As).toArray, t, U', L, hT, X', hL, e1, e2, hq, st⟩
  · dsimp only [Pt.U, Pt.locs, Pt.cells, Pt.slots] at X' e1 e2 h1 h2 h3 st hcl
    subst h1; subst h2; subst h3
    exact Or.inr ⟨q, (T.setVm vm₁).calling g' mk (Value.ref b :: As).toArray, t, U', L, E, ce, hT, X', hL, e1, e2, hq, hce, hcv, vx_cls hW₁ hcl, st⟩
end
/-! ===== END ===== -/
theorem zselP {y z : MethodName} {C : String} {s : State} {args : Array Value} (hy : y.cls ≠ "java/lang/invoke/MethodHandle" ∧ y.cls ≠ "java/lang/invoke/VarHandle") (hz : (Cond.selects C z z).before args s = true) (hzc : z.cls = y.cls) (hpriv : (Cond.privateMethod y).before args s = true) (hinst : (Cond.instanceMethod y).before args s = true) : (Cond.selects C y y).before args s = true := by
  obtain ⟨c2, r2, m2, q1, q2, q3, q4, kP, hkP, hkPi⟩ := Cond.selects_spec hz
  obtain ⟨mk, methM, hnamed, hmethM, -, -⟩ := Cond.instanceMethod_spec hinst
  have hfound : s.methodFound? y.cls y.name y.desc = some mk := State.methodFound?_of_named hnamed hy
  have e1 := findClass_of_methodNamed q3
  have e2 := findClass_of_methodNamed hnamed
  have hcls : mk.cls = m2.cls := Option.some.inj (e2.symm.trans (by rw [← hzc]; exact e1))
  have hsel : selectMethod {} s.vm c2 mk = .method mk := selectMethod_private hmethM (Cond.privateMethod_at hpriv mk methM hnamed hmethM)
  simp only [Cond.before, Cond.holds, Cond.value, q1, hfound, hnamed, hsel, hcls, hkP]
  simp; exact hkPi
section UROWS
variable {g : zG} {κ : zC} {own : String} {cc : ByteArray} {nL k n : Nat} {σ : zS} {pc : Nat} {lv : List (Nat × Value)} {rest st : List Value}
theorem V_callP (X : zX g κ own cc nL) {dd mc0 ms0 : Nat} (Hh : zH κ dd mc0 ms0) {idx d' nL' np mc ms b ci : Nat} {y : MethodName} {cc' : ByteArray} {ret : Option FieldType} {av : List Value} {Post : Option Value → zS → Prop} {XP : String → zS → Prop} (M : zM own idx y cc' nL' ret np) (hin : Cond.instanceMethod y ∈ zTBL) {C : String} {T : u_T} {N : Nat} {fs : List Value} (hcl : vwCl[ci]? = some (C, T, N)) (hse : (Cond.selects C y y).before (za κ) (zs κ) = true) (he : σ.2 b = some (.inr (ci, fs))) (hd : d' < dd) (hnl : nL' ≤ 21) (hC : Ct g d' y cc' nL' ret mc ms (.ref b :: av) σ Post XP)
    (hav : av.length = np) (hs : st = av.reverse ++ .ref b :: rest) (hw : (rest.map fun v => v.category).sum ≤ 8) (hc : k + mc ≤ mc0 ∧ n + ms ≤ ms0) (d : decode cc pc = .ok (.invokevirtual idx, 3))
    (kx : ∀ (E : String) (σ' : zS), XP E σ' → VX g κ nL (k + mc) (n + ms) σ' pc lv rest E)
    (kk : ∀ (v : Option Value) (σ' : zS), Post v σ' → V g κ nL (k + mc) (n + ms) σ' (pc + 3) lv (v.toList ++ rest)) : V g κ nL k n σ pc lv st := by
  refine V_run (rest := rest) (fun H locs ls hR hl => ?_) kx kk
  exact vx_runV (As := av) (C := C) ⟨X.1, X.2.1, X.2.2.1, X.2.2.2.1, X.2.2.2.2.1⟩ hC ⟨zCB X Hh M hd hnl, zWord X hin, hse⟩ ⟨(zPre X hR (av := .ref b :: av)).1, zRecv X hR he hcl, (zPre X hR).2⟩ rfl hav hl.1 hs (lv_room hw) d ⟨Nat.le_trans hc.1 Hh.2.2.1, Nat.le_trans hc.2 Hh.2.2.2⟩
/-- a method found by the receiver -/
def zMU (own : String) (idx : Nat) (C owner : String) (x y : MethodName) (cc : ByteArray) (nL : Nat) (ret : Option FieldType) (np : Nat) : Prop :=
  Cond.code y cc nL ret ∈ zTBL ∧ Cond.initialized y.cls ∈ zTBL ∧ Cond.methodLink own idx x ∈ zTBL ∧ Cond.sameMethod x.cls owner x.name x.desc ∈ zTBL ∧ Cond.selects C x y ∈ zTBL ∧ Cond.instanceMethod y ∈ zTBL ∧ (∃ b0 m0 r0, Cond.code ⟨owner, x.name, x.desc⟩ b0 m0 r0 ∈ zTBL) ∧ Cond.instanceMethod ⟨owner, x.name, x.desc⟩ ∈ zTBL ∧ (owner ≠ "java/lang/invoke/MethodHandle" ∧ owner ≠ "java/lang/invoke/VarHandle") ∧ (parseMethodDescriptor x.desc).map (fun d => d.parameters.length) = some np
theorem V_callU (X : zX g κ own cc nL) {dd mc0 ms0 : Nat} (Hh : zH κ dd mc0 ms0) {idx d' nL' np mc ms b ci : Nat} {x y : MethodName} {cc' : ByteArray} {ret : Option FieldType} {av : List Value} {Post : Option Value → zS → Prop} {XP : String → zS → Prop} {C owner : String} {T : u_T} {N : Nat} {fs : List Value} (M : zMU own idx C owner x y cc' nL' ret np) (hcl : vwCl[ci]? = some (C, T, N)) (he : σ.2 b = some (.inr (ci, fs))) (hd : d' < dd) (hnl : nL' ≤ 21) (hC : Ct g d' y cc' nL' ret mc ms (.ref b :: av) σ Post XP)
    (hav : av.length = np) (hs : st = av.reverse ++ .ref b :: rest) (hw : (rest.map fun v => v.category).sum ≤ 8) (hc : k + mc ≤ mc0 ∧ n + ms ≤ ms0) (d : decode cc pc = .ok (.invokevirtual idx, 3))
    (kx : ∀ (E : String) (σ' : zS), XP E σ' → VX g κ nL (k + mc) (n + ms) σ' pc lv rest E)
    (kk : ∀ (v : Option Value) (σ' : zS), Post v σ' → V g κ nL (k + mc) (n + ms) σ' (pc + 3) lv (v.toList ++ rest)) : V g κ nL k n σ pc lv st := by
  refine V_run (rest := rest) (fun H locs ls hR hl => ?_) kx kk
  obtain ⟨m1, m2, m3, m4, m5, m6, ⟨b0, m0, r0, m7⟩, m8, m9, m10⟩ := M
  obtain ⟨r1, r2, r3, r4⟩ := Hh
  refine vx_runU (x := x) (bytes := cc') (maxL := nL') (ret := ret) (owner := owner) (As := av) (C := C) (Ts := zTBL) ⟨X.1, X.2.1, X.2.2.1, X.2.2.2.1, X.2.2.2.2.1⟩ hC ?_ ⟨(zPre X hR (av := .ref b :: av)).1, zRecv X hR he hcl, (zPre X hR).2⟩ rfl hav hl.1 hs (lv_room hw) d ⟨Nat.le_trans hc.1 r3, Nat.le_trans hc.2 r4⟩
  refine ⟨⟨rfl, rfl, by show d' + 1 ≤ _; omega, by show 8 + (nL' + 11) + 40 * d' ≤ _; omega, pay_in X.2.2.2.2.1 (zGood m1), List.mem_cons_self⟩, zWord X m1, zWord X m2, m9, fun sig h => ?_, zWord X m3, zWord X m4, va_Decl.of (zWord X m8) (zWord X m7), zWord X m5, zWord X m6⟩
  rw [h] at m10
  exact (Option.some.inj m10).symm
end UROWS
theorem mc_J4_length_8abf5 : zM0 yJ4_length_8abf5 cJ4_length_8abf5 1 (some .int) 0 := ⟨tb2 (j := 239) (by decide +kernel) rfl, tb1 (j := 33) (by decide +kernel) rfl, by decide +kernel⟩
theorem mu_J0_549 : zMU RJ0 549 RJ4 RJ5 yJ5_length_8abf5 yJ4_length_8abf5 cJ4_length_8abf5 1 (some .int) 0 := ⟨mc_J4_length_8abf5.1, mc_J4_length_8abf5.2.1, tb2 (j := 234) (by decide +kernel) rfl, tb2 (j := 236) (by decide +kernel) rfl, tb2 (j := 237) (by decide +kernel) rfl, tb2 (j := 238) (by decide +kernel) rfl, ⟨cJ5_length_8abf5, 1, some .int, tb3 (j := 1) (by decide +kernel) rfl⟩, tb2 (j := 235) (by decide +kernel) rfl, by decide, by decide +kernel⟩
theorem ms_J4_343 : zMS RJ4 343 yJ5_length_8abf5 cJ5_length_8abf5 1 (some .int) 0 := ⟨tb3 (j := 1) (by decide +kernel) rfl, tb1 (j := 32) (by decide +kernel) rfl, tb3 (j := 0) (by decide +kernel) rfl, tb2 (j := 236) (by decide +kernel) rfl, tb2 (j := 117) (by decide +kernel) rfl, tb2 (j := 235) (by decide +kernel) rfl, by decide, by decide +kernel⟩
theorem zpriv9 : Cond.privateMethod yJ5_ensureCapacityInternal_d00df ∈ lw_tbl := tin2 (j := 131) (by decide +kernel)
theorem zsel9 {g : zG} {κ : zC} {own : String} {cc : ByteArray} {nL : Nat} (X : zX g κ own cc nL) : (Cond.selects RJ4 yJ5_ensureCapacityInternal_d00df yJ5_ensureCapacityInternal_d00df).before (za κ) (zs κ) = true := zselP (by decide) (zWord X se_J5_isLatin1_aae02) rfl (va_Nw.use rfl (X.2.2.2.2.2.2.2.1 _ (List.mem_filter.mpr ⟨zpriv9, rfl⟩))) (zWord X in_J5_ensureCapacityInternal_d00df)
