/-! ===== throws by a wide index; new ===== -/
section QROWS
variable {g : zG} {κ : zC} {own : String} {cc : ByteArray} {nL k n : Nat} {σ : zS} {pc : Nat} {lv : List (Nat × Value)} {rest : List Value}
theorem V_throwSW (X : zX g κ own cc nL) {dd mc ms : Nat} {ret : Option FieldType} {Post : Option Value → zS → Prop} {XP : String → zS → Prop} (E : zE g κ dd ret mc ms Post XP) (hl0 : g.1.stackTraces = false) {cls text : String} {names : List String} {ik is ic : Nat} (hcls : Bundle.fit cls = true) (hnames : ∀ q ∈ names, Bundle.fit q = true)
    (hwd : ∀ w ∈ Cond.classLink own ik cls :: Cond.initialized cls :: vx_atS own ic cls names, w ∈ zTBL ∨ w ∈ zNL) (hot : ∀ w ∈ Cond.classLink own ik cls :: Cond.initialized cls :: vx_atS own ic cls names, vx_ot w = true)
    (hstr : ∃ sa, vk_R own is text sa (zs κ)) (d0 : decode cc pc = .ok (.new ik, 3)) (d3 : decode cc (pc + 3) = .ok (.dup, 1)) (d4 : decode cc (pc + 4) = .ok (.ldc_w is, 3)) (d6 : decode cc (pc + 7) = .ok (.invokespecial ic, 3)) (d9 : decode cc (pc + 10) = .ok (.athrow, 1))
    (hd : names.length + 3 < dd) (hw : (rest.map fun v => v.category).sum ≤ 8) (hnl : names.length ≤ 6) (hk : k + 1 ≤ mc) (hn : n + 6 ≤ ms) (hp : ∀ z : Nat × Nat, XP cls (z, σ.2)) : V g κ nL k n σ pc lv rest := by
  intro H locs ls hR hL hl
  obtain ⟨r1, r2, r3, r4⟩ := E.room
  have hts : ∀ w ∈ Cond.classLink own ik cls :: Cond.initialized cls :: vx_atS own ic cls names, w.before (za κ) (zs κ) = true := fun w hw => by
    rcases hwd w hw with h | h
    · exact zWord X h
    · have hz := (List.mem_filter.mp h).2
      exact va_Nw.use (by cases w <;> first | exact Bool.noConfusion (show false = true from hz) | rfl) (X.2.2.2.2.2.2.2.1 w h)
  obtain ⟨sa, hstr⟩ := hstr
  have hbase := E.2.2.2.2
  have hU := X.2.2.2.2.2.2.2.2.1
  have hN := X.2.2.2.2.2.2.2.2.2.1
  rw [E.2.1]
  intro T hT S
  have hz : (zs κ).heap.size ≤ H.size := by
    obtain ⟨-, h2, -⟩ := S.same
    rw [← hT]; exact h2
  refine vx_throwSW (A := zA g) X.1 X.2.1 hl0 X.2.2.2.1 hcls hnames (hts _ List.mem_cons_self) (hts _ (List.mem_cons_of_mem _ List.mem_cons_self)) hstr (fun w hw => hts w (List.mem_cons_of_mem _ (List.mem_cons_of_mem _ hw))) hot
    (hU.kept fun a h1 h2 => hbase.2 a h1) (hN.kept fun a h1 h2 => hbase.2 a h1)
    ⟨hz, fun q hq hA => ?_, fun q hq => hL q hq⟩ (hl.1.trans X.2.2.1.symm) d0 d3 d4 d6 d9 (fun x hx => (E.2.2.1 x hx).elim) (by omega) (by omega) (by omega) (by omega) X.2.2.2.2.2.1 ?_ hL hk hn T hT S
  · have hq2 : q < g.2.1.size := Nat.not_le.mp hA
    rw [hR.2.2.1 q hq2, hbase.2 q hq2]
  · intro t _ hsz hsame
    obtain ⟨h1, h2, h3, h4⟩ := hR
    refine ⟨((t.heap.size, hsl t.heap), σ.2), hp _, ⟨rfl, rfl⟩, Nat.le_trans h2 hsz, fun q hq => (hsame q (by omega)).trans (h3 q hq), fun a e ha => ?_⟩
    have hv := h4 a e ha
    exact hv.kept (hsame a hv.lt)
theorem V_new (X : zX g κ own cc nL) {dd mc0 ms0 : Nat} (Hh : zH κ dd mc0 ms0) {ci idx N : Nat} {C : String} {T : u_T} {fs : List Value} (hc : vwCl[ci]? = some (C, T, N)) (hin : ∀ w ∈ u_ws C T N, w ∈ zTBL) (ty : Nat → FieldType) (hty : ∀ j, j < N → parseFieldDescriptor (T j).2.2.1 = some (ty j)) (hcl : Cond.classLink own idx C ∈ zTBL) (hinst : Cond.instantiable C N ∈ zTBL) (hini : Cond.initialized C ∈ zTBL) (hfs : ∀ j, j < N → defaultValue (ty j) = vp_V fs j) (hcells : k + 1 ≤ mc0) (hslots : n + N ≤ ms0) (d : decode cc pc = .ok (.new idx, 3))
    (kk : V g κ nL (k + 1) (n + N) ((σ.1.1 + 1, σ.1.2 + N), zup σ.2 σ.1.1 (.inr (ci, fs))) (pc + 3) lv (.ref σ.1.1 :: rest)) : V g κ nL k n σ pc lv rest := by
  intro H locs ls hR hL hl
  obtain ⟨r1, r2, r3, r4⟩ := Hh
  have hKn := X.2.2.2.2.2.2.1.1 ci _ hc
  refine W.newc X.1 X.2.1 X.2.2.2.1 (zWord X hcl) (zWord X hinst) (zWord X hini) rfl d (by omega) (by omega) fun cC kC h1 h2 h3 h4 => ?_
  have hb : (H.push { cls := cC, slots := kC.instanceTypes.map defaultValue, vm := .none })[H.size]? = some (blank cC kC) := by simp [blank]
  have hcC : cC = g.2.2.1.1 ci := Option.some.inj (h1.symm.trans hKn.2.1)
  subst hcC
  have hz : H.size = σ.1.1 := hR.1.1
  have hp := hR.push (e := .inr (ci, fs)) (H1 := H.push { cls := _, slots := kC.instanceTypes.map defaultValue, vm := .none }) (c := blank _ kC) (by simp) (fun q hq => by rw [Array.getElem?_push, if_neg (Nat.ne_of_lt hq)]) hb ⟨_, hc, (u_born ty X.2.2.2.2.1 hin hKn h2 (by rw [← hz]; exact hb) hty).to hfs⟩
  have hsz : (blank (g.2.2.1.1 ci) kC).slots.size = N := by simp [blank, h4]
  rw [hsz] at hp
  have := kk _ locs ls hp hL hl
  rw [← hz] at this
  exact this
theorem V_newaI (X : zX g κ own cc nL) {dd mc0 ms0 : Nat} (Hh : zH κ dd mc0 ms0) (hw : Cond.arrayClass .int ∈ zTBL) {m : Nat} (hm : m < 65536) (hcells : k + 1 ≤ mc0) (hslots : n + m ≤ ms0) (d : decode cc pc = .ok (.newarray .int, 2))
    (kk : V g κ nL (k + 1) (n + m) ((σ.1.1 + 1, σ.1.2 + m), zup σ.2 σ.1.1 (.inl (g.2.2.2 0, m, .inl (fun _ => 0)))) (pc + 2) lv (.ref σ.1.1 :: rest)) : V g κ nL k n σ pc lv (.int (nI m) :: rest) := by
  intro H locs ls hR hL hl
  obtain ⟨r1, r2, r3, r4⟩ := Hh
  have hm' : (nI m).toNatClampNeg = m := nI_clamp (by omega)
  refine W.newa (atype := .int) X.1 X.2.1 (show (Cond.arrayClass (newarray.typeOf .int)).before _ _ = true from zWord X hw) rfl d rfl (nI_pos (by omega)) (by rw [hm']; show m * 4 ≤ _; omega) (by omega) (by rw [hm']; omega) fun cA kA comp h1 h2 h3 => ?_
  have hcA : cA = g.2.2.2 0 := Option.some.inj (h1.symm.trans (X.2.2.2.2.2.2.1.2 0 _ rfl).2)
  subst hcA
  have hz : H.size = σ.1.1 := hR.1.1
  rw [hm']
  have hb : (H.push { cls := g.2.2.2 0, slots := Array.replicate m (defaultValue (newarray.typeOf .int)), vm := .none })[H.size]? = some (vp_cell (g.2.2.2 0) (m, .inl (fun _ => 0))) := by
    rw [vp_cell_i]
    simp only [Array.getElem?_push_size]
    exact congrArg some (arrV_new ..)
  have hp := hR.push (e := .inl (g.2.2.2 0, m, .inl (fun _ => 0))) (H1 := H.push { cls := g.2.2.2 0, slots := Array.replicate m (defaultValue (newarray.typeOf .int)), vm := .none }) (by simp) (fun q hq => by rw [Array.getElem?_push, if_neg (Nat.ne_of_lt hq)]) hb (show _[σ.1.1]? = _ by rw [← hz]; exact hb)
  have hsz : (vp_cell (g.2.2.2 0) (m, .inl (fun _ => (0 : Int32)))).slots.size = m := by rw [vp_cell_i, arrV_size]
  rw [hsz] at hp
  have := kk _ locs ls hp hL hl
  rw [← hz] at this
  exact this
end QROWS
