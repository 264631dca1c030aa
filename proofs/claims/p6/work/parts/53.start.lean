/-! ===== what the start gives: classes, arrays, statics, String constants ===== -/
theorem zcur {own tx : String} {k : Nat} {A : Array Value} {U : State} (h : (Cond.stringRef own k tx).before A U = true) : ∃ cur, U.vm.findClass own = some cur := by
  have h1 := h
  simp only [Cond.before, Cond.holds, Cond.value] at h1
  cases hc : U.vm.findClass own with
  | none => simp [hc] at h1
  | some cur => exact ⟨cur, rfl⟩
theorem zR_ex {own tx : String} {k : Nat} {A : Array Value} {U : State} (h : (Cond.stringRef own k tx).before A U = true) : ∃ a : Nat, vk_R own k tx a U := by
  obtain ⟨cur, hcur⟩ := zcur h
  obtain ⟨k', cf, i, a, -, -, -, -, -, he⟩ := Cond.stringRef_spec hcur h
  exact ⟨a, vk_R.of h he⟩
theorem zNone_of {s : State} {A : Array Value} {own : String} {k : Nat} (hex : (Cond.exactly (.string own k) "java/lang/String").before A s = true) (hco : (Cond.eq (.field (.string own k) "java/lang/String" "coder" "B") (.int 0)).before A s = true) (har : (Cond.arrayOf (.field (.string own k) "java/lang/String" "value" "[B") .byte).before A s = true) (hle : (Cond.eq (.length (.field (.string own k) "java/lang/String" "value" "[B")) (.int 4)).before A s = true)
    (h0 : (Cond.eq (.elem (.field (.string own k) "java/lang/String" "value" "[B") (.int 0)) (.int 110)).before A s = true) (h1 : (Cond.eq (.elem (.field (.string own k) "java/lang/String" "value" "[B") (.int 1)) (.int 111)).before A s = true) (h2 : (Cond.eq (.elem (.field (.string own k) "java/lang/String" "value" "[B") (.int 2)) (.int 110)).before A s = true) (h3 : (Cond.eq (.elem (.field (.string own k) "java/lang/String" "value" "[B") (.int 3)) (.int 101)).before A s = true)
    (hr : (Cond.stringRef own k "none").before A s = true) : ∃ adK adV : Nat → Nat, vk_S 1 [4] [[110, 111, 110, 101]] adK adV (fun q => s.heap.size ≤ q) s s.heap ∧ vk_R own k "none" (adK 0) s := by
  obtain ⟨K, V, q1, q2⟩ := vk_Sof (args := A) (N := 1) (tm := fun _ => .string own k) (len := [4]) (byt := [[110, 111, 110, 101]]) (A := fun q => s.heap.size ≤ q) (fun i hi => by have e : i = 0 := (by omega); subst e; decide) (fun _ _ => hex) (fun _ _ => hco) (fun _ _ => har) (fun i hi => by have e : i = 0 := (by omega); subst e; exact hle) (fun i hi j hj => by
    have e : i = 0 := by omega
    subst e
    have hj : j < 4 := hj
    match j, hj with
    | 0, _ => exact h0
    | 1, _ => exact h1
    | 2, _ => exact h2
    | 3, _ => exact h3
    | j + 4, hj => exact absurd hj (by omega)) (fun i j hi hj h => absurd (by omega : i = j) h) (fun a h => Nat.not_le.mpr h)
  exact ⟨K, V, q1, vk_R.of hr (q2 0 (by omega))⟩
theorem zNst_on {w : Cond} (hw : zNst w = true) : w.onTables = true := by
  cases w <;> first | rfl | exact Bool.noConfusion (show false = true from hw)
set_option maxRecDepth 100000 in
set_option maxHeartbeats 4000000 in
theorem z_start (l : Launch) {s : State} {b : Nat} (hts : ∀ w ∈ lw_tbl, w.before #[Value.ref b] s = true) (hgv : (Jvm.Cond.and given_1 narrow_1).before #[Value.ref b] s = true) : ∃ g : zG, g.1 = l ∧ g.2.1 = s.heap ∧ zKK g s ∧ zEmC g := by
  have hs := flat_of_before _ hgv
  have hT : ∀ w ∈ zTBL, w.before #[Value.ref b] s = true := fun w hw => hts w (List.mem_filter.mp hw).1
  have hA : ∀ a : Nat, a < s.heap.size → ¬ (s.heap.size ≤ a) := fun a h => Nat.not_le.mpr h
  have hcl : ∀ q ∈ vwCl, ∃ (cC : ClassId) (iS : Nat → Nat), u_Kn s q.1 q.2.1 q.2.2 cC iS := List.forall_mem_cons.mpr ⟨u_known hT zi_J0 (hT _ mk_J0), List.forall_mem_cons.mpr ⟨u_known hT zi_J4 (hT _ mk_J4), List.forall_mem_cons.mpr ⟨u_known hT zi_Jx35411 (hT _ mk_Jx35411), List.forall_mem_cons.mpr ⟨u_known hT zi_Jx4a65c (hT _ mk_Jx4a65c), List.forall_mem_cons.mpr ⟨u_known hT zi_X0 (hT _ mk_X0), List.forall_mem_cons.mpr ⟨u_known hT zi_X1 (hT _ mk_X1), List.forall_mem_cons.mpr ⟨u_known hT zi_X2 (hT _ mk_X2), List.forall_mem_cons.mpr ⟨u_known hT zi_X3 (hT _ mk_X3), List.forall_mem_cons.mpr ⟨u_known hT zi_X4 (hT _ mk_X4), List.forall_mem_cons.mpr ⟨u_known hT zi_X5 (hT _ mk_X5), List.forall_mem_cons.mpr ⟨u_known hT zi_X6 (hT _ mk_X6), List.forall_mem_cons.mpr ⟨u_known hT zi_X7 (hT _ mk_X7), List.forall_mem_cons.mpr ⟨u_known hT zi_X8 (hT _ mk_X8), List.forall_mem_cons.mpr ⟨u_known hT zi_X9 (hT _ mk_X9), List.forall_mem_cons.mpr ⟨u_known hT zi_X10 (hT _ mk_X10), List.forall_mem_cons.mpr ⟨u_known hT zi_X11 (hT _ mk_X11), List.forall_mem_cons.mpr ⟨u_known hT zi_X12 (hT _ mk_X12), fun _ h => absurd h List.not_mem_nil⟩⟩⟩⟩⟩⟩⟩⟩⟩⟩⟩⟩⟩⟩⟩⟩⟩
  have hch : ∀ c : Nat, ∃ p : ClassId × (Nat → Nat), ∀ q : vw_C, vwCl[c]? = some q → u_Kn s q.1 q.2.1 q.2.2 p.1 p.2 := by
    intro c
    rcases h : vwCl[c]? with _ | q
    · exact ⟨(0, fun _ => 0), fun q hq => by cases hq⟩
    · obtain ⟨cC, iS, hk⟩ := hcl q (List.mem_of_getElem? h)
      exact ⟨(cC, iS), fun q' hq' => by cases hq'; exact hk⟩
  obtain ⟨dc, hdc⟩ := Classical.axiomOfChoice hch
  obtain ⟨cI, kI, pI, i1, i2, i3⟩ := Cond.arrayClass_spec (hT _ ay_int)
  obtain ⟨cZ, kZ, pZ, z1, z2, z3⟩ := Cond.arrayClass_spec (hT _ ay_boolean)
  obtain ⟨cB, kB, pB, b1, b2, b3⟩ := Cond.arrayClass_spec (hT _ ay_byte)
  have hO : (Cond.arrayOver (.object "java/lang/Object")).before #[Value.ref b] s = true := hts _ (tin5 (j := 238) (by decide +kernel))
  have hAA : (Cond.arrayOver (.array .int)).before #[Value.ref b] s = true := hts _ (tin1 (j := 192) (by decide +kernel))
  obtain ⟨pO, cO, kO, o1, -, o3, o4, o5⟩ := Cond.arrayOver_spec hO
  obtain ⟨pA, cA, kA, a1, -, a3, a4, a5⟩ := arrayOverA_spec hAA
  obtain ⟨aE, cE, scr, kE, e1, e2, e3, e4, e5, e6, -⟩ := Cond.exactly_spec (hs (Cond.exactly (.static "java/util/ArrayList" "DEFAULTCAPACITY_EMPTY_ELEMENTDATA" "[Ljava/lang/Object;") "[Ljava/lang/Object;") (by decide +kernel))
  have hcE : cE = cO := Option.some.inj (e2.symm.trans o5)
  have hst : ∀ k, scr.vm ≠ .statics k := (Cond.arrayOf_spec (hs (Cond.arrayOf (.static "java/util/ArrayList" "DEFAULTCAPACITY_EMPTY_ELEMENTDATA" "[Ljava/lang/Object;") (.object "java/lang/Object")) (by decide +kernel)) e1 e3).1.1
  have hlen : scr.slots.size.toInt32 = nI 0 := by
    obtain ⟨a', c', l1, l2, l3⟩ := Term.length_spec (va_eqt (hs (Cond.eq (.length (.static "java/util/ArrayList" "DEFAULTCAPACITY_EMPTY_ELEMENTDATA" "[Ljava/lang/Object;")) (.int 0)) (by decide +kernel)))
    cases e1.symm.trans l1
    cases e3.symm.trans (State.arrayAt?_spec l2).1
    exact (Value.int.inj l3).symm
  have w6 : (Cond.stringRef "Doublecoat" 229 "none").before #[Value.ref b] s = true := hts _ (tin2 (j := 86) (by decide +kernel))
  have w7 : (Cond.stringRef "DoublecoatModel" 300 "none").before #[Value.ref b] s = true := hts _ (tin7 (j := 111) (by decide +kernel))
  obtain ⟨a6, r6⟩ := zR_ex w6
  obtain ⟨a7, r7⟩ := zR_ex w7
  have hN : ∀ q ∈ zNone, ∃ adK adV : Nat → Nat, vk_S 1 [4] [[110, 111, 110, 101]] adK adV (fun q => s.heap.size ≤ q) s s.heap ∧ vk_R q.1 q.2 "none" (adK 0) s := List.forall_mem_cons.mpr ⟨zNone_of (hs _ (by decide +kernel)) (hs _ (by decide +kernel)) (hs _ (by decide +kernel)) (hs _ (by decide +kernel)) (hs _ (by decide +kernel)) (hs _ (by decide +kernel)) (hs _ (by decide +kernel)) (hs _ (by decide +kernel)) w6, List.forall_mem_cons.mpr ⟨zNone_of (hs _ (by decide +kernel)) (hs _ (by decide +kernel)) (hs _ (by decide +kernel)) (hs _ (by decide +kernel)) (hs _ (by decide +kernel)) (hs _ (by decide +kernel)) (hs _ (by decide +kernel)) (hs _ (by decide +kernel)) w7, fun _ h => absurd h List.not_mem_nil⟩⟩
  have hS : ∀ q ∈ zStr, ∃ a : Nat, vk_R q.1 q.2.1 q.2.2 a s := List.forall_mem_cons.mpr ⟨zR_ex (hts _ (tin4 (j := 218) (by decide +kernel))), List.forall_mem_cons.mpr ⟨zR_ex (hts _ (tin4 (j := 226) (by decide +kernel))), List.forall_mem_cons.mpr ⟨zR_ex (hts _ (tin5 (j := 15) (by decide +kernel))), List.forall_mem_cons.mpr ⟨⟨a6, r6⟩, List.forall_mem_cons.mpr ⟨zR_ex (hts _ (tin3 (j := 231) (by decide +kernel))), List.forall_mem_cons.mpr ⟨zR_ex (hts _ (tin4 (j := 169) (by decide +kernel))), List.forall_mem_cons.mpr ⟨zR_ex (hts _ (tin4 (j := 14) (by decide +kernel))), List.forall_mem_cons.mpr ⟨zR_ex (hts _ (tin4 (j := 144) (by decide +kernel))), List.forall_mem_cons.mpr ⟨⟨a7, r7⟩, fun _ h => absurd h List.not_mem_nil⟩⟩⟩⟩⟩⟩⟩⟩⟩
  have hU : vx_Zq Bundle.tN "UNASSIGNED_STACK" Bundle.steD (fun q => s.heap.size ≤ q) s s.heap := vx_Zqof (hts _ (tin3 (j := 39) (by decide +kernel))) (hts _ (tin1 (j := 12) (by decide +kernel))) (hs (Cond.isRef (.static "java/lang/Throwable" "UNASSIGNED_STACK" "[Ljava/lang/StackTraceElement;")) (by decide +kernel)) hA
  have hP : vx_Zq Bundle.tN "SUPPRESSED_SENTINEL" Bundle.listD (fun q => s.heap.size ≤ q) s s.heap := vx_Zqof (hts _ (tin3 (j := 41) (by decide +kernel))) (hts _ (tin1 (j := 12) (by decide +kernel))) (hs (Cond.isRef (.static "java/lang/Throwable" "SUPPRESSED_SENTINEL" "Ljava/util/List;")) (by decide +kernel)) hA
  have hF1 : va_Fw RJx35411 zItH yJx35411_hasNext_aae02 s := va_Fw.of (hts _ (tin6 (j := 103) (by decide +kernel))) (hts _ (tin6 (j := 102) (by decide +kernel))) (hts _ (tin6 (j := 108) (by decide +kernel))) (hts _ (tin6 (j := 106) (by decide +kernel))) (hts _ (tin6 (j := 104) (by decide +kernel)))
  have hF2 : va_Fw RJx35411 zItN yJx35411_next_0502b s := va_Fw.of (hts _ (tin6 (j := 113) (by decide +kernel))) (hts _ (tin6 (j := 112) (by decide +kernel))) (hts _ (tin6 (j := 117) (by decide +kernel))) (hts _ (tin6 (j := 115) (by decide +kernel))) (hts _ (tin6 (j := 104) (by decide +kernel)))
  have hC : va_Z "java/lang/String" "COMPACT_STRINGS" "Z" (.int 1) (fun q => s.heap.size ≤ q) s s.heap := va_Zof (hts _ (tin2 (j := 97) (by decide +kernel))) (hts _ (tin1 (j := 34) (by decide +kernel))) (va_eqi (hs (Cond.eq (.static "java/lang/String" "COMPACT_STRINGS" "Z") (.int 1)) (by decide +kernel))) hA
  have hE : va_Z "java/util/ArrayList" "DEFAULTCAPACITY_EMPTY_ELEMENTDATA" "[Ljava/lang/Object;" (.ref aE) (fun q => s.heap.size ≤ q) s s.heap := va_Zref (hts _ (tin5 (j := 78) (by decide +kernel))) (hts _ (tin1 (j := 10) (by decide +kernel))) e1 hA
  refine ⟨(l, s.heap, (fun c => (dc c).1, fun c => (dc c).2), fun k => match k with | 0 => cI | 1 => cZ | 2 => cB | 3 => cO | 4 => cA | 5 => aE | 6 => a6 | _ => a7), rfl, rfl, ⟨⟨fun c q hq => hdc c q hq, fun k q hk => ?_⟩, fun w hw => va_Nw.of (zNst_on (List.mem_filter.mp hw).2) (hts w (List.mem_filter.mp hw).1), hU, hP, ⟨hN, hS⟩, ⟨⟨hF1, hF2⟩, r6, r7⟩, va_AO.of hO, hAA, hC, hE, va_Nc.of (hs (Cond.not (Cond.castable "java/lang/IllegalStateException" "java/lang/IllegalArgumentException")) (by decide +kernel)), va_Nc.of (hs (Cond.not (Cond.castable "java/lang/IllegalArgumentException" "java/lang/IndexOutOfBoundsException")) (by decide +kernel)), va_Nc.of (hs (Cond.not (Cond.castable "java/lang/IllegalStateException" "java/lang/IndexOutOfBoundsException")) (by decide +kernel))⟩, scr, e3, e6.trans hcE, hst, hlen⟩
  match k, hk with
  | 0, hk => cases hk; exact ⟨fun n z => ⟨fun k h => (by cases h), kI, i2, pI, i3⟩, i1⟩
  | 1, hk => cases hk; exact ⟨fun n z => ⟨fun k h => (by cases h), kZ, z2, pZ, z3⟩, z1⟩
  | 2, hk => cases hk; exact ⟨fun n z => ⟨fun k h => (by cases h), kB, b2, pB, b3⟩, b1⟩
  | 3, hk => cases hk; exact ⟨fun n z => ⟨fun k h => (by cases h), kO, o3, pO, o4⟩, kO, pO, o3, o4, o1, o5⟩
  | 4, hk => cases hk; exact ⟨fun n z => ⟨fun k h => (by cases h), kA, a3, pA, a4⟩, a5⟩
  | k + 5, hk => simp [zTY] at hk
