/-! ===== the literal "none": an old String, of which value and coder are known ===== -/
theorem zLitF {g : zG} {κ : zC} {own : String} {cc : ByteArray} {nL : Nat} (X : zX g κ own cc nL) {a : Nat} (ha : a = g.2.2.2 6 ∨ a = g.2.2.2 7) : ∃ adK adV : Nat → Nat, vk_S 1 [4] [[110, 111, 110, 101]] adK adV (zA g) (zs κ) g.2.1 ∧ adK 0 = a := by
  have hS := X.2.2.2.2.2.2.2.2.2.2.1.1
  rcases ha with rfl | rfl
  · obtain ⟨k, v, h1, h2⟩ := hS ("Doublecoat", 229) (by decide)
    exact ⟨k, v, h1, Value.ref.inj (Option.some.inj (h2.2.symm.trans (zNone5 X).2))⟩
  · obtain ⟨k, v, h1, h2⟩ := hS ("DoublecoatModel", 300) (by decide)
    exact ⟨k, v, h1, Value.ref.inj (Option.some.inj (h2.2.symm.trans (zNone12 X).2))⟩
section LIT
variable {g : zG} {κ : zC} {own : String} {cc : ByteArray} {nL k n : Nat} {σ : zS} {pc : Nat} {lv : List (Nat × Value)} {rest st : List Value}
theorem V_getfL (X : zX g κ own cc nL) {q idx : Nat} {o nm ds ref : String} {v : Value} (hOF : va_OF o nm ds v q (zA g) (zs κ) g.2.1) (hlink : Cond.fieldLink own idx ref nm ds ∈ zTBL) (hsame : ∀ x, (zs κ).fieldFound? o nm ds = some x → (zs κ).fieldFound? ref nm ds = some x) (d : decode cc pc = .ok (.getfield idx, 3)) (kk : V g κ nL k n σ (pc + 3) lv (v :: rest)) : V g κ nL k n σ pc lv (.ref q :: rest) := by
  intro H locs ls hR hL hl
  obtain ⟨cf, k', fi, f', cell, h1, h2, h3, h4, h5, h6⟩ := hOF.kept (H1 := H) (fun a h1 _ => hR.2.2.1 a h1)
  exact W.getf X.1 X.2.1 X.2.2.2.1 (zWord X hlink) (hsame _ h1) h2 h3 h4 (v := v) h5 rfl rfl d (kk H locs ls hR hL hl)
theorem V_alenL (X : zX g κ own cc nL) {q N : Nat} {ty : FieldType} {f : Nat → Value} (hT : va_T ty q N f (zA g) (zs κ) g.2.1) (d : decode cc pc = .ok (.arraylength, 1)) (kk : V g κ nL k n σ (pc + 1) lv (.int (Int32.ofNat N) :: rest)) : V g κ nL k n σ pc lv (.ref q :: rest) := by
  intro H locs ls hR hL hl
  obtain ⟨cell, h1, h2, h3, h4, h5, h6, h7⟩ := hT.kept (H1 := H) (fun a h1 _ => hR.2.2.1 a h1)
  exact W.alen (n := Int32.ofNat N) X.1 X.2.1 h1 h2 h5 rfl rfl d (kk H locs ls hR hL hl)
theorem V_callVL (X : zX g κ own cc nL) {dd mc0 ms0 : Nat} (Hh : zH κ dd mc0 ms0) {idx d' nL' np mc ms b : Nat} {y : MethodName} {cc' : ByteArray} {ret : Option FieldType} {av : List Value} {Post : Option Value → zS → Prop} {XP : String → zS → Prop} (M : zM own idx y cc' nL' ret np) (hin : Cond.instanceMethod y ∈ zTBL) {C : String} (hse : Cond.selects C y y ∈ zTBL) (hr : va_O C b (zA g) (zs κ) g.2.1) (hd : d' < dd) (hnl : nL' ≤ 21) (hC : Ct g d' y cc' nL' ret mc ms (.ref b :: av) σ Post XP)
    (hav : av.length = np) (hs : st = av.reverse ++ .ref b :: rest) (hw : (rest.map fun v => v.category).sum ≤ 8) (hc : k + mc ≤ mc0 ∧ n + ms ≤ ms0) (d : decode cc pc = .ok (.invokevirtual idx, 3))
    (kx : ∀ (E : String) (σ' : zS), XP E σ' → VX g κ nL (k + mc) (n + ms) σ' pc lv rest E)
    (kk : ∀ (v : Option Value) (σ' : zS), Post v σ' → V g κ nL (k + mc) (n + ms) σ' (pc + 3) lv (v.toList ++ rest)) : V g κ nL k n σ pc lv st := by
  refine V_run (rest := rest) (fun H locs ls hR hl => ?_) kx kk
  obtain ⟨cell, h1, h2, h3, h4⟩ := hr.kept (H1 := H) (fun a h1 _ => hR.2.2.1 a h1)
  exact vx_runV (As := av) (C := C) ⟨X.1, X.2.1, X.2.2.1, X.2.2.2.1, X.2.2.2.2.1⟩ hC ⟨zCB X Hh M hd hnl, zWord X hin, zWord X hse⟩ ⟨(zPre X hR (av := .ref b :: av)).1, ⟨cell, h1, h2, h3⟩, (zPre X hR).2⟩ rfl hav hl.1 hs (lv_room hw) d ⟨Nat.le_trans hc.1 Hh.2.2.1, Nat.le_trans hc.2 Hh.2.2.2⟩
end LIT
set_option maxRecDepth 100000 in
set_option maxHeartbeats 4000000 in
theorem k_J0_coder_lit {g : zG} {t : Nat × Nat} {f : Nat → Option va_E} {a : Nat} (ha : a = g.2.2.2 6 ∨ a = g.2.2.2 7) : Ct g 10 yJ0_coder_7d493 cJ0_coder_7d493 1 (some FieldType.byte) 0 (0) [.ref (a)] (t, f) (fun v σ' => v = some (.int (nI 0)) ∧ σ' = (t, f)) zNo := by
  refine Ct.ofN (lv := [(0, .ref (a))]) (by decide) (Nat.le_of_ble_eq_true rfl) rfl ?_
  intro κ X E B9 hnm
  have X : zX g κ RJ0 cJ0_coder_7d493 1 := X
  obtain ⟨k9, v9, hS9, e9⟩ := zLitF X ha
  have h9 := (hS9.1 0 (by decide)).2.1
  rw [e9] at h9
  refine V_gets X E (v := .int (nI (1))) (zComp X) gs_J0_38 dJ0_coder_7d493_0 ?_
  show V g κ 1 0 (0) (t, f) 3 [(0, .ref (a))] [.int (nI (1))]
  refine V_ifeqN X (by omega) (tgt := 13) dJ0_coder_7d493_3 (by decide) (fun h1 => ((absurd h1 (by decide) : False)).elim) (fun h1 => ?_)
  refine V_aload_n X dJ0_coder_7d493_6 0 rfl ?_
  refine V_getfL X h9 fk_J0_15 (fun _ h => h) dJ0_coder_7d493_7 ?_
  show V g κ 1 0 (0) (t, f) 10 [(0, .ref (a))] [.int (nI (0))]
  refine V_goto (tgt := 14) X dJ0_coder_7d493_10 (by decide) ?_
  exact V_zret X E (by first | rfl | decide) (by omega) (by omega) ⟨rfl, rfl⟩ dJ0_coder_7d493_14
set_option maxRecDepth 100000 in
set_option maxHeartbeats 4000000 in
theorem k_J0_length_lit {g : zG} {t : Nat × Nat} {f : Nat → Option va_E} {a : Nat} (ha : a = g.2.2.2 6 ∨ a = g.2.2.2 7) : Ct g 11 yJ0_length_8abf5 cJ0_length_8abf5 1 (some FieldType.int) 0 (0) [.ref (a)] (t, f) (fun v σ' => (∃ x : Int32, v = some (.int x)) ∧ σ' = (t, f)) zNo := by
  refine Ct.ofN (lv := [(0, .ref (a))]) (by decide) (Nat.le_of_ble_eq_true rfl) rfl ?_
  intro κ X E B9 hnm
  have X : zX g κ RJ0 cJ0_length_8abf5 1 := X
  obtain ⟨k9, v9, hS9, e9⟩ := zLitF X ha
  have h9 := (hS9.1 0 (by decide)).2.2.1
  have hr9 := (hS9.1 0 (by decide)).1
  have ht9 := (hS9.1 0 (by decide)).2.2.2
  rw [e9] at h9 hr9
  refine V_aload_n X dJ0_length_8abf5_0 0 rfl ?_
  refine V_getfL X h9 fk_J0_9 (fun _ h => h) dJ0_length_8abf5_1 ?_
  refine V_alenL X ht9 dJ0_length_8abf5_4 (V.topi (fun y9 ey9 => ?_))
  refine V_aload_n X dJ0_length_8abf5_5 0 rfl ?_
  refine V_callVL (rest := [.int y9]) X E.room ml_J0_335 in_J0_coder_7d493 (C := RJ0) se_J0_coder_7d493 hr9 (by decide) (by decide) (k_J0_coder_lit ha) rfl rfl (Nat.le_of_ble_eq_true rfl) ⟨by omega, by omega⟩ dJ0_length_8abf5_6 (fun _ _ h => False.elim h) (fun v1 σ' hp2 => ?_)
  obtain ⟨hp2, rfl⟩ := hp2
  cases (hp2 : _ = some (Value.int (nI (0))))
  show V g κ 1 0 (0) (t, f) 9 [(0, .ref (a))] [.int (nI (0)), .int y9]
  refine V_ishr X dJ0_length_8abf5_9 (V.topi (fun w3 ew3 => ?_))
  exact V_iret X E (by omega) (by omega) ⟨⟨_, rfl⟩, rfl⟩ dJ0_length_8abf5_10
