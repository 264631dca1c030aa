section PROWS
variable {g : zG} {κ : zC} {own : String} {cc : ByteArray} {nL k n : Nat} {σ : zS} {pc : Nat} {lv : List (Nat × Value)} {rest : List Value}
/-- System.arraycopy between int arrays, from place 0 to place 0 -/
theorem V_copy0 (X : zX g κ own cc nL) {dd mc0 ms0 : Nat} (Hh : zH κ dd mc0 ms0) (hd : 8 ≤ dd) {idx a0 a n0 n1 m : Nat} {f h : Nat → Int32} (hlink : Cond.methodLink own idx arraycopyName ∈ zTBL) (hnat : Cond.native arraycopyName ∈ zTBL) (hstat : Cond.static arraycopyName ∈ zTBL) (hini : Cond.initialized "java/lang/System" ∈ zTBL)
    (he0 : σ.2 a0 = some (.inl (g.2.2.2 0, n0, .inl f))) (he1 : σ.2 a = some (.inl (g.2.2.2 0, n1, .inl h))) (ha : g.2.1.size ≤ a) (hm : m < 2 ^ 31) (h4 : m ≤ n0) (h5 : m ≤ n1) (hw : (rest.map fun v => v.category).sum ≤ 8) (d : decode cc pc = .ok (.invokestatic idx, 3))
    (kk : V g κ nL k n (σ.1, zup σ.2 a (.inl (g.2.2.2 0, n1, .inl (va_cpy f h 0 0 m)))) (pc + 3) lv rest) : V g κ nL k n σ pc lv (.int (nI m) :: .int (nI 0) :: .ref a :: .int (nI 0) :: .ref a0 :: rest) := by
  intro H locs ls hR hL hl T hT S
  obtain ⟨r1, r2, r3, r4⟩ := Hh
  have hc0 : H[a0]? = some (vp_cell (g.2.2.2 0) (n0, .inl f)) := hR.2.2.2 a0 _ he0
  have hc1 : H[a]? = some (vp_cell (g.2.2.2 0) (n1, .inl h)) := hR.2.2.2 a _ he1
  have hK := X.2.2.2.2.2.2.1
  obtain ⟨-, k0, hk0, cm0, hkk0⟩ := (hK.2 0 _ rfl).1 n0 (fun j => .int (f j))
  obtain ⟨-, k1, hk1, cm1, hkk1⟩ := (hK.2 0 _ rfl).1 n1 (fun j => .int (h j))
  have hm0 : (nI m).toInt = (m : Int) := nI_toInt hm
  have hmn : (nI m).toNatClampNeg = m := nI_clamp hm
  have h00 : (nI 0).toNatClampNeg = 0 := nI_clamp (by decide)
  have h01 : (nI 0).toInt = 0 := by decide
  have hnw : nativeFrameWords "java/lang/System" "arraycopy" 5 + 11 ≤ 200 := by decide
  obtain ⟨vm', X', step⟩ := S.arraycopy X.1 X.2.2.2.1 (zWord X hlink) (zWord X hnat) (zWord X hstat) (zWord X hini) (src := a0) (dst := a) (cs := vp_cell (g.2.2.2 0) (n0, .inl f)) (cd := vp_cell (g.2.2.2 0) (n1, .inl h)) (srcPos := nI 0) (destPos := nI 0) (n := nI m) (by rw [hT]; exact hc0) (by rw [hT]; exact hc1)
    (fun _ h => by cases h) (fun _ h => by cases h) (fun h => by cases h) (fun h => by cases h) hk0 hk1 hkk0 hkk1 (by simp [refKind]) (nI_pos (by decide)) (nI_pos (by decide)) (nI_pos hm)
    (by rw [h01, hm0]; show ¬ _ > ((arrV _ n0 (fun j => .int (f j))).slots.size : Int); rw [arrV_size]; omega)
    (by rw [h01, hm0]; show ¬ _ > ((arrV _ n1 (fun j => .int (h j))).slots.size : Int); rw [arrV_size]; omega)
    (fun vm₁ _ i hi => by
      rw [hmn] at hi
      have e : (vp_cell (g.2.2.2 0) (n0, .inl f)).slots.getD ((nI 0).toNatClampNeg + i) .null = .int (f ((nI 0).toNatClampNeg + i)) := by
        show (arrV _ n0 (fun j => .int (f j))).slots.getD _ _ = _
        rw [Array.getD_eq_getD_getElem?, arrV_read _ _ (by omega)]
        rfl
      refine ⟨?_, ?_⟩
      · rw [e]
        rfl
      · rw [e]
        exact trivial)
    (g := F0 (zm κ) pc ls (.int (nI m) :: .int (nI 0) :: .ref a :: .int (nI 0) :: .ref a0 :: rest)) rfl (hl.1.trans X.2.2.1.symm) (rest := rest) rfl (by rw [X.2.1]; exact d) (show 1 ≤ _ by omega) (by show 2 * 0 + _ + _ ≤ _; omega)
  have e1 : copied (vp_cell (g.2.2.2 0) (n0, .inl f)) (vp_cell (g.2.2.2 0) (n1, .inl h)) (nI 0) (nI 0) (nI m) = vp_cell (g.2.2.2 0) (n1, .inl (va_cpy f h (nI 0).toNatClampNeg (nI 0).toNatClampNeg (nI m).toNatClampNeg)) := va_copied (fun z => .int z) (g.2.2.2 0) (g.2.2.2 0) f h (by omega)
  rw [e1, hmn, h00] at X' step
  have hla : a < H.size := (Array.getElem?_eq_some_iff.mp hc1).1
  have hheap : ((T.setVm vm').setCell a (vp_cell (g.2.2.2 0) (n1, .inl (va_cpy f h 0 0 m)))).heap = H.setIfInBounds a (vp_cell (g.2.2.2 0) (n1, .inl (va_cpy f h 0 0 m))) := by rw [← hT]; rfl
  have oq : ∀ q : Nat, q ≠ a → (H.setIfInBounds a (vp_cell (g.2.2.2 0) (n1, .inl (va_cpy f h 0 0 m))))[q]? = H[q]? := fun q hq => by simp [Array.getElem?_setIfInBounds, Ne.symm hq]
  obtain ⟨t, a1, b1⟩ := kk _ _ ls (hR.put (c1 := vp_cell (g.2.2.2 0) (n1, .inl (va_cpy f h 0 0 m))) ha (by simp) oq hc1 (show (H.setIfInBounds a _)[a]? = some _ by simp [Array.getElem?_setIfInBounds, hla]) (by rw [vp_cell_i, vp_cell_i, arrV_size, arrV_size]) (show (H.setIfInBounds a _)[a]? = some _ by simp [Array.getElem?_setIfInBounds, hla])) (fun q hq => by
      rcases List.mem_append.mp hq with h | h
      · exact hL q h
      · obtain ⟨z, -, hz⟩ := List.mem_map.mp h
        rw [← hz]
        exact ha) hl _ hheap X'
  exact ⟨t, step t a1, b1⟩
theorem C_copy0 {t : Nat × Nat} {X0 : Nat} {F : Nat → Nat → Int32} {σ0 : Nat → Option va_E} (X : zX g κ own cc nL) {dd mc0 ms0 : Nat} (Hh : zH κ dd mc0 ms0) (hd : 8 ≤ dd) {idx : Nat} (hlink : Cond.methodLink own idx arraycopyName ∈ zTBL) (hnat : Cond.native arraycopyName ∈ zTBL) (hstat : Cond.static arraycopyName ∈ zTBL) (hini : Cond.initialized "java/lang/System" ∈ zTBL) (hX : g.2.1.size ≤ X0)
    (hw : (rest.map fun v => v.category).sum ≤ 8) (d : decode cc pc = .ok (.invokestatic idx, 3))
    (kk : ∀ F' : Nat → Nat → Int32, F' = frow F 13 (va_cpy (F 17) (F 13) 0 0 5) → V g κ nL k n (t, cW g X0 F' σ0) (pc + 3) lv rest) : V g κ nL k n (t, cW g X0 F σ0) pc lv (.int (nI 5) :: .int (nI 0) :: .ref (X0 + 13) :: .int (nI 0) :: .ref (X0 + 17) :: rest) := by
  refine V_copy0 X Hh hd hlink hnat hstat hini (n0 := 5) (n1 := 5) (f := F 17) (h := F 13) (show (t, cW g X0 F σ0).2 (X0 + 17) = _ from cW_at (by decide)) (show (t, cW g X0 F σ0).2 (X0 + 13) = _ from cW_at (by decide)) (by omega) (by decide) (by decide) (by decide) hw d ?_
  show V g κ nL k n (t, zup (cW g X0 F σ0) (X0 + 13) (.inl (g.2.2.2 0, 5, .inl (va_cpy (F 17) (F 13) 0 0 5)))) (pc + 3) lv rest
  rw [cW_row (k := 13) (f := va_cpy (F 17) (F 13) 0 0 5) (by decide) (show cCell g X0 13 _ = .inl (g.2.2.2 0, 5, .inl (va_cpy (F 17) (F 13) 0 0 5)) from rfl)]
  exact kk _ rfl
end PROWS
