/-! ===== bytes, Math.min ===== -/
section SBROWS
variable {g : zG} {κ : zC} {own : String} {cc : ByteArray} {nL k n : Nat} {σ : zS} {pc : Nat} {lv : List (Nat × Value)} {rest : List Value}
/-- System.arraycopy between byte arrays, from place 0 to place 0 -/
theorem V_copyB (X : zX g κ own cc nL) {dd mc0 ms0 : Nat} (Hh : zH κ dd mc0 ms0) (hd : 8 ≤ dd) {idx a0 a n0 n1 m : Nat} {f h : Nat → Int32} (hlink : Cond.methodLink own idx arraycopyName ∈ zTBL) (hnat : Cond.native arraycopyName ∈ zTBL) (hstat : Cond.static arraycopyName ∈ zTBL) (hini : Cond.initialized "java/lang/System" ∈ zTBL)
    (he0 : σ.2 a0 = some (.inl (g.2.2.2 2, n0, .inl f))) (he1 : σ.2 a = some (.inl (g.2.2.2 2, n1, .inl h))) (ha : g.2.1.size ≤ a) (hm : m < 2 ^ 31) (hfit : sb_Fit f) (h4 : m ≤ n0) (h5 : m ≤ n1) (hw : (rest.map fun v => v.category).sum ≤ 8) (d : decode cc pc = .ok (.invokestatic idx, 3))
    (kk : V g κ nL k n (σ.1, zup σ.2 a (.inl (g.2.2.2 2, n1, .inl (va_cpy f h 0 0 m)))) (pc + 3) lv rest) : V g κ nL k n σ pc lv (.int (nI m) :: .int (nI 0) :: .ref a :: .int (nI 0) :: .ref a0 :: rest) := by
  intro H locs ls hR hL hl T hT S
  obtain ⟨r1, r2, r3, r4⟩ := Hh
  have hc0 : H[a0]? = some (vp_cell (g.2.2.2 2) (n0, .inl f)) := hR.2.2.2 a0 _ he0
  have hc1 : H[a]? = some (vp_cell (g.2.2.2 2) (n1, .inl h)) := hR.2.2.2 a _ he1
  have hK := X.2.2.2.2.2.2.1
  obtain ⟨-, k0, hk0, cm0, hkk0⟩ := (hK.2 2 _ rfl).1 n0 (fun j => .int (f j))
  obtain ⟨-, k1, hk1, cm1, hkk1⟩ := (hK.2 2 _ rfl).1 n1 (fun j => .int (h j))
  have hm0 : (nI m).toInt = (m : Int) := nI_toInt hm
  have hmn : (nI m).toNatClampNeg = m := nI_clamp hm
  have h00 : (nI 0).toNatClampNeg = 0 := nI_clamp (by decide)
  have h01 : (nI 0).toInt = 0 := by decide
  have hnw : nativeFrameWords "java/lang/System" "arraycopy" 5 + 11 ≤ 200 := by decide
  obtain ⟨vm', X', step⟩ := S.arraycopy X.1 X.2.2.2.1 (zWord X hlink) (zWord X hnat) (zWord X hstat) (zWord X hini) (src := a0) (dst := a) (cs := vp_cell (g.2.2.2 2) (n0, .inl f)) (cd := vp_cell (g.2.2.2 2) (n1, .inl h)) (srcPos := nI 0) (destPos := nI 0) (n := nI m) (by rw [hT]; exact hc0) (by rw [hT]; exact hc1)
    (fun _ h => by cases h) (fun _ h => by cases h) (fun h => by cases h) (fun h => by cases h) hk0 hk1 hkk0 hkk1 (by simp [refKind]) (nI_pos (by decide)) (nI_pos (by decide)) (nI_pos hm)
    (by rw [h01, hm0]; show ¬ _ > ((arrV _ n0 (fun j => .int (f j))).slots.size : Int); rw [arrV_size]; omega)
    (by rw [h01, hm0]; show ¬ _ > ((arrV _ n1 (fun j => .int (h j))).slots.size : Int); rw [arrV_size]; omega)
    (fun vm₁ _ i hi => by
      rw [hmn] at hi
      have e : (vp_cell (g.2.2.2 2) (n0, .inl f)).slots.getD ((nI 0).toNatClampNeg + i) .null = .int (f ((nI 0).toNatClampNeg + i)) := by
        show (arrV _ n0 (fun j => .int (f j))).slots.getD _ _ = _
        rw [Array.getD_eq_getD_getElem?, arrV_read _ _ (by omega)]
        rfl
      refine ⟨?_, ?_⟩
      · rw [e]
        exact hfit _
      · rw [e]
        exact trivial)
    (g := F0 (zm κ) pc ls (.int (nI m) :: .int (nI 0) :: .ref a :: .int (nI 0) :: .ref a0 :: rest)) rfl (hl.1.trans X.2.2.1.symm) (rest := rest) rfl (by rw [X.2.1]; exact d) (show 1 ≤ _ by omega) (by show 2 * 0 + _ + _ ≤ _; omega)
  have e1 : copied (vp_cell (g.2.2.2 2) (n0, .inl f)) (vp_cell (g.2.2.2 2) (n1, .inl h)) (nI 0) (nI 0) (nI m) = vp_cell (g.2.2.2 2) (n1, .inl (va_cpy f h (nI 0).toNatClampNeg (nI 0).toNatClampNeg (nI m).toNatClampNeg)) := va_copied (fun z => .int z) (g.2.2.2 2) (g.2.2.2 2) f h (by omega)
  rw [e1, hmn, h00] at X' step
  have hla : a < H.size := (Array.getElem?_eq_some_iff.mp hc1).1
  have hheap : ((T.setVm vm').setCell a (vp_cell (g.2.2.2 2) (n1, .inl (va_cpy f h 0 0 m)))).heap = H.setIfInBounds a (vp_cell (g.2.2.2 2) (n1, .inl (va_cpy f h 0 0 m))) := by rw [← hT]; rfl
  have oq : ∀ q : Nat, q ≠ a → (H.setIfInBounds a (vp_cell (g.2.2.2 2) (n1, .inl (va_cpy f h 0 0 m))))[q]? = H[q]? := fun q hq => by simp [Array.getElem?_setIfInBounds, Ne.symm hq]
  obtain ⟨t, a1, b1⟩ := kk _ _ ls (hR.put (c1 := vp_cell (g.2.2.2 2) (n1, .inl (va_cpy f h 0 0 m))) ha (by simp) oq hc1 (show (H.setIfInBounds a _)[a]? = some _ by simp [Array.getElem?_setIfInBounds, hla]) (by rw [vp_cell_i, vp_cell_i, arrV_size, arrV_size]) (show (H.setIfInBounds a _)[a]? = some _ by simp [Array.getElem?_setIfInBounds, hla])) (fun q hq => by
      rcases List.mem_append.mp hq with h | h
      · exact hL q h
      · obtain ⟨z, -, hz⟩ := List.mem_map.mp h
        rw [← hz]
        exact ha) hl _ hheap X'
  exact ⟨t, step t a1, b1⟩
theorem V_mmin (X : zX g κ own cc nL) {dd mc0 ms0 : Nat} (Hh : zH κ dd mc0 ms0) (hk : k ≤ mc0) (hn : n ≤ ms0) (hd : 1 ≤ dd) {y : MethodName} {cc' : ByteArray} {idx np : Nat} (M : zM own idx y cc' 2 (some .int) np) (hst : Cond.static y ∈ zTBL) (hy : y = Lib.Math.min.name) (hc : cc' = Lib.Math.min.code) (hw : (rest.map fun v => v.category).sum ≤ 8) {x z : Int32} (d : decode cc pc = .ok (.invokestatic idx, 3)) (kk : V g κ nL k n σ (pc + 3) lv (.int (if z < x then z else x) :: rest)) : V g κ nL k n σ pc lv (.int z :: .int x :: rest) := by
  subst hy; subst hc
  obtain ⟨⟨h1, h2, h3⟩, h4⟩ := M
  obtain ⟨r1, r2, r3, r4⟩ := Hh
  exact fun H locs ls hR hL hl => va_mmin X.1 X.2.1 (X.2.2.1.trans hl.1.symm) X.2.2.2.1 (zWord X h4) (zWord X hst) (zWord X h2) (zWord X h1) (by omega) (by omega) (by omega) (by omega) d (kk H locs ls hR hL hl)
end SBROWS
theorem znar (x : Int32) : fits .byte (.int (vp_nar .byte x)) = true := pk_fb x
theorem zsubn {a b : Nat} (h : a ≤ b) (hb : b < 2 ^ 30) : nI a - nI b ≤ 0 := by
  rw [Int32.le_iff_toInt_le, pk_sub_toInt (by omega) hb, show (0 : Int32).toInt = 0 from by decide]
  omega
