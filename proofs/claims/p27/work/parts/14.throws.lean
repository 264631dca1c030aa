/-! the words of a throw, by their places -/
theorem zAll {L : List Cond} (ps : List Nat) (h : L = ps.filterMap (fun i => lw_tbl[i]?)) (hg : L.all (fun w => goodWord w || zNst w) = true) : ∀ w ∈ L, w ∈ zTBL ∨ w ∈ zNL := by
  intro w hw
  have hg' := List.all_eq_true.mp hg w hw
  have hm : w ∈ lw_tbl := by
    rw [h] at hw
    obtain ⟨i, -, hi⟩ := List.mem_filterMap.mp hw
    exact List.mem_of_getElem? hi
  rcases Bool.or_eq_true _ _ ▸ hg' with h1 | h1
  · exact Or.inl (List.mem_filter.mpr ⟨hm, h1⟩)
  · exact Or.inr (List.mem_filter.mpr ⟨hm, h1⟩)
def zSup : List String := ["java/lang/RuntimeException", "java/lang/Exception"]
theorem zSup_fit : ∀ q ∈ zSup, Bundle.fit q = true := by decide +kernel
theorem zStrOf {g : zG} {κ : zC} {own : String} {cc : ByteArray} {nL : Nat} (X : zX g κ own cc nL) (q : String × Nat × String) (hq : q ∈ zStr) : ∃ sa, vk_R q.1 q.2.1 q.2.2 sa (zs κ) := X.2.2.2.2.2.2.2.2.2.2.1.2 q hq
def RIAE : String := "java/lang/IllegalArgumentException"
theorem tw_IAE : ∀ w ∈ Cond.classLink "Doublecoat" 307 RIAE :: Cond.initialized RIAE :: vx_atS "Doublecoat" 311 RIAE zSup, w ∈ zTBL ∨ w ∈ zNL := zAll [123, 29, 26, 72, 83, 87, 90, 92, 73, 74, 76, 77, 75, 82, 88, 108, 62, 109, 64, 110, 66, 78, 80, 68, 104, 105, 107, 68, 134, 135, 136, 98, 54, 98, 99, 100, 101, 56, 101, 102, 103, 104, 58, 133, 124, 125, 126, 85, 127, 128, 129, 130, 71, 70, 131] (by decide +kernel) (by decide +kernel)
theorem to_IAE : ∀ w ∈ Cond.classLink "Doublecoat" 307 RIAE :: Cond.initialized RIAE :: vx_atS "Doublecoat" 311 RIAE zSup, vx_ot w = true := List.all_eq_true.mp (by decide +kernel)
def RIOB : String := "java/lang/IndexOutOfBoundsException"
theorem tw_IOB : ∀ w ∈ Cond.classLink "Doublecoat" 314 RIOB :: Cond.initialized RIOB :: vx_atS "Doublecoat" 318 RIOB zSup, w ∈ zTBL ∨ w ∈ zNL := zAll [50, 34, 26, 72, 83, 87, 90, 92, 73, 74, 76, 77, 75, 82, 88, 108, 62, 109, 64, 110, 66, 78, 80, 68, 104, 105, 107, 68, 95, 96, 97, 98, 54, 98, 99, 100, 101, 56, 101, 102, 103, 104, 58, 94, 51, 52, 59, 60, 61, 63, 65, 67, 71, 70, 69] (by decide +kernel) (by decide +kernel)
theorem to_IOB : ∀ w ∈ Cond.classLink "Doublecoat" 314 RIOB :: Cond.initialized RIOB :: vx_atS "Doublecoat" 318 RIOB zSup, vx_ot w = true := List.all_eq_true.mp (by decide +kernel)
def RISE : String := "java/lang/IllegalStateException"
theorem tw_ISE : ∀ w ∈ Cond.classLink "Doublecoat" 106 RISE :: Cond.initialized RISE :: vx_atS "Doublecoat" 110 RISE zSup, w ∈ zTBL ∨ w ∈ zNL := zAll [784, 30, 26, 72, 83, 87, 90, 92, 73, 74, 76, 77, 75, 82, 88, 108, 62, 109, 64, 110, 66, 78, 80, 68, 104, 105, 107, 68, 795, 796, 797, 98, 54, 98, 99, 100, 101, 56, 101, 102, 103, 104, 58, 794, 785, 786, 787, 86, 788, 789, 790, 791, 71, 70, 792] (by decide +kernel) (by decide +kernel)
theorem to_ISE : ∀ w ∈ Cond.classLink "Doublecoat" 106 RISE :: Cond.initialized RISE :: vx_atS "Doublecoat" 110 RISE zSup, vx_ot w = true := List.all_eq_true.mp (by decide +kernel)
