/-! the words of a throw, by their places -/
theorem zAll {L : List Cond} (ps : List Nat) (h : L = ps.filterMap (fun i => lw_tbl[i]?)) (hg : L.all (fun w => goodWord w || zNst w) = true) : ∀ w ∈ L, w ∈ zTBL ∨ w ∈ zNL := by
  intro w hw
  have hg' := List.all_eq_true.mp hg w hw
  have hm : w ∈ lw_tbl := by
    rw [h] at hw
    obtain ⟨i, -, hi⟩ := List.mem_filterMap.mp hw
    exact List.mem_of_getElem? hi
  rcases Bool.or_eq_true _ _ ▸ hg' with h1 | h1
  · exact Or.inl (List.mem_filter.mpr ⟨hm, h1⟩)
  · exact Or.inr (List.mem_filter.mpr ⟨hm, h1⟩)
def zSup : List String := ["java/lang/RuntimeException", "java/lang/Exception"]
theorem zSup_fit : ∀ q ∈ zSup, Bundle.fit q = true := by decide +kernel
theorem zStrOf {g : zG} {κ : zC} {own : String} {cc : ByteArray} {nL : Nat} (X : zX g κ own cc nL) (q : String × Nat × String) (hq : q ∈ zStr) : ∃ sa, vk_R q.1 q.2.1 q.2.2 sa (zs κ) := X.2.2.2.2.2.2.2.2.2.2.1.2 q hq
def RIAE : String := "java/lang/IllegalArgumentException"
theorem tw_IAE : ∀ w ∈ Cond.classLink "Doublecoat" 307 RIAE :: Cond.initialized RIAE :: vx_atS "Doublecoat" 311 RIAE zSup, w ∈ zTBL ∨ w ∈ zNL := zAll [773, 78, 75, 577, 586, 590, 593, 595, 578, 579, 106, 107, 580, 585, 591, 686, 567, 687, 569, 688, 571, 581, 583, 573, 682, 683, 685, 573, 673, 674, 675, 676, 559, 676, 677, 678, 679, 561, 679, 680, 681, 682, 563, 775, 556, 557, 564, 565, 566, 568, 570, 572, 576, 575, 574] (by decide +kernel) (by decide +kernel)
theorem to_IAE : ∀ w ∈ Cond.classLink "Doublecoat" 307 RIAE :: Cond.initialized RIAE :: vx_atS "Doublecoat" 311 RIAE zSup, vx_ot w = true := List.all_eq_true.mp (by decide +kernel)
def RIOB : String := "java/lang/IndexOutOfBoundsException"
theorem tw_IOB : ∀ w ∈ Cond.classLink "Doublecoat" 314 RIOB :: Cond.initialized RIOB :: vx_atS "Doublecoat" 318 RIOB zSup, w ∈ zTBL ∨ w ∈ zNL := zAll [788, 87, 75, 577, 586, 590, 593, 595, 578, 579, 106, 107, 580, 585, 591, 686, 567, 687, 569, 688, 571, 581, 583, 573, 682, 683, 685, 573, 799, 800, 801, 676, 559, 676, 677, 678, 679, 561, 679, 680, 681, 682, 563, 798, 789, 790, 791, 589, 792, 793, 794, 795, 576, 575, 796] (by decide +kernel) (by decide +kernel)
theorem to_IOB : ∀ w ∈ Cond.classLink "Doublecoat" 314 RIOB :: Cond.initialized RIOB :: vx_atS "Doublecoat" 318 RIOB zSup, vx_ot w = true := List.all_eq_true.mp (by decide +kernel)
def RISE : String := "java/lang/IllegalStateException"
theorem tw_ISE : ∀ w ∈ Cond.classLink "Doublecoat" 106 RISE :: Cond.initialized RISE :: vx_atS "Doublecoat" 110 RISE zSup, w ∈ zTBL ∨ w ∈ zNL := zAll [918, 79, 75, 577, 586, 590, 593, 595, 578, 579, 106, 107, 580, 585, 591, 686, 567, 687, 569, 688, 571, 581, 583, 573, 682, 683, 685, 573, 929, 930, 931, 676, 559, 676, 677, 678, 679, 561, 679, 680, 681, 682, 563, 928, 919, 920, 921, 588, 922, 923, 924, 925, 576, 575, 926] (by decide +kernel) (by decide +kernel)
theorem to_ISE : ∀ w ∈ Cond.classLink "Doublecoat" 106 RISE :: Cond.initialized RISE :: vx_atS "Doublecoat" 110 RISE zSup, vx_ot w = true := List.all_eq_true.mp (by decide +kernel)
