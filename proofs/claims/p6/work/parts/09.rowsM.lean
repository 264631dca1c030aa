section MROWS
variable {g : zG} {κ : zC} {own : String} {cc : ByteArray} {nL k n : Nat} {σ : zS} {pc : Nat} {lv : List (Nat × Value)} {rest : List Value}
theorem V_mabs (X : zX g κ own cc nL) {dd mc0 ms0 : Nat} (Hh : zH κ dd mc0 ms0) (hk : k ≤ mc0) (hn : n ≤ ms0) (hd : 1 ≤ dd) {y : MethodName} {cc' : ByteArray} {idx np : Nat} (M : zM own idx y cc' 1 (some .int) np) (hst : Cond.static y ∈ zTBL) (hy : y = Lib.Math.abs.name) (hc : cc' = Lib.Math.abs.code) (hw : (rest.map fun v => v.category).sum ≤ 8) {x : Int32} (d : decode cc pc = .ok (.invokestatic idx, 3)) (kk : V g κ nL k n σ (pc + 3) lv (.int (if 0 ≤ x then x else 0 - x) :: rest)) : V g κ nL k n σ pc lv (.int x :: rest) := by
  subst hy; subst hc
  obtain ⟨⟨h1, h2, h3⟩, h4⟩ := M
  obtain ⟨r1, r2, r3, r4⟩ := Hh
  exact fun H locs ls hR hL hl => va_mabs X.1 X.2.1 (X.2.2.1.trans hl.1.symm) X.2.2.2.1 (zWord X h4) (zWord X hst) (zWord X h2) (zWord X h1) (by omega) (by omega) (by omega) (by omega) d (kk H locs ls hR hL hl)
theorem V_mmax (X : zX g κ own cc nL) {dd mc0 ms0 : Nat} (Hh : zH κ dd mc0 ms0) (hk : k ≤ mc0) (hn : n ≤ ms0) (hd : 1 ≤ dd) {y : MethodName} {cc' : ByteArray} {idx np : Nat} (M : zM own idx y cc' 2 (some .int) np) (hst : Cond.static y ∈ zTBL) (hy : y = Lib.Math.max.name) (hc : cc' = Lib.Math.max.code) (hw : (rest.map fun v => v.category).sum ≤ 8) {x z : Int32} (d : decode cc pc = .ok (.invokestatic idx, 3)) (kk : V g κ nL k n σ (pc + 3) lv (.int (if x < z then z else x) :: rest)) : V g κ nL k n σ pc lv (.int z :: .int x :: rest) := by
  subst hy; subst hc
  obtain ⟨⟨h1, h2, h3⟩, h4⟩ := M
  obtain ⟨r1, r2, r3, r4⟩ := Hh
  exact fun H locs ls hR hL hl => va_mmax X.1 X.2.1 (X.2.2.1.trans hl.1.symm) X.2.2.2.1 (zWord X h4) (zWord X hst) (zWord X h2) (zWord X h1) (by omega) (by omega) (by omega) (by omega) d (kk H locs ls hR hL hl)
end MROWS
