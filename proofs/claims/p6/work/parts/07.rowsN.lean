/-! ===== rows over whole numbers written nI ===== -/
theorem zinc (a : Nat) : nI a + Int32.ofInt 1 = nI (a + 1) := nI_1 a
theorem nI_bv (a : Nat) : (nI a).toBitVec = BitVec.ofNat 32 a := rfl
theorem nI_orN (a b : Nat) : nI a ||| nI b = nI (a ||| b) := by
  apply Int32.toBitVec_inj.mp
  simp only [Int32.toBitVec_or, nI_bv]
  apply BitVec.eq_of_toNat_eq
  simp [Nat.or_mod_two_pow]
theorem nI_andN (a b : Nat) : nI a &&& nI b = nI (a &&& b) := by
  apply Int32.toBitVec_inj.mp
  simp only [Int32.toBitVec_and, nI_bv]
  apply BitVec.eq_of_toNat_eq
  simp [Nat.and_mod_two_pow]
theorem nI_andX {a : Nat} (ha : a < 2 ^ 31) (x : Int32) : ∃ j, j ≤ a ∧ nI a &&& x = nI j := by
  refine ⟨a &&& x.toBitVec.toNat, Nat.and_le_left, ?_⟩
  apply Int32.toBitVec_inj.mp
  simp only [Int32.toBitVec_and, nI_bv]
  apply BitVec.eq_of_toNat_eq
  simp [Nat.and_mod_two_pow]
theorem nI_shl1 : ∀ k, k < 31 → (nI 1) <<< (nI k &&& 31) = nI (2 ^ k) := by decide +kernel
section NROWS
variable {g : zG} {κ : zC} {own : String} {cc : ByteArray} {nL k n : Nat} {σ : zS} {pc : Nat} {lv : List (Nat × Value)} {rest : List Value} {a b : Nat} {off : Int} {tgt : Nat}
theorem V_icmpeqN (X : zX g κ own cc nL) (ha : a < 2 ^ 31) (hb : b < 2 ^ 31) (d : decode cc pc = .ok (.if_icmp .eq off, 3)) (ht : (pc : Int) + off = (tgt : Int)) (kt : a = b → V g κ nL k n σ tgt lv rest) (kf : a ≠ b → V g κ nL k n σ (pc + 3) lv rest) : V g κ nL k n σ pc lv (.int (nI b) :: .int (nI a) :: rest) := V_icmpeq X d ht (fun h => kt ((nI_eq ha hb).mp h)) (fun h => kf (fun e => h (by rw [e])))
theorem V_icmpneN (X : zX g κ own cc nL) (ha : a < 2 ^ 31) (hb : b < 2 ^ 31) (d : decode cc pc = .ok (.if_icmp .ne off, 3)) (ht : (pc : Int) + off = (tgt : Int)) (kt : a ≠ b → V g κ nL k n σ tgt lv rest) (kf : a = b → V g κ nL k n σ (pc + 3) lv rest) : V g κ nL k n σ pc lv (.int (nI b) :: .int (nI a) :: rest) := V_icmpne X d ht (fun h => kt (fun e => h (by rw [e]))) (fun h => kf ((nI_eq ha hb).mp h))
theorem V_icmpltN (X : zX g κ own cc nL) (ha : a < 2 ^ 31) (hb : b < 2 ^ 31) (d : decode cc pc = .ok (.if_icmp .lt off, 3)) (ht : (pc : Int) + off = (tgt : Int)) (kt : a < b → V g κ nL k n σ tgt lv rest) (kf : b ≤ a → V g κ nL k n σ (pc + 3) lv rest) : V g κ nL k n σ pc lv (.int (nI b) :: .int (nI a) :: rest) := V_icmplt X d ht (fun h => kt ((nI_ltI ha hb).mp h)) (fun h => kf (Nat.not_lt.mp fun q => h ((nI_ltI ha hb).mpr q)))
theorem V_icmpgeN (X : zX g κ own cc nL) (ha : a < 2 ^ 31) (hb : b < 2 ^ 31) (d : decode cc pc = .ok (.if_icmp .ge off, 3)) (ht : (pc : Int) + off = (tgt : Int)) (kt : b ≤ a → V g κ nL k n σ tgt lv rest) (kf : a < b → V g κ nL k n σ (pc + 3) lv rest) : V g κ nL k n σ pc lv (.int (nI b) :: .int (nI a) :: rest) := V_icmpge X d ht (fun h => kt ((nI_leI hb ha).mp h)) (fun h => kf (Nat.not_le.mp fun q => h ((nI_leI hb ha).mpr q)))
theorem V_icmpgtN (X : zX g κ own cc nL) (ha : a < 2 ^ 31) (hb : b < 2 ^ 31) (d : decode cc pc = .ok (.if_icmp .gt off, 3)) (ht : (pc : Int) + off = (tgt : Int)) (kt : b < a → V g κ nL k n σ tgt lv rest) (kf : a ≤ b → V g κ nL k n σ (pc + 3) lv rest) : V g κ nL k n σ pc lv (.int (nI b) :: .int (nI a) :: rest) := V_icmpgt X d ht (fun h => kt ((nI_ltI hb ha).mp h)) (fun h => kf (Nat.not_lt.mp fun q => h ((nI_ltI hb ha).mpr q)))
theorem V_icmpleN (X : zX g κ own cc nL) (ha : a < 2 ^ 31) (hb : b < 2 ^ 31) (d : decode cc pc = .ok (.if_icmp .le off, 3)) (ht : (pc : Int) + off = (tgt : Int)) (kt : a ≤ b → V g κ nL k n σ tgt lv rest) (kf : b < a → V g κ nL k n σ (pc + 3) lv rest) : V g κ nL k n σ pc lv (.int (nI b) :: .int (nI a) :: rest) := V_icmple X d ht (fun h => kt ((nI_leI ha hb).mp h)) (fun h => kf (Nat.not_le.mp fun q => h ((nI_leI ha hb).mpr q)))
theorem V_ifeqN (X : zX g κ own cc nL) (ha : a < 2 ^ 31) (d : decode cc pc = .ok (.ifCond .eq off, 3)) (ht : (pc : Int) + off = (tgt : Int)) (kt : a = 0 → V g κ nL k n σ tgt lv rest) (kf : a ≠ 0 → V g κ nL k n σ (pc + 3) lv rest) : V g κ nL k n σ pc lv (.int (nI a) :: rest) := V_ifeq X d ht (fun h => kt ((nI_eq ha (by decide)).mp (h.trans nI_0.symm))) (fun h => kf (fun e => h (by rw [e]; exact nI_0)))
theorem V_ifneN (X : zX g κ own cc nL) (ha : a < 2 ^ 31) (d : decode cc pc = .ok (.ifCond .ne off, 3)) (ht : (pc : Int) + off = (tgt : Int)) (kt : a ≠ 0 → V g κ nL k n σ tgt lv rest) (kf : a = 0 → V g κ nL k n σ (pc + 3) lv rest) : V g κ nL k n σ pc lv (.int (nI a) :: rest) := V_ifne X d ht (fun h => kt (fun e => h (by rw [e]; exact nI_0))) (fun h => kf ((nI_eq ha (by decide)).mp (h.trans nI_0.symm)))
theorem V_iaddN (X : zX g κ own cc nL) (d : decode cc pc = .ok (.iadd, 1)) (kk : V g κ nL k n σ (pc + 1) lv (.int (nI (a + b)) :: rest)) : V g κ nL k n σ pc lv (.int (nI b) :: .int (nI a) :: rest) := V_iadd X d (by rw [nI_add]; exact kk)
theorem V_isubN (X : zX g κ own cc nL) (h : b ≤ a) (d : decode cc pc = .ok (.isub, 1)) (kk : V g κ nL k n σ (pc + 1) lv (.int (nI (a - b)) :: rest)) : V g κ nL k n σ pc lv (.int (nI b) :: .int (nI a) :: rest) := V_isub X d (by rw [pk_sub h]; exact kk)
theorem V_iorN (X : zX g κ own cc nL) (d : decode cc pc = .ok (.ior, 1)) (kk : V g κ nL k n σ (pc + 1) lv (.int (nI (a ||| b)) :: rest)) : V g κ nL k n σ pc lv (.int (nI b) :: .int (nI a) :: rest) := V_ior X d (by rw [nI_orN]; exact kk)
theorem V_iandL (X : zX g κ own cc nL) {y : Int32} (ha : a < 2 ^ 31) (d : decode cc pc = .ok (.iand, 1)) (kk : ∀ j : Nat, j ≤ a → nI a &&& y = nI j → V g κ nL k n σ (pc + 1) lv (.int (nI j) :: rest)) : V g κ nL k n σ pc lv (.int y :: .int (nI a) :: rest) := by
  obtain ⟨j, h1, h2⟩ := nI_andX ha y
  exact V_iand X d (by rw [h2]; exact kk j h1 h2)
theorem V_ishl1 (X : zX g κ own cc nL) (h : a < 31) (d : decode cc pc = .ok (.ishl, 1)) (kk : V g κ nL k n σ (pc + 1) lv (.int (nI (2 ^ a)) :: rest)) : V g κ nL k n σ pc lv (.int (nI a) :: .int (nI 1) :: rest) := V_ishl X d (by rw [nI_shl1 a h]; exact kk)
end NROWS
