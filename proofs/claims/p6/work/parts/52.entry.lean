/-! ===== the law's entry: the class, the reference and what is told out are made ===== -/
set_option maxRecDepth 100000 in
set_option maxHeartbeats 4000000 in
theorem k_X6_init {g : zG} {σ : zS} {a : Nat} : Ct g 2 yX6_init cX6_init 1 none 0 0 [.ref a] σ (fun v σ' => v = none ∧ σ' = σ) zNo := by
  refine Ct.ofN (lv := [(0, .ref a)]) (by decide) (Nat.le_of_ble_eq_true rfl) rfl ?_
  intro κ X E B hnm
  have X : zX g κ RX6 cX6_init 1 := X
  refine V_aload_n X dX6_init_0 0 rfl ?_
  refine V_objInit X E.room (by decide) oi_X6_1 oi_in oi_code (Nat.le_of_ble_eq_true rfl) dX6_init_1 ?_
  exact V_vret X E (Nat.zero_le _) (Nat.zero_le _) ⟨rfl, rfl⟩ dX6_init_4
/-- what stands below the class's world, when the law's objects are made -/
def zB0 (X0 : Nat) : Nat → Option va_E := zup (zup (fun _ => none) X0 (.inr (9, [.null, .null, .null, .null, .null, .int (nI 0), .int (nI 0), .int (nI 0), .int (nI 0)]))) (X0 + 61) (.inr (16, [.int (nI 0), .null, .null, .null, .null, .null, .int (nI 0), .int (nI 0), .int (nI 0), .int (nI 0), .null, .int (nI 0), .int (nI 0), .null, .null, .int (nI 0), .int (nI 0), .int (nI 0), .int (nI 0), .long 0]))
theorem zLI0 {g : zG} {X0 : Nat} (gX : g.2.1.size ≤ X0) (hE : zEm g < g.2.1.size) : zLI g X0 (X0 + 70) (X0 + 61) (rAd0 (X0 + 61) (X0 + 62) (zEm g)) (fun _ => 0) (fun _ _ => nI 0) (fun _ _ => nI 0) := by
  refine ⟨rK0 (by omega) (by omega), fun k hk => ?_, rfl, rI0', zRl0, rfl⟩
  rcases rLv0 hk with rfl | rfl | rfl | rfl | rfl | rfl | rfl | rfl | rfl <;> simp only [rAd0] <;> omega
set_option maxRecDepth 100000 in
set_option maxHeartbeats 4000000 in
theorem lc_entry {g : zG} {κ : zC} {b L : Nat} {xs : Nat → Int32} (X : zX g κ RL cL_law 7) (Hh : zH κ 2048 823735 6624900) (hXs : va_X b L xs (zs κ) g.2.1) (hb : b < g.2.1.size) (hL : L ≤ 2048) (hG : g.1.stackTraces = false) (hEm : zEmC g)
    (hend : ∀ (k n : Nat) (σ : zS) (lv : List (Nat × Value)), k ≤ 823735 → n ≤ 6624900 → V g κ 7 k n σ 1055 lv []) {n0 : Nat} : V g κ 7 0 0 ((g.2.1.size, n0), fun _ => none) 0 [(0, .ref b)] [] := by
  obtain ⟨X0, e0⟩ : ∃ X0, X0 = g.2.1.size := ⟨_, rfl⟩
  rw [← e0]
  have gX : g.2.1.size ≤ X0 := by omega
  have hI := zLI0 gX hEm.lt
  refine V_new X Hh (ci := 9) (fs := [.null, .null, .null, .null, .null, .int (nI 0), .int (nI 0), .int (nI 0), .int (nI 0)]) rfl zi_X5 tyX5 tyX5_ok cl_L_8 mk_X5 nz_X5 (by intro j hj; match j, hj with | 0, _ => rfl | 1, _ => rfl | 2, _ => rfl | 3, _ => rfl | 4, _ => rfl | 5, _ => rfl | 6, _ => rfl | 7, _ => rfl | 8, _ => rfl | i + 9, hj => exact absurd hj (by omega)) (by omega) (by omega) dL_law_0 ?_
  show V g κ 7 1 9 ((X0 + 1, n0 + 9), zup (fun _ => none) X0 (.inr (9, [.null, .null, .null, .null, .null, .int (nI 0), .int (nI 0), .int (nI 0), .int (nI 0)]))) 3 [(0, .ref b)] [.ref X0]
  refine V_dup X dL_law_3 rfl ?_
  refine V_callI (rest := [.ref X0]) X Hh ml_L_85 in_X5_init rfl (by omega) (by decide) (k_X5_init (n0 := n0 + 9) zup_eq gX) rfl rfl (Nat.le_of_ble_eq_true rfl) ⟨by omega, by omega⟩ dL_law_4 (fun _ _ h => False.elim h) (fun v9 σ' hp9 => ?_)
  obtain ⟨hv9, rfl⟩ := hp9
  cases (hv9 : _ = none)
  show V g κ 7 61 449 ((X0 + 61, n0 + 9 + 440), cW g X0 (fun _ _ => nI 0) (zup (fun _ => none) X0 (.inr (9, [.null, .null, .null, .null, .null, .int (nI 0), .int (nI 0), .int (nI 0), .int (nI 0)])))) 7 [(0, .ref b)] [.ref X0]
  refine V_astore_n X [(1, .ref X0), (0, .ref b)] dL_law_7 (by decide) rfl ?_
  refine V_new X Hh (ci := 16) (fs := [.int (nI 0), .null, .null, .null, .null, .null, .int (nI 0), .int (nI 0), .int (nI 0), .int (nI 0), .null, .int (nI 0), .int (nI 0), .null, .null, .int (nI 0), .int (nI 0), .int (nI 0), .int (nI 0), .long 0]) rfl zi_X12 tyX12 tyX12_ok cl_L_86 mk_X12 nz_X12 (by intro j hj; match j, hj with | 0, _ => rfl | 1, _ => rfl | 2, _ => rfl | 3, _ => rfl | 4, _ => rfl | 5, _ => rfl | 6, _ => rfl | 7, _ => rfl | 8, _ => rfl | 9, _ => rfl | 10, _ => rfl | 11, _ => rfl | 12, _ => rfl | 13, _ => rfl | 14, _ => rfl | 15, _ => rfl | 16, _ => rfl | 17, _ => rfl | 18, _ => rfl | 19, _ => rfl | i + 20, hj => exact absurd hj (by omega)) (by omega) (by omega) dL_law_8 ?_
  show V g κ 7 62 469 ((X0 + 62, n0 + 9 + 440 + 20), zup (cW g X0 (fun _ _ => nI 0) (zup (fun _ => none) X0 (.inr (9, [.null, .null, .null, .null, .null, .int (nI 0), .int (nI 0), .int (nI 0), .int (nI 0)])))) (X0 + 61) (.inr (16, [.int (nI 0), .null, .null, .null, .null, .null, .int (nI 0), .int (nI 0), .int (nI 0), .int (nI 0), .null, .int (nI 0), .int (nI 0), .null, .null, .int (nI 0), .int (nI 0), .int (nI 0), .int (nI 0), .long 0]))) 11 [(1, .ref X0), (0, .ref b)] [.ref (X0 + 61)]
  refine V.so (σ' := ((X0 + 62, n0 + 9 + 440 + 20), cW g X0 (fun _ _ => nI 0) (zB0 X0))) (congrArg (Prod.mk _) (cW_zup (Or.inr (Nat.le_refl _)))) ?_
  show V g κ 7 62 469 ((X0 + 62, n0 + 9 + 440 + 20), cW g X0 (fun _ _ => nI 0) (zB0 X0)) 11 [(1, .ref X0), (0, .ref b)] [.ref (X0 + 61)]
  refine V_dup X dL_law_11 rfl ?_
  refine V_callI (rest := [.ref (X0 + 61)]) X Hh ml_L_88 in_X12_init rfl (by omega) (by decide) (k_X12_init (t := (X0 + 62, n0 + 9 + 440 + 20)) (M := X0 + 61) ((cW_out (Or.inr (Nat.le_refl _))).trans zup_eq) (by omega) (Nat.lt_succ_self _)) rfl rfl (Nat.le_of_ble_eq_true rfl) ⟨by omega, by omega⟩ dL_law_12 (fun _ _ h => False.elim h) (fun v9 σ' hp9 => ?_)
  obtain ⟨hv9, rfl⟩ := hp9
  cases (hv9 : _ = none)
  show V g κ 7 70 505 ((X0 + 70, n0 + 9 + 440 + 20 + 36), rO g (rAd0 (X0 + 61) (X0 + 62) (zEm g)) (fun _ => 0) 0 (fun _ _ => nI 0) (cW g X0 (fun _ _ => nI 0) (zB0 X0))) 15 [(1, .ref X0), (0, .ref b)] [.ref (X0 + 61)]
  refine V_astore_n X [(2, .ref (X0 + 61)), (1, .ref X0), (0, .ref b)] dL_law_15 (by decide) rfl ?_
  refine V_new X Hh (ci := 10) (fs := [.long 0]) rfl zi_X6 tyX6 tyX6_ok cl_L_14 mk_X6 nz_X6 (by intro j hj; match j, hj with | 0, _ => rfl | i + 1, hj => exact absurd hj (by omega)) (by omega) (by omega) dL_law_16 ?_
  show V g κ 7 71 506 ((X0 + 71, n0 + 9 + 440 + 20 + 36 + 1), zup (rO g (rAd0 (X0 + 61) (X0 + 62) (zEm g)) (fun _ => 0) 0 (fun _ _ => nI 0) (cW g X0 (fun _ _ => nI 0) (zB0 X0))) (X0 + 70) (.inr (10, [.long 0]))) 19 [(2, .ref (X0 + 61)), (1, .ref X0), (0, .ref b)] [.ref (X0 + 70)]
  refine V.so (σ' := ((X0 + 71, n0 + 9 + 440 + 20 + 36 + 1), zW g X0 (fun _ _ => nI 0) (rAd0 (X0 + 61) (X0 + 62) (zEm g)) (fun _ => 0) 0 (fun _ _ => nI 0) (zB0 X0) (X0 + 70) 0)) (congrArg (Prod.mk _) (((rO_zup hI.1 (fun k hk => (hI.2.1 k hk).2)).trans (congrArg (rO g (rAd0 (X0 + 61) (X0 + 62) (zEm g)) (fun _ => 0) 0 (fun _ _ => nI 0)) (cW_zup (Or.inr (by omega))))).trans (zW_r hI.1 hI.2.1).symm)) ?_
  show V g κ 7 71 506 ((X0 + 71, n0 + 9 + 440 + 20 + 36 + 1), zW g X0 (fun _ _ => nI 0) (rAd0 (X0 + 61) (X0 + 62) (zEm g)) (fun _ => 0) 0 (fun _ _ => nI 0) (zB0 X0) (X0 + 70) 0) 19 [(2, .ref (X0 + 61)), (1, .ref X0), (0, .ref b)] [.ref (X0 + 70)]
  refine V_dup X dL_law_19 rfl ?_
  refine V_callIN (rest := [.ref (X0 + 70)]) X Hh ml_L_89 in_X6_init rfl (by omega) (by decide) k_X6_init rfl rfl (Nat.le_of_ble_eq_true rfl) ⟨by omega, by omega⟩ dL_law_20 (fun _ _ h => False.elim h) (fun v9 σ' hp9 => ?_)
  obtain ⟨hv9, rfl⟩ := hp9
  cases (hv9 : _ = none)
  show V g κ 7 71 506 ((X0 + 71, n0 + 9 + 440 + 20 + 36 + 1), zW g X0 (fun _ _ => nI 0) (rAd0 (X0 + 61) (X0 + 62) (zEm g)) (fun _ => 0) 0 (fun _ _ => nI 0) (zB0 X0) (X0 + 70) 0) 23 [(2, .ref (X0 + 61)), (1, .ref X0), (0, .ref b)] [.ref (X0 + 70)]
  refine V_astore_n X [(3, .ref (X0 + 70)), (2, .ref (X0 + 61)), (1, .ref X0), (0, .ref b)] dL_law_23 (by decide) rfl ?_
  refine V_iconst (v := nI (4 * 0)) X dL_law_24 (by decide) ?_
  refine V_istore X [(4, .int (nI (4 * 0))), (3, .ref (X0 + 70)), (2, .ref (X0 + 61)), (1, .ref X0), (0, .ref b)] dL_law_25 (by decide) rfl ?_
  have Cx : zCx g κ X0 (X0 + 70) b L xs := ⟨X, Hh, hXs, hb, hL, hG, hEm, gX, Or.inr (by omega), by omega⟩
  exact V.widen (by omega) (by omega) (lc_loop Cx hend (513 - 0) 0 rfl (by omega) hI)
