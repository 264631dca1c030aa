/-! lists and iterators: the JDK's members, by what the store says of their cells -/
theorem zup_zup {f : Nat → Option va_E} {a : Nat} {e e' : va_E} : zup (zup f a e) a e' = zup f a e' := by
  funext b
  by_cases h : b = a
  · subst h; rw [zup_eq, zup_eq]
  · rw [zup_ne h, zup_ne h, zup_ne h]
theorem zup_comm {f : Nat → Option va_E} {a b : Nat} {e x : va_E} (h : a ≠ b) : zup (zup f b x) a e = zup (zup f a e) b x := by
  funext c
  by_cases h1 : c = a
  · subst h1; rw [zup_eq, zup_ne h, zup_eq]
  · by_cases h2 : c = b
    · subst h2; rw [zup_ne h1, zup_eq, zup_eq]
    · rw [zup_ne h1, zup_ne h2, zup_ne h2, zup_ne h1]
set_option maxRecDepth 100000 in
set_option maxHeartbeats 4000000 in
theorem k_J3_checkIndex_8e157 {g : zG} {t : Nat × Nat} {f : Nat → Option va_E} (i n : Nat) (hi : i < n) (hn : n < 2 ^ 31) : Ct g 10 yJ3_checkIndex_8e157 cJ3_checkIndex_8e157 3 (some FieldType.int) 0 (0) [.int (nI (i)), .int (nI (n)), .null] (t, f) (fun v σ' => v = some (.int (nI i)) ∧ σ' = (t, f)) zNo := by
  refine Ct.ofN (lv := [(0, .int (nI (i))), (1, .int (nI (n))), (2, .null)]) (by decide) (Nat.le_of_ble_eq_true rfl) rfl ?_
  intro κ X E B hnm
  have X : zX g κ RJ3 cJ3_checkIndex_8e157 3 := X
  refine V.fr (fun hfr => ?_)
  refine V_iload_n X dJ3_checkIndex_8e157_0 0 rfl ?_
  refine V_iflt X (tgt := 9) dJ3_checkIndex_8e157_1 (by decide) (fun h1 => (nI_pos (by omega) h1).elim) (fun h1 => ?_)
  refine V_iload_n X dJ3_checkIndex_8e157_4 0 rfl ?_
  refine V_iload_n X dJ3_checkIndex_8e157_5 1 rfl ?_
  refine V_icmpltN X (by omega) (by omega) (tgt := 16) dJ3_checkIndex_8e157_6 (by decide) (fun h2 => ?_) (fun h2 => ((by omega : False)).elim)
  refine V_iload_n X dJ3_checkIndex_8e157_16 0 rfl ?_
  exact V_iret X E (by omega) (by omega) ⟨rfl, rfl⟩ dJ3_checkIndex_8e157_17
set_option maxRecDepth 100000 in
set_option maxHeartbeats 4000000 in
theorem k_J15_checkIndex_7cf53 {g : zG} {t : Nat × Nat} {f : Nat → Option va_E} (i n : Nat) (hi : i < n) (hn : n < 2 ^ 31) : Ct g 11 yJ15_checkIndex_7cf53 cJ15_checkIndex_7cf53 2 (some FieldType.int) 0 (0) [.int (nI (i)), .int (nI (n))] (t, f) (fun v σ' => v = some (.int (nI i)) ∧ σ' = (t, f)) zNo := by
  refine Ct.ofN (lv := [(0, .int (nI (i))), (1, .int (nI (n)))]) (by decide) (Nat.le_of_ble_eq_true rfl) rfl ?_
  intro κ X E B hnm
  have X : zX g κ RJ15 cJ15_checkIndex_7cf53 2 := X
  refine V.fr (fun hfr => ?_)
  refine V_iload_n X dJ15_checkIndex_7cf53_0 0 rfl ?_
  refine V_iload_n X dJ15_checkIndex_7cf53_1 1 rfl ?_
  refine V_null X dJ15_checkIndex_7cf53_2 ?_
  refine V_callS (rest := []) X E.room ml_J15_105 st_J3_checkIndex_8e157 (by decide) (by decide) (k_J3_checkIndex_8e157 i n hi hn) rfl rfl (Nat.le_of_ble_eq_true rfl) ⟨by omega, by omega⟩ dJ15_checkIndex_7cf53_3 (fun _ _ h => False.elim h) (fun v1 σ' hp2 => ?_)
  obtain ⟨hp2, rfl⟩ := hp2
  cases (hp2 : _ = some (Value.int (nI (i))))
  show V g κ 2 0 (0) (t, f) 6 [(0, .int (nI (i))), (1, .int (nI (n)))] [.int (nI (i))]
  exact V_iret X E (by omega) (by omega) ⟨rfl, rfl⟩ dJ15_checkIndex_7cf53_6
set_option maxRecDepth 100000 in
set_option maxHeartbeats 4000000 in
theorem k_Jx4a65c_size_8abf5 {g : zG} {t : Nat × Nat} {f : Nat → Option va_E} {L D : Nat} {mod : Int32} {n : Nat} (hL : f L = some (.inr (3, [.int mod, .ref D, .int (nI n)]))) : Ct g 10 yJx4a65c_size_8abf5 cJx4a65c_size_8abf5 1 (some FieldType.int) 0 (0) [.ref (L)] (t, f) (fun v σ' => v = some (.int (nI n)) ∧ σ' = (t, f)) zNo := by
  refine Ct.ofN (lv := [(0, .ref (L))]) (by decide) (Nat.le_of_ble_eq_true rfl) rfl ?_
  intro κ X E B hnm
  have X : zX g κ RJx4a65c cJx4a65c_size_8abf5 1 := X
  refine V.fr (fun hfr => ?_)
  have lt_L : L < t.1 := hfr _ _ hL
  refine V_aload_n X dJx4a65c_size_8abf5_0 0 rfl ?_
  refine V_getf2 X fl_Jx4a65c_48 hL rfl dJx4a65c_size_8abf5_1 ?_
  show V g κ 1 0 (0) (t, f) 4 [(0, .ref (L))] [.int (nI (n))]
  exact V_iret X E (by omega) (by omega) ⟨rfl, rfl⟩ dJx4a65c_size_8abf5_4
set_option maxRecDepth 100000 in
set_option maxHeartbeats 4000000 in
theorem k_Jx4a65c_elementData_915e3 {g : zG} {t : Nat × Nat} {f : Nat → Option va_E} {L D : Nat} {mod : Int32} {n : Nat} (hL : f L = some (.inr (3, [.int mod, .ref D, .int (nI n)]))) {m : Nat} {fd : Nat → Option Nat} (hD : f D = some (.inl (g.2.2.2 3, m, .inr (.inr (.inr (.inr fd)))))) {i q : Nat} (hi : i < m) (hm : m < 2 ^ 31) (hq : fd i = some q) : Ct g 10 yJx4a65c_elementData_915e3 cJx4a65c_elementData_915e3 2 (some (FieldType.object "java/lang/Object")) 0 (0) [.ref (L), .int (nI (i))] (t, f) (fun v σ' => v = some (.ref q) ∧ σ' = (t, f)) zNo := by
  refine Ct.ofN (lv := [(0, .ref (L)), (1, .int (nI (i)))]) (by decide) (Nat.le_of_ble_eq_true rfl) rfl ?_
  intro κ X E B hnm
  have X : zX g κ RJx4a65c cJx4a65c_elementData_915e3 2 := X
  refine V.fr (fun hfr => ?_)
  have lt_L : L < t.1 := hfr _ _ hL
  have lt_D : D < t.1 := hfr _ _ hD
  refine V_aload_n X dJx4a65c_elementData_915e3_0 0 rfl ?_
  refine V_getf2 X fl_Jx4a65c_9 hL rfl dJx4a65c_elementData_915e3_1 ?_
  show V g κ 2 0 (0) (t, f) 4 [(0, .ref (L)), (1, .int (nI (i)))] [.ref (D)]
  refine V_iload_n X dJx4a65c_elementData_915e3_4 1 rfl ?_
  refine V_aaldO X hD (vp_in_nI (by omega) (by omega)) (by rw [nI_clamp (by omega)]; exact hq) dJx4a65c_elementData_915e3_5 ?_
  exact V_aret X E (Or.inl ⟨_, rfl⟩) (Or.inr ⟨_, rfl⟩) (by omega) (by omega) ⟨rfl, rfl⟩ dJx4a65c_elementData_915e3_6
set_option maxRecDepth 100000 in
set_option maxHeartbeats 4000000 in
theorem k_Jx4a65c_get_915e3 {g : zG} {t : Nat × Nat} {f : Nat → Option va_E} {L D : Nat} {mod : Int32} {n : Nat} (hL : f L = some (.inr (3, [.int mod, .ref D, .int (nI n)]))) {m : Nat} {fd : Nat → Option Nat} (hD : f D = some (.inl (g.2.2.2 3, m, .inr (.inr (.inr (.inr fd)))))) {i q : Nat} (hi : i < n) (hnm : n ≤ m) (hm : m < 2 ^ 31) (hq : fd i = some q) : Ct g 12 yJx4a65c_get_915e3 cJx4a65c_get_915e3 2 (some (FieldType.object "java/lang/Object")) 0 (0) [.ref (L), .int (nI (i))] (t, f) (fun v σ' => v = some (.ref q) ∧ σ' = (t, f)) zNo := by
  refine Ct.ofN (lv := [(0, .ref (L)), (1, .int (nI (i)))]) (by decide) (Nat.le_of_ble_eq_true rfl) rfl ?_
  intro κ X E B hnm
  have X : zX g κ RJx4a65c cJx4a65c_get_915e3 2 := X
  refine V.fr (fun hfr => ?_)
  have lt_L : L < t.1 := hfr _ _ hL
  have lt_D : D < t.1 := hfr _ _ hD
  refine V_iload_n X dJx4a65c_get_915e3_0 1 rfl ?_
  refine V_aload_n X dJx4a65c_get_915e3_1 0 rfl ?_
  refine V_getf2 X fl_Jx4a65c_48 hL rfl dJx4a65c_get_915e3_2 ?_
  show V g κ 2 0 (0) (t, f) 5 [(0, .ref (L)), (1, .int (nI (i)))] [.int (nI (n)), .int (nI (i))]
  refine V_callS (rest := []) X E.room ml_Jx4a65c_118 st_J15_checkIndex_7cf53 (by decide) (by decide) (k_J15_checkIndex_7cf53 i n hi (by omega)) rfl rfl (Nat.le_of_ble_eq_true rfl) ⟨by omega, by omega⟩ dJx4a65c_get_915e3_5 (fun _ _ h => False.elim h) (fun v1 σ' hp2 => ?_)
  obtain ⟨hp2, rfl⟩ := hp2
  cases (hp2 : _ = some (Value.int (nI (i))))
  show V g κ 2 0 (0) (t, f) 8 [(0, .ref (L)), (1, .int (nI (i)))] [.int (nI (i))]
  refine V_pop X dJx4a65c_get_915e3_8 rfl ?_
  refine V_aload_n X dJx4a65c_get_915e3_9 0 rfl ?_
  refine V_iload_n X dJx4a65c_get_915e3_10 1 rfl ?_
  refine V_callV (rest := []) X E.room ml_Jx4a65c_123 in_Jx4a65c_elementData_915e3 (ci := 3) rfl se_Jx4a65c_elementData_915e3 (fs := [.int (mod), .ref (D), .int (nI (n))]) hL (by decide) (by decide) (k_Jx4a65c_elementData_915e3 hL hD (by omega) hm hq) rfl rfl (Nat.le_of_ble_eq_true rfl) ⟨by omega, by omega⟩ dJx4a65c_get_915e3_11 (fun _ _ h => False.elim h) (fun v3 σ' hp4 => ?_)
  obtain ⟨hp4, rfl⟩ := hp4
  cases (hp4 : _ = some (Value.ref (q)))
  show V g κ 2 0 (0) (t, f) 14 [(0, .ref (L)), (1, .int (nI (i)))] [.ref (q)]
  exact V_aret X E (Or.inl ⟨_, rfl⟩) (Or.inr ⟨_, rfl⟩) (by omega) (by omega) ⟨rfl, rfl⟩ dJx4a65c_get_915e3_14
set_option maxRecDepth 100000 in
set_option maxHeartbeats 4000000 in
theorem k_Jx35411_init_45d68 {g : zG} {t : Nat × Nat} {f : Nat → Option va_E} {L D : Nat} {mod : Int32} {n : Nat} {I : Nat} (hI : f I = some (.inr (2, [.int (nI (0)), .int (nI (0)), .int (nI (0)), .null]))) (gI : g.2.1.size ≤ I) (hIL : I ≠ L) (hL : f L = some (.inr (3, [.int mod, .ref D, .int (nI n)]))) : Ct g 10 yJx35411_init_45d68 cJx35411_init_45d68 2 (none) 0 (0) [.ref (I), .ref (L)] (t, f) (fun v σ' => v = none ∧ σ' = (t, zup f I (.inr (2, [.int (nI (0)), .int (-1), .int mod, .ref L])))) zNo := by
  refine Ct.ofN (lv := [(0, .ref (I)), (1, .ref (L))]) (by decide) (Nat.le_of_ble_eq_true rfl) rfl ?_
  intro κ X E B hnm
  have X : zX g κ RJx35411 cJx35411_init_45d68 2 := X
  refine V.fr (fun hfr => ?_)
  have lt_L : L < t.1 := hfr _ _ hL
  have lt_I : I < t.1 := hfr _ _ hI
  refine V_aload_n X dJx35411_init_45d68_0 0 rfl ?_
  refine V_aload_n X dJx35411_init_45d68_1 1 rfl ?_
  refine V_putfF X ff_Jx35411_1 fk_Jx35411_1 zt_Jx35411 hnm hI gI (Nat.le_of_ble_eq_true rfl) rfl rfl rfl rfl dJx35411_init_45d68_2 ?_
  show V g κ 2 0 (0) (t, zup (f) (I) (.inr (2, [.int (nI (0)), .int (nI (0)), .int (nI (0)), .ref (L)]))) 5 [(0, .ref (I)), (1, .ref (L))] []
  refine V_aload_n X dJx35411_init_45d68_5 0 rfl ?_
  refine V_objInit X E.room (by decide) oi_Jx35411_7 oi_in oi_code (Nat.le_of_ble_eq_true rfl) dJx35411_init_45d68_6 ?_
  refine V_aload_n X dJx35411_init_45d68_9 0 rfl ?_
  refine V_iconst (v := (-1)) X dJx35411_init_45d68_10 (by decide) ?_
  refine V_putf2 X fl_Jx35411_13 zt_Jx35411 zup_eq gI (Nat.le_of_ble_eq_true rfl) rfl rfl rfl rfl dJx35411_init_45d68_11 ?_
  refine V.so (σ' := (t, zup (f) (I) (.inr (2, [.int (nI (0)), .int (-1), .int (nI (0)), .ref (L)])))) (congrArg (Prod.mk (t)) (zup_zup)) ?_
  show V g κ 2 0 (0) (t, zup (f) (I) (.inr (2, [.int (nI (0)), .int (-1), .int (nI (0)), .ref (L)]))) 14 [(0, .ref (I)), (1, .ref (L))] []
  refine V_aload_n X dJx35411_init_45d68_14 0 rfl ?_
  refine V_aload_n X dJx35411_init_45d68_15 0 rfl ?_
  refine V_getf2 X fl_Jx35411_1 zup_eq rfl dJx35411_init_45d68_16 ?_
  show V g κ 2 0 (0) (t, zup (f) (I) (.inr (2, [.int (nI (0)), .int (-1), .int (nI (0)), .ref (L)]))) 19 [(0, .ref (I)), (1, .ref (L))] [.ref (L), .ref (I)]
  refine V_getf2 X fl_Jx35411_17 ((zup_ne (by omega)).trans (hL)) rfl dJx35411_init_45d68_19 ?_
  show V g κ 2 0 (0) (t, zup (f) (I) (.inr (2, [.int (nI (0)), .int (-1), .int (nI (0)), .ref (L)]))) 22 [(0, .ref (I)), (1, .ref (L))] [.int (mod), .ref (I)]
  refine V_putf2 X fl_Jx35411_22 zt_Jx35411 zup_eq gI (Nat.le_of_ble_eq_true rfl) rfl rfl rfl rfl dJx35411_init_45d68_22 ?_
  refine V.so (σ' := (t, zup (f) (I) (.inr (2, [.int (nI (0)), .int (-1), .int (mod), .ref (L)])))) (congrArg (Prod.mk (t)) (zup_zup)) ?_
  show V g κ 2 0 (0) (t, zup (f) (I) (.inr (2, [.int (nI (0)), .int (-1), .int (mod), .ref (L)]))) 25 [(0, .ref (I)), (1, .ref (L))] []
  exact V_vret X E (by omega) (by omega) ⟨rfl, rfl⟩ dJx35411_init_45d68_25
set_option maxRecDepth 100000 in
set_option maxHeartbeats 4000000 in
theorem k_Jx4a65c_iterator_32c93 {g : zG} {t : Nat × Nat} {f : Nat → Option va_E} {L D : Nat} {mod : Int32} {n : Nat} (hL : f L = some (.inr (3, [.int mod, .ref D, .int (nI n)]))) (hg : g.2.1.size ≤ t.1) : Ct g 11 yJx4a65c_iterator_32c93 cJx4a65c_iterator_32c93 1 (some (FieldType.object "java/util/Iterator")) 1 (4) [.ref (L)] (t, f) (fun v σ' => v = some (.ref t.1) ∧ σ' = ((t.1 + 1, t.2 + 4), zup f t.1 (.inr (2, [.int (nI (0)), .int (-1), .int mod, .ref L])))) zNo := by
  refine Ct.ofN (lv := [(0, .ref (L))]) (by decide) (Nat.le_of_ble_eq_true rfl) rfl ?_
  intro κ X E B hnm
  have X : zX g κ RJx4a65c cJx4a65c_iterator_32c93 1 := X
  refine V.fr (fun hfr => ?_)
  have lt_L : L < t.1 := hfr _ _ hL
  refine V_new X E.room (ci := 2) (fs := [.int (nI (0)), .int (nI (0)), .int (nI (0)), .null]) rfl zi_Jx35411 tyJx35411 tyJx35411_ok cl_Jx4a65c_267 mk_Jx35411 nz_Jx35411 (by intro j hj; match j, hj with | 0, _ => rfl | 1, _ => rfl | 2, _ => rfl | 3, _ => rfl | i + 4, hj => exact absurd hj (by omega)) (by omega) (by omega) dJx4a65c_iterator_32c93_0 ?_
  show V g κ 1 1 (0 + 4) ((t.1 + 1, t.2 + 4), zup (f) (t.1) (.inr (2, [.int (nI (0)), .int (nI (0)), .int (nI (0)), .null]))) 3 [(0, .ref (L))] [.ref (t.1)]
  refine V_dup X dJx4a65c_iterator_32c93_3 rfl ?_
  refine V_aload_n X dJx4a65c_iterator_32c93_4 0 rfl ?_
  refine V_callI (rest := [.ref (t.1)]) X E.room ml_Jx4a65c_269 in_Jx35411_init_45d68 rfl (by decide) (by decide) (k_Jx35411_init_45d68 (I := t.1) (L := L) (D := D) (mod := mod) (n := n) zup_eq (by omega) (by omega) ((zup_ne (by omega)).trans (hL))) rfl rfl (Nat.le_of_ble_eq_true rfl) ⟨by omega, by omega⟩ dJx4a65c_iterator_32c93_5 (fun _ _ h => False.elim h) (fun v1 σ' hp2 => ?_)
  obtain ⟨hp2, rfl⟩ := hp2
  cases (hp2 : _ = none)
  refine V.so (σ' := ((t.1 + 1, t.2 + 4), zup (f) (t.1) (.inr (2, [.int (nI (0)), .int (-1), .int (mod), .ref (L)])))) (congrArg (Prod.mk ((t.1 + 1, t.2 + 4))) (zup_zup)) ?_
  show V g κ 1 1 (0 + 4) ((t.1 + 1, t.2 + 4), zup (f) (t.1) (.inr (2, [.int (nI (0)), .int (-1), .int (mod), .ref (L)]))) 8 [(0, .ref (L))] [.ref (t.1)]
  exact V_aret X E (Or.inl ⟨_, rfl⟩) (Or.inr ⟨_, rfl⟩) (by omega) (by omega) ⟨rfl, rfl⟩ dJx4a65c_iterator_32c93_8
set_option maxRecDepth 100000 in
set_option maxHeartbeats 4000000 in
theorem k_Jx35411_hasNext_aae02 {g : zG} {t : Nat × Nat} {f : Nat → Option va_E} {L D : Nat} {mod : Int32} {n : Nat} (hL : f L = some (.inr (3, [.int mod, .ref D, .int (nI n)]))) {I : Nat} {lr : Int32} {c : Nat} (hI : f I = some (.inr (2, [.int (nI c), .int lr, .int mod, .ref L]))) (hc : c ≤ n) (hn : n < 2 ^ 31) : Ct g 10 yJx35411_hasNext_aae02 cJx35411_hasNext_aae02 1 (some FieldType.boolean) 0 (0) [.ref (I)] (t, f) (fun v σ' => ((v = some (.int (nI 1)) ∧ c < n) ∨ (v = some (.int (nI 0)) ∧ c = n)) ∧ σ' = (t, f)) zNo := by
  refine Ct.ofN (lv := [(0, .ref (I))]) (by decide) (Nat.le_of_ble_eq_true rfl) rfl ?_
  intro κ X E B hnm
  have X : zX g κ RJx35411 cJx35411_hasNext_aae02 1 := X
  refine V.fr (fun hfr => ?_)
  have lt_L : L < t.1 := hfr _ _ hL
  have lt_I : I < t.1 := hfr _ _ hI
  refine V_aload_n X dJx35411_hasNext_aae02_0 0 rfl ?_
  refine V_getf2 X fl_Jx35411_25 hI rfl dJx35411_hasNext_aae02_1 ?_
  show V g κ 1 0 (0) (t, f) 4 [(0, .ref (I))] [.int (nI (c))]
  refine V_aload_n X dJx35411_hasNext_aae02_4 0 rfl ?_
  refine V_getf2 X fl_Jx35411_1 hI rfl dJx35411_hasNext_aae02_5 ?_
  show V g κ 1 0 (0) (t, f) 8 [(0, .ref (I))] [.ref (L), .int (nI (c))]
  refine V_getf X fn_Jx35411_28 hL rfl dJx35411_hasNext_aae02_8 ?_
  show V g κ 1 0 (0) (t, f) 11 [(0, .ref (I))] [.int (nI (n)), .int (nI (c))]
  refine V_icmpeqN X (by omega) (by omega) (tgt := 18) dJx35411_hasNext_aae02_11 (by decide) (fun h1 => ?_) (fun h1 => ?_)
  · -- true
    refine V_iconst (v := nI (0)) X dJx35411_hasNext_aae02_18 (by decide) ?_
    exact V_zret X E (by first | rfl | decide) (by omega) (by omega) ⟨Or.inr ⟨rfl, by omega⟩, rfl⟩ dJx35411_hasNext_aae02_19
  · -- false
    refine V_iconst (v := nI (1)) X dJx35411_hasNext_aae02_14 (by decide) ?_
    refine V_goto (tgt := 19) X dJx35411_hasNext_aae02_15 (by decide) ?_
    exact V_zret X E (by first | rfl | decide) (by omega) (by omega) ⟨Or.inl ⟨rfl, by omega⟩, rfl⟩ dJx35411_hasNext_aae02_19
set_option maxRecDepth 100000 in
set_option maxHeartbeats 4000000 in
theorem k_Jx35411_checkForComodification_da8c8 {g : zG} {t : Nat × Nat} {f : Nat → Option va_E} {L D : Nat} {mod : Int32} {n : Nat} (hL : f L = some (.inr (3, [.int mod, .ref D, .int (nI n)]))) {I : Nat} {lr : Int32} {c : Nat} (hI : f I = some (.inr (2, [.int (nI c), .int lr, .int mod, .ref L]))) : Ct g 10 yJx35411_checkForComodification_da8c8 cJx35411_checkForComodification_da8c8 1 (none) 0 (0) [.ref (I)] (t, f) (fun v σ' => v = none ∧ σ' = (t, f)) zNo := by
  refine Ct.ofN (lv := [(0, .ref (I))]) (by decide) (Nat.le_of_ble_eq_true rfl) rfl ?_
  intro κ X E B hnm
  have X : zX g κ RJx35411 cJx35411_checkForComodification_da8c8 1 := X
  refine V.fr (fun hfr => ?_)
  have lt_L : L < t.1 := hfr _ _ hL
  have lt_I : I < t.1 := hfr _ _ hI
  refine V_aload_n X dJx35411_checkForComodification_da8c8_0 0 rfl ?_
  refine V_getf2 X fl_Jx35411_1 hI rfl dJx35411_checkForComodification_da8c8_1 ?_
  show V g κ 1 0 (0) (t, f) 4 [(0, .ref (I))] [.ref (L)]
  refine V_getf2 X fl_Jx35411_17 hL rfl dJx35411_checkForComodification_da8c8_4 ?_
  show V g κ 1 0 (0) (t, f) 7 [(0, .ref (I))] [.int (mod)]
  refine V_aload_n X dJx35411_checkForComodification_da8c8_7 0 rfl ?_
  refine V_getf2 X fl_Jx35411_22 hI rfl dJx35411_checkForComodification_da8c8_8 ?_
  show V g κ 1 0 (0) (t, f) 11 [(0, .ref (I))] [.int (mod), .int (mod)]
  refine V_icmpeq X (tgt := 22) dJx35411_checkForComodification_da8c8_11 (by decide) (fun h1 => ?_) (fun h1 => (h1 rfl).elim)
  exact V_vret X E (by omega) (by omega) ⟨rfl, rfl⟩ dJx35411_checkForComodification_da8c8_22
set_option maxRecDepth 100000 in
set_option maxHeartbeats 4000000 in
theorem k_Jx35411_next_0502b {g : zG} {t : Nat × Nat} {f : Nat → Option va_E} {L D : Nat} {mod : Int32} {n : Nat} (hL : f L = some (.inr (3, [.int mod, .ref D, .int (nI n)]))) {m : Nat} {fd : Nat → Option Nat} (hD : f D = some (.inl (g.2.2.2 3, m, .inr (.inr (.inr (.inr fd)))))) {I : Nat} {lr : Int32} {c : Nat} (hI : f I = some (.inr (2, [.int (nI c), .int lr, .int mod, .ref L]))) (gI : g.2.1.size ≤ I) (hIL : I ≠ L) (hID : I ≠ D) {q : Nat} (hi : c < n) (hnm : n ≤ m) (hm : m < 2 ^ 31) (hq : fd c = some q) : Ct g 11 yJx35411_next_0502b cJx35411_next_0502b 3 (some (FieldType.object "java/lang/Object")) 0 (0) [.ref (I)] (t, f) (fun v σ' => v = some (.ref q) ∧ σ' = (t, zup f I (.inr (2, [.int (nI (c + 1)), .int (nI c), .int mod, .ref L])))) zNo := by
  refine Ct.ofN (lv := [(0, .ref (I))]) (by decide) (Nat.le_of_ble_eq_true rfl) rfl ?_
  intro κ X E B hnm
  have X : zX g κ RJx35411 cJx35411_next_0502b 3 := X
  refine V.fr (fun hfr => ?_)
  have lt_L : L < t.1 := hfr _ _ hL
  have lt_D : D < t.1 := hfr _ _ hD
  have lt_I : I < t.1 := hfr _ _ hI
  refine V_aload_n X dJx35411_next_0502b_0 0 rfl ?_
  refine V_callV (rest := []) X E.room ml_Jx35411_31 in_Jx35411_checkForComodification_da8c8 (ci := 2) rfl se_Jx35411_checkForComodification_da8c8 (fs := [.int (nI (c)), .int (lr), .int (mod), .ref (L)]) hI (by decide) (by decide) (k_Jx35411_checkForComodification_da8c8 hL hI) rfl rfl (Nat.le_of_ble_eq_true rfl) ⟨by omega, by omega⟩ dJx35411_next_0502b_1 (fun _ _ h => False.elim h) (fun v1 σ' hp2 => ?_)
  obtain ⟨hp2, rfl⟩ := hp2
  cases (hp2 : _ = none)
  show V g κ 3 0 (0) (t, f) 4 [(0, .ref (I))] []
  refine V_aload_n X dJx35411_next_0502b_4 0 rfl ?_
  refine V_getf2 X fl_Jx35411_25 hI rfl dJx35411_next_0502b_5 ?_
  show V g κ 3 0 (0) (t, f) 8 [(0, .ref (I))] [.int (nI (c))]
  refine V_istore_n X [(1, .int (nI (c))), (0, .ref (I))] dJx35411_next_0502b_8 (by decide) rfl ?_
  refine V_iload_n X dJx35411_next_0502b_9 0 rfl ?_
  refine V_aload_n X dJx35411_next_0502b_10 1 rfl ?_
  refine V_getf2 X fl_Jx35411_1 hI rfl dJx35411_next_0502b_11 ?_
  show V g κ 3 0 (0) (t, f) 14 [(1, .int (nI (c))), (0, .ref (I))] [.ref (L), .int (nI (c))]
  refine V_getf X fn_Jx35411_28 hL rfl dJx35411_next_0502b_14 ?_
  show V g κ 3 0 (0) (t, f) 17 [(1, .int (nI (c))), (0, .ref (I))] [.int (nI (n)), .int (nI (c))]
  refine V_icmpltN X (by omega) (by omega) (tgt := 28) dJx35411_next_0502b_17 (by decide) (fun h3 => ?_) (fun h3 => ((by omega : False)).elim)
  refine V_aload_n X dJx35411_next_0502b_28 1 rfl ?_
  refine V_getf2 X fl_Jx35411_1 hI rfl dJx35411_next_0502b_29 ?_
  show V g κ 3 0 (0) (t, f) 32 [(1, .int (nI (c))), (0, .ref (I))] [.ref (L)]
  refine V_getf2 X fl_Jx35411_37 hL rfl dJx35411_next_0502b_32 ?_
  show V g κ 3 0 (0) (t, f) 35 [(1, .int (nI (c))), (0, .ref (I))] [.ref (D)]
  refine V_astore_n X [(2, .ref (D)), (1, .int (nI (c))), (0, .ref (I))] dJx35411_next_0502b_35 (by decide) rfl ?_
  refine V_iload_n X dJx35411_next_0502b_36 1 rfl ?_
  refine V_aload_n X dJx35411_next_0502b_37 0 rfl ?_
  refine V_alen (v := nI (m)) X 3 hD (by decide) rfl dJx35411_next_0502b_38 ?_
  refine V_icmpltN X (by omega) (by omega) (tgt := 50) dJx35411_next_0502b_39 (by decide) (fun h4 => ?_) (fun h4 => ((by omega : False)).elim)
  refine V_aload_n X dJx35411_next_0502b_50 2 rfl ?_
  refine V_iload_n X dJx35411_next_0502b_51 1 rfl ?_
  refine V_iconst (v := nI (1)) X dJx35411_next_0502b_52 (by decide) ?_
  refine V_iaddN X dJx35411_next_0502b_53 ?_
  refine V_putf2 X fl_Jx35411_25 zt_Jx35411 hI gI (Nat.le_of_ble_eq_true rfl) rfl rfl rfl rfl dJx35411_next_0502b_54 ?_
  show V g κ 3 0 (0) (t, zup (f) (I) (.inr (2, [.int (nI (c + 1)), .int (lr), .int (mod), .ref (L)]))) 57 [(2, .ref (D)), (1, .int (nI (c))), (0, .ref (I))] []
  refine V_aload_n X dJx35411_next_0502b_57 0 rfl ?_
  refine V_aload_n X dJx35411_next_0502b_58 2 rfl ?_
  refine V_iload_n X dJx35411_next_0502b_59 1 rfl ?_
  refine V_dup_x1 X dJx35411_next_0502b_60 rfl rfl ?_
  refine V_putf2 X fl_Jx35411_13 zt_Jx35411 zup_eq gI (Nat.le_of_ble_eq_true rfl) rfl rfl rfl rfl dJx35411_next_0502b_61 ?_
  refine V.so (σ' := (t, zup (f) (I) (.inr (2, [.int (nI (c + 1)), .int (nI (c)), .int (mod), .ref (L)])))) (congrArg (Prod.mk (t)) (zup_zup)) ?_
  show V g κ 3 0 (0) (t, zup (f) (I) (.inr (2, [.int (nI (c + 1)), .int (nI (c)), .int (mod), .ref (L)]))) 64 [(2, .ref (D)), (1, .int (nI (c))), (0, .ref (I))] [.int (nI (c)), .ref (D)]
  refine V_aaldO X ((zup_ne (by omega)).trans (hD)) (vp_in_nI (by omega) (by omega)) (by rw [nI_clamp (by omega)]; exact hq) dJx35411_next_0502b_64 ?_
  exact V_aret X E (Or.inl ⟨_, rfl⟩) (Or.inr ⟨_, rfl⟩) (by omega) (by omega) ⟨rfl, rfl⟩ dJx35411_next_0502b_65
set_option maxRecDepth 100000 in
set_option maxHeartbeats 4000000 in
theorem k_Jx4a65c_grow_92f84 {g : zG} {t : Nat × Nat} {f : Nat → Option va_E} {L : Nat} {mod : Int32} (hL : f L = some (.inr (3, [.int mod, .ref (zEm g), .int (nI (0))]))) (gL : g.2.1.size ≤ L) (hE : zEmC g) (hLE : L ≠ zEm g) : Ct g 10 yJx4a65c_grow_92f84 cJx4a65c_grow_92f84 4 (some (FieldType.array (FieldType.object "java/lang/Object"))) 1 (10) [.ref (L), .int (nI (1))] (t, f) (fun v σ' => v = some (.ref t.1) ∧ σ' = ((t.1 + 1, t.2 + 10), zup (zup f t.1 (.inl (g.2.2.2 3, 10, .inr (.inr (.inr (.inr (fun _ => none))))))) L (.inr (3, [.int mod, .ref t.1, .int (nI (0))])))) zNo := by
  refine Ct.ofN (lv := [(0, .ref (L)), (1, .int (nI (1)))]) (by decide) (Nat.le_of_ble_eq_true rfl) rfl ?_
  intro κ X E B hnm
  have X : zX g κ RJx4a65c cJx4a65c_grow_92f84 4 := X
  refine V.fr (fun hfr => ?_)
  have lt_zEmg : zEm g < g.2.1.size := hE.lt
  have lt_L : L < t.1 := hfr _ _ hL
  refine V_aload_n X dJx4a65c_grow_92f84_0 0 rfl ?_
  refine V_getf2 X fl_Jx4a65c_9 hL rfl dJx4a65c_grow_92f84_1 ?_
  show V g κ 4 0 (0) (t, f) 4 [(0, .ref (L)), (1, .int (nI (1)))] [.ref (zEm g)]
  refine V_alenE X hE dJx4a65c_grow_92f84_4 ?_
  refine V_istore_n X [(2, .int (nI (0))), (0, .ref (L)), (1, .int (nI (1)))] dJx4a65c_grow_92f84_5 (by decide) rfl ?_
  refine V_iload_n X dJx4a65c_grow_92f84_6 0 rfl ?_
  refine V_ifgt X (tgt := 20) dJx4a65c_grow_92f84_7 (by decide) (fun h1 => ((absurd h1 (by decide) : False)).elim) (fun h1 => ?_)
  refine V_aload_n X dJx4a65c_grow_92f84_10 1 rfl ?_
  refine V_getf2 X fl_Jx4a65c_9 hL rfl dJx4a65c_grow_92f84_11 ?_
  show V g κ 4 0 (0) (t, f) 14 [(2, .int (nI (0))), (0, .ref (L)), (1, .int (nI (1)))] [.ref (zEm g)]
  refine V_gets X E (v := .ref (zEm g)) (zDefc X) gs_Jx4a65c_39 dJx4a65c_grow_92f84_14 ?_
  show V g κ 4 0 (0) (t, f) 17 [(2, .int (nI (0))), (0, .ref (L)), (1, .int (nI (1)))] [.ref (zEm g), .ref (zEm g)]
  refine V_acmpeq (tgt := 45) X dJx4a65c_grow_92f84_17 (by decide) (fun _ => ?_) (fun h => absurd rfl h)
  refine V_aload_n X dJx4a65c_grow_92f84_45 1 rfl ?_
  refine V_bipush (v := nI (10)) X dJx4a65c_grow_92f84_46 (by decide) ?_
  refine V_iload_n X dJx4a65c_grow_92f84_48 2 rfl ?_
  refine V_mmax X E.room (by omega) (by omega) (by decide) ml_Jx4a65c_79 st_J9_max_7cf53 rfl rfl (Nat.le_of_ble_eq_true rfl) dJx4a65c_grow_92f84_49 ?_
  refine V.st (st := [.int (nI (10)), .ref (L)]) rfl ?_
  refine V_anewO X E.room cl_Jx4a65c_7 (by omega) (by omega) (by omega) dJx4a65c_grow_92f84_52 ?_
  show V g κ 4 1 (0 + 10) ((t.1 + 1, t.2 + 10), zup (f) (t.1) (.inl (g.2.2.2 3, 10, .inr (.inr (.inr (.inr (fun _ => none))))))) 55 [(2, .int (nI (0))), (0, .ref (L)), (1, .int (nI (1)))] [.ref (t.1), .ref (L)]
  refine V_dup_x1 X dJx4a65c_grow_92f84_55 rfl rfl ?_
  refine V_putf2 X fl_Jx4a65c_9 zt_Jx4a65c ((zup_ne (by omega)).trans (hL)) gL (Nat.le_of_ble_eq_true rfl) rfl rfl rfl rfl dJx4a65c_grow_92f84_56 ?_
  show V g κ 4 1 (0 + 10) ((t.1 + 1, t.2 + 10), zup (zup (f) (t.1) (.inl (g.2.2.2 3, 10, .inr (.inr (.inr (.inr (fun _ => none))))))) (L) (.inr (3, [.int (mod), .ref (t.1), .int (nI (0))]))) 59 [(2, .int (nI (0))), (0, .ref (L)), (1, .int (nI (1)))] [.ref (t.1)]
  exact V_aret X E (Or.inr ⟨_, rfl⟩) (Or.inr ⟨_, rfl⟩) (by omega) (by omega) ⟨rfl, rfl⟩ dJx4a65c_grow_92f84_59
set_option maxRecDepth 100000 in
set_option maxHeartbeats 4000000 in
theorem k_Jx4a65c_grow_d5877 {g : zG} {t : Nat × Nat} {f : Nat → Option va_E} {L : Nat} {mod : Int32} (hL : f L = some (.inr (3, [.int mod, .ref (zEm g), .int (nI (0))]))) (gL : g.2.1.size ≤ L) (hE : zEmC g) (hLE : L ≠ zEm g) : Ct g 11 yJx4a65c_grow_d5877 cJx4a65c_grow_d5877 1 (some (FieldType.array (FieldType.object "java/lang/Object"))) 1 (10) [.ref (L)] (t, f) (fun v σ' => v = some (.ref t.1) ∧ σ' = ((t.1 + 1, t.2 + 10), zup (zup f t.1 (.inl (g.2.2.2 3, 10, .inr (.inr (.inr (.inr (fun _ => none))))))) L (.inr (3, [.int mod, .ref t.1, .int (nI (0))])))) zNo := by
  refine Ct.ofN (lv := [(0, .ref (L))]) (by decide) (Nat.le_of_ble_eq_true rfl) rfl ?_
  intro κ X E B hnm
  have X : zX g κ RJx4a65c cJx4a65c_grow_d5877 1 := X
  refine V.fr (fun hfr => ?_)
  have lt_zEmg : zEm g < g.2.1.size := hE.lt
  have lt_L : L < t.1 := hfr _ _ hL
  refine V_aload_n X dJx4a65c_grow_d5877_0 0 rfl ?_
  refine V_aload_n X dJx4a65c_grow_d5877_1 0 rfl ?_
  refine V_getf2 X fl_Jx4a65c_48 hL rfl dJx4a65c_grow_d5877_2 ?_
  show V g κ 1 0 (0) (t, f) 5 [(0, .ref (L))] [.int (nI (0)), .ref (L)]
  refine V_iconst (v := nI (1)) X dJx4a65c_grow_d5877_5 (by decide) ?_
  refine V_iaddN X dJx4a65c_grow_d5877_6 ?_
  refine V_callV (rest := []) X E.room ml_Jx4a65c_69 in_Jx4a65c_grow_92f84 (ci := 3) rfl se_Jx4a65c_grow_92f84 (fs := [.int (mod), .ref (zEm g), .int (nI (0))]) hL (by decide) (by decide) (k_Jx4a65c_grow_92f84 hL gL hE hLE) rfl rfl (Nat.le_of_ble_eq_true rfl) ⟨by omega, by omega⟩ dJx4a65c_grow_d5877_7 (fun _ _ h => False.elim h) (fun v1 σ' hp2 => ?_)
  obtain ⟨hp2, rfl⟩ := hp2
  cases (hp2 : _ = some (Value.ref (t.1)))
  show V g κ 1 1 (0 + 10) ((t.1 + 1, t.2 + 10), zup (zup (f) (t.1) (.inl (g.2.2.2 3, 10, .inr (.inr (.inr (.inr (fun _ => none))))))) (L) (.inr (3, [.int (mod), .ref (t.1), .int (nI (0))]))) 10 [(0, .ref (L))] [.ref (t.1)]
  exact V_aret X E (Or.inr ⟨_, rfl⟩) (Or.inr ⟨_, rfl⟩) (by omega) (by omega) ⟨rfl, rfl⟩ dJx4a65c_grow_d5877_10
set_option maxRecDepth 100000 in
set_option maxHeartbeats 4000000 in
theorem k_add3_0 {g : zG} {t : Nat × Nat} {f : Nat → Option va_E} {L : Nat} {mod : Int32} (hL : f L = some (.inr (3, [.int mod, .ref (zEm g), .int (nI (0))]))) (gL : g.2.1.size ≤ L) (hE : zEmC g) (hLE : L ≠ zEm g) {v ci : Nat} {vs : List Value} (hv : f v = some (.inr (ci, vs))) {Cv : String} {Tv : u_T} {Nv : Nat} (hcv : vwCl[ci]? = some (Cv, Tv, Nv)) (hco : Cond.castable Cv "java/lang/Object" ∈ zNL) (hLv : L ≠ v) (hEv : zEm g ≠ v) : Ct g 12 yJx4a65c_add_72be8 cJx4a65c_add_72be8 4 (none) 1 (10) [.ref (L), .ref (v), .ref (zEm g), .int (nI (0))] (t, f) (fun v' σ' => v' = none ∧ σ' = ((t.1 + 1, t.2 + 10), zup (zup f t.1 (.inl (g.2.2.2 3, 10, .inr (.inr (.inr (.inr (va_up (fun _ => none) (nI (0)).toNatClampNeg (some v)))))))) L (.inr (3, [.int mod, .ref t.1, .int (nI (0 + 1))])))) zNo := by
  refine Ct.ofN (lv := [(0, .ref (L)), (1, .ref (v)), (2, .ref (zEm g)), (3, .int (nI (0)))]) (by decide) (Nat.le_of_ble_eq_true rfl) rfl ?_
  intro κ X E B hnm
  have X : zX g κ RJx4a65c cJx4a65c_add_72be8 4 := X
  refine V.fr (fun hfr => ?_)
  have lt_zEmg : zEm g < g.2.1.size := hE.lt
  have lt_L : L < t.1 := hfr _ _ hL
  have lt_v : v < t.1 := hfr _ _ hv
  refine V_iload_n X dJx4a65c_add_72be8_0 3 rfl ?_
  refine V_aload_n X dJx4a65c_add_72be8_1 2 rfl ?_
  refine V_alenE X hE dJx4a65c_add_72be8_2 ?_
  refine V_icmpneN X (by omega) (by omega) (tgt := 11) dJx4a65c_add_72be8_3 (by decide) (fun h1 => (h1 rfl).elim) (fun h1 => ?_)
  refine V_aload_n X dJx4a65c_add_72be8_6 0 rfl ?_
  refine V_callV (rest := []) X E.room ml_Jx4a65c_129 in_Jx4a65c_grow_d5877 (ci := 3) rfl se_Jx4a65c_grow_d5877 (fs := [.int (mod), .ref (zEm g), .int (nI (0))]) hL (by decide) (by decide) (k_Jx4a65c_grow_d5877 hL gL hE hLE) rfl rfl (Nat.le_of_ble_eq_true rfl) ⟨by omega, by omega⟩ dJx4a65c_add_72be8_7 (fun _ _ h => False.elim h) (fun v2 σ' hp3 => ?_)
  obtain ⟨hp3, rfl⟩ := hp3
  cases (hp3 : _ = some (Value.ref (t.1)))
  show V g κ 4 1 (0 + 10) ((t.1 + 1, t.2 + 10), zup (zup (f) (t.1) (.inl (g.2.2.2 3, 10, .inr (.inr (.inr (.inr (fun _ => none))))))) (L) (.inr (3, [.int (mod), .ref (t.1), .int (nI (0))]))) 10 [(0, .ref (L)), (1, .ref (v)), (2, .ref (zEm g)), (3, .int (nI (0)))] [.ref (t.1)]
  refine V_astore_n X [(2, .ref (t.1)), (0, .ref (L)), (1, .ref (v)), (3, .int (nI (0)))] dJx4a65c_add_72be8_10 (by decide) rfl ?_
  refine V_aload_n X dJx4a65c_add_72be8_11 0 rfl ?_
  refine V_iload_n X dJx4a65c_add_72be8_12 3 rfl ?_
  refine V_aload_n X dJx4a65c_add_72be8_13 2 rfl ?_
  refine V_aastO X ((zup_ne (by omega)).trans (zup_eq)) (by omega) ((zup_ne (by omega)).trans ((zup_ne (by omega)).trans (hv))) hcv hco (vp_in_nI (by omega) (by omega)) dJx4a65c_add_72be8_14 ?_
  refine V.so (σ' := ((t.1 + 1, t.2 + 10), zup (zup (f) (t.1) (.inl (g.2.2.2 3, 10, .inr (.inr (.inr (.inr (va_up (fun _ => none) (nI (0)).toNatClampNeg (some v)))))))) (L) (.inr (3, [.int (mod), .ref (t.1), .int (nI (0))])))) (congrArg (Prod.mk ((t.1 + 1, t.2 + 10))) ((zup_comm (by omega)).trans (congrArg (fun z => zup z (L) (.inr (3, [.int (mod), .ref (t.1), .int (nI (0))]))) (zup_zup)))) ?_
  refine V_aload_n X dJx4a65c_add_72be8_15 1 rfl ?_
  refine V_iload_n X dJx4a65c_add_72be8_16 3 rfl ?_
  refine V_iconst (v := nI (1)) X dJx4a65c_add_72be8_17 (by decide) ?_
  refine V_iaddN X dJx4a65c_add_72be8_18 ?_
  refine V_putf2 X fl_Jx4a65c_48 zt_Jx4a65c zup_eq gL (Nat.le_of_ble_eq_true rfl) rfl rfl rfl rfl dJx4a65c_add_72be8_19 ?_
  refine V.so (σ' := ((t.1 + 1, t.2 + 10), zup (zup (f) (t.1) (.inl (g.2.2.2 3, 10, .inr (.inr (.inr (.inr (va_up (fun _ => none) (nI (0)).toNatClampNeg (some v)))))))) (L) (.inr (3, [.int (mod), .ref (t.1), .int (nI (0 + 1))])))) (congrArg (Prod.mk ((t.1 + 1, t.2 + 10))) (zup_zup)) ?_
  show V g κ 4 1 (0 + 10) ((t.1 + 1, t.2 + 10), zup (zup (f) (t.1) (.inl (g.2.2.2 3, 10, .inr (.inr (.inr (.inr (va_up (fun _ => none) (nI (0)).toNatClampNeg (some v)))))))) (L) (.inr (3, [.int (mod), .ref (t.1), .int (nI (0 + 1))]))) 22 [(2, .ref (t.1)), (0, .ref (L)), (1, .ref (v)), (3, .int (nI (0)))] []
  exact V_vret X E (by omega) (by omega) ⟨rfl, rfl⟩ dJx4a65c_add_72be8_22
set_option maxRecDepth 100000 in
set_option maxHeartbeats 4000000 in
theorem k_add3_n {g : zG} {t : Nat × Nat} {f : Nat → Option va_E} {L D : Nat} {mod : Int32} {n : Nat} (hL : f L = some (.inr (3, [.int mod, .ref D, .int (nI n)]))) {fd : Nat → Option Nat} (hD : f D = some (.inl (g.2.2.2 3, 10, .inr (.inr (.inr (.inr fd)))))) (gL : g.2.1.size ≤ L) (gD : g.2.1.size ≤ D) (hLD : L ≠ D) (hn : n < 10) {v ci : Nat} {vs : List Value} (hv : f v = some (.inr (ci, vs))) {Cv : String} {Tv : u_T} {Nv : Nat} (hcv : vwCl[ci]? = some (Cv, Tv, Nv)) (hco : Cond.castable Cv "java/lang/Object" ∈ zNL) (hLv : L ≠ v) (hDv : D ≠ v) : Ct g 12 yJx4a65c_add_72be8 cJx4a65c_add_72be8 4 (none) 0 (0) [.ref (L), .ref (v), .ref (D), .int (nI (n))] (t, f) (fun v' σ' => v' = none ∧ σ' = (t, zup (zup f D (.inl (g.2.2.2 3, 10, .inr (.inr (.inr (.inr (va_up (fd) (nI (n)).toNatClampNeg (some v)))))))) L (.inr (3, [.int mod, .ref D, .int (nI (n + 1))])))) zNo := by
  refine Ct.ofN (lv := [(0, .ref (L)), (1, .ref (v)), (2, .ref (D)), (3, .int (nI (n)))]) (by decide) (Nat.le_of_ble_eq_true rfl) rfl ?_
  intro κ X E B hnm
  have X : zX g κ RJx4a65c cJx4a65c_add_72be8 4 := X
  refine V.fr (fun hfr => ?_)
  have lt_L : L < t.1 := hfr _ _ hL
  have lt_D : D < t.1 := hfr _ _ hD
  have lt_v : v < t.1 := hfr _ _ hv
  refine V_iload_n X dJx4a65c_add_72be8_0 3 rfl ?_
  refine V_aload_n X dJx4a65c_add_72be8_1 2 rfl ?_
  refine V_alen (v := nI (10)) X 3 hD (by decide) rfl dJx4a65c_add_72be8_2 ?_
  refine V_icmpneN X (by omega) (by omega) (tgt := 11) dJx4a65c_add_72be8_3 (by decide) (fun h1 => ?_) (fun h1 => ((by omega : False)).elim)
  refine V_aload_n X dJx4a65c_add_72be8_11 2 rfl ?_
  refine V_iload_n X dJx4a65c_add_72be8_12 3 rfl ?_
  refine V_aload_n X dJx4a65c_add_72be8_13 1 rfl ?_
  refine V_aastO X hD (by omega) hv hcv hco (vp_in_nI (by omega) (by omega)) dJx4a65c_add_72be8_14 ?_
  refine V_aload_n X dJx4a65c_add_72be8_15 0 rfl ?_
  refine V_iload_n X dJx4a65c_add_72be8_16 3 rfl ?_
  refine V_iconst (v := nI (1)) X dJx4a65c_add_72be8_17 (by decide) ?_
  refine V_iaddN X dJx4a65c_add_72be8_18 ?_
  refine V_putf2 X fl_Jx4a65c_48 zt_Jx4a65c ((zup_ne (by omega)).trans (hL)) gL (Nat.le_of_ble_eq_true rfl) rfl rfl rfl rfl dJx4a65c_add_72be8_19 ?_
  show V g κ 4 0 (0) (t, zup (zup (f) (D) (.inl (g.2.2.2 3, 10, .inr (.inr (.inr (.inr (va_up (fd) (nI (n)).toNatClampNeg (some v)))))))) (L) (.inr (3, [.int (mod), .ref (D), .int (nI (n + 1))]))) 22 [(0, .ref (L)), (1, .ref (v)), (2, .ref (D)), (3, .int (nI (n)))] []
  exact V_vret X E (by omega) (by omega) ⟨rfl, rfl⟩ dJx4a65c_add_72be8_22
set_option maxRecDepth 100000 in
set_option maxHeartbeats 4000000 in
theorem k_add_0 {g : zG} {t : Nat × Nat} {f : Nat → Option va_E} {L : Nat} {mod : Int32} (hL : f L = some (.inr (3, [.int mod, .ref (zEm g), .int (nI (0))]))) (gL : g.2.1.size ≤ L) (hE : zEmC g) (hLE : L ≠ zEm g) {v ci : Nat} {vs : List Value} (hv : f v = some (.inr (ci, vs))) {Cv : String} {Tv : u_T} {Nv : Nat} (hcv : vwCl[ci]? = some (Cv, Tv, Nv)) (hco : Cond.castable Cv "java/lang/Object" ∈ zNL) (hLv : L ≠ v) (hEv : zEm g ≠ v) : Ct g 13 yJx4a65c_add_9ea2d cJx4a65c_add_9ea2d 2 (some FieldType.boolean) 1 (10) [.ref (L), .ref (v)] (t, f) (fun v' σ' => v' = some (.int (nI 1)) ∧ σ' = ((t.1 + 1, t.2 + 10), zup (zup f L (.inr (3, [.int (mod + nI 1), .ref t.1, .int (nI (0 + 1))]))) t.1 (.inl (g.2.2.2 3, 10, .inr (.inr (.inr (.inr (va_up (fun _ => none) (nI (0)).toNatClampNeg (some v))))))))) zNo := by
  refine Ct.ofN (lv := [(0, .ref (L)), (1, .ref (v))]) (by decide) (Nat.le_of_ble_eq_true rfl) rfl ?_
  intro κ X E B hnm
  have X : zX g κ RJx4a65c cJx4a65c_add_9ea2d 2 := X
  refine V.fr (fun hfr => ?_)
  have lt_zEmg : zEm g < g.2.1.size := hE.lt
  have lt_L : L < t.1 := hfr _ _ hL
  have lt_v : v < t.1 := hfr _ _ hv
  refine V_aload_n X dJx4a65c_add_9ea2d_0 0 rfl ?_
  refine V_dup X dJx4a65c_add_9ea2d_1 rfl ?_
  refine V_getf2 X fl_Jx4a65c_63 hL rfl dJx4a65c_add_9ea2d_2 ?_
  show V g κ 2 0 (0) (t, f) 5 [(0, .ref (L)), (1, .ref (v))] [.int (mod), .ref (L)]
  refine V_iconst (v := nI (1)) X dJx4a65c_add_9ea2d_5 (by decide) ?_
  refine V_iadd X dJx4a65c_add_9ea2d_6 ?_
  refine V_putf2 X fl_Jx4a65c_63 zt_Jx4a65c hL gL (Nat.le_of_ble_eq_true rfl) rfl rfl rfl rfl dJx4a65c_add_9ea2d_7 ?_
  show V g κ 2 0 (0) (t, zup (f) (L) (.inr (3, [.int (mod + nI 1), .ref (zEm g), .int (nI (0))]))) 10 [(0, .ref (L)), (1, .ref (v))] []
  refine V_aload_n X dJx4a65c_add_9ea2d_10 0 rfl ?_
  refine V_aload_n X dJx4a65c_add_9ea2d_11 1 rfl ?_
  refine V_aload_n X dJx4a65c_add_9ea2d_12 0 rfl ?_
  refine V_getf2 X fl_Jx4a65c_9 zup_eq rfl dJx4a65c_add_9ea2d_13 ?_
  show V g κ 2 0 (0) (t, zup (f) (L) (.inr (3, [.int (mod + nI 1), .ref (zEm g), .int (nI (0))]))) 16 [(0, .ref (L)), (1, .ref (v))] [.ref (zEm g), .ref (v), .ref (L)]
  refine V_aload_n X dJx4a65c_add_9ea2d_16 0 rfl ?_
  refine V_getf2 X fl_Jx4a65c_48 zup_eq rfl dJx4a65c_add_9ea2d_17 ?_
  show V g κ 2 0 (0) (t, zup (f) (L) (.inr (3, [.int (mod + nI 1), .ref (zEm g), .int (nI (0))]))) 20 [(0, .ref (L)), (1, .ref (v))] [.int (nI (0)), .ref (zEm g), .ref (v), .ref (L)]
  refine V_callV (rest := []) X E.room ml_Jx4a65c_131 in_Jx4a65c_add_72be8 (ci := 3) rfl se_Jx4a65c_add_72be8 (fs := [.int (mod + nI 1), .ref (zEm g), .int (nI (0))]) zup_eq (by decide) (by decide) (k_add3_0 (mod := mod + nI 1) zup_eq gL hE hLE (vs := vs) ((zup_ne (by omega)).trans (hv)) hcv hco hLv hEv) rfl rfl (Nat.le_of_ble_eq_true rfl) ⟨by omega, by omega⟩ dJx4a65c_add_9ea2d_20 (fun _ _ h => False.elim h) (fun v1 σ' hp2 => ?_)
  obtain ⟨hp2, rfl⟩ := hp2
  cases (hp2 : _ = none)
  refine V.so (σ' := ((t.1 + 1, t.2 + 10), zup (zup (f) (L) (.inr (3, [.int (mod + nI 1), .ref (t.1), .int (nI (0 + 1))]))) (t.1) (.inl (g.2.2.2 3, 10, .inr (.inr (.inr (.inr (va_up (fun _ => none) (nI (0)).toNatClampNeg (some v))))))))) (congrArg (Prod.mk ((t.1 + 1, t.2 + 10))) ((congrArg (fun z => zup z (L) (.inr (3, [.int (mod + nI 1), .ref (t.1), .int (nI (0 + 1))]))) (rfl)).trans ((zup_comm (by omega)).trans (congrArg (fun z => zup z (t.1) (.inl (g.2.2.2 3, 10, .inr (.inr (.inr (.inr (va_up (fun _ => none) (nI (0)).toNatClampNeg (some v)))))))) (zup_zup))))) ?_
  show V g κ 2 1 (0 + 10) ((t.1 + 1, t.2 + 10), zup (zup (f) (L) (.inr (3, [.int (mod + nI 1), .ref (t.1), .int (nI (0 + 1))]))) (t.1) (.inl (g.2.2.2 3, 10, .inr (.inr (.inr (.inr (va_up (fun _ => none) (nI (0)).toNatClampNeg (some v)))))))) 23 [(0, .ref (L)), (1, .ref (v))] []
  refine V_iconst (v := nI (1)) X dJx4a65c_add_9ea2d_23 (by decide) ?_
  exact V_zret X E (by first | rfl | decide) (by omega) (by omega) ⟨rfl, rfl⟩ dJx4a65c_add_9ea2d_24
set_option maxRecDepth 100000 in
set_option maxHeartbeats 4000000 in
theorem k_add_n {g : zG} {t : Nat × Nat} {f : Nat → Option va_E} {L D : Nat} {mod : Int32} {n : Nat} (hL : f L = some (.inr (3, [.int mod, .ref D, .int (nI n)]))) {fd : Nat → Option Nat} (hD : f D = some (.inl (g.2.2.2 3, 10, .inr (.inr (.inr (.inr fd)))))) (gL : g.2.1.size ≤ L) (gD : g.2.1.size ≤ D) (hLD : L ≠ D) (hn : n < 10) {v ci : Nat} {vs : List Value} (hv : f v = some (.inr (ci, vs))) {Cv : String} {Tv : u_T} {Nv : Nat} (hcv : vwCl[ci]? = some (Cv, Tv, Nv)) (hco : Cond.castable Cv "java/lang/Object" ∈ zNL) (hLv : L ≠ v) (hDv : D ≠ v) : Ct g 13 yJx4a65c_add_9ea2d cJx4a65c_add_9ea2d 2 (some FieldType.boolean) 0 (0) [.ref (L), .ref (v)] (t, f) (fun v' σ' => v' = some (.int (nI 1)) ∧ σ' = (t, zup (zup f L (.inr (3, [.int (mod + nI 1), .ref D, .int (nI (n + 1))]))) D (.inl (g.2.2.2 3, 10, .inr (.inr (.inr (.inr (va_up (fd) (nI (n)).toNatClampNeg (some v))))))))) zNo := by
  refine Ct.ofN (lv := [(0, .ref (L)), (1, .ref (v))]) (by decide) (Nat.le_of_ble_eq_true rfl) rfl ?_
  intro κ X E B hnm
  have X : zX g κ RJx4a65c cJx4a65c_add_9ea2d 2 := X
  refine V.fr (fun hfr => ?_)
  have lt_L : L < t.1 := hfr _ _ hL
  have lt_D : D < t.1 := hfr _ _ hD
  have lt_v : v < t.1 := hfr _ _ hv
  refine V_aload_n X dJx4a65c_add_9ea2d_0 0 rfl ?_
  refine V_dup X dJx4a65c_add_9ea2d_1 rfl ?_
  refine V_getf2 X fl_Jx4a65c_63 hL rfl dJx4a65c_add_9ea2d_2 ?_
  show V g κ 2 0 (0) (t, f) 5 [(0, .ref (L)), (1, .ref (v))] [.int (mod), .ref (L)]
  refine V_iconst (v := nI (1)) X dJx4a65c_add_9ea2d_5 (by decide) ?_
  refine V_iadd X dJx4a65c_add_9ea2d_6 ?_
  refine V_putf2 X fl_Jx4a65c_63 zt_Jx4a65c hL gL (Nat.le_of_ble_eq_true rfl) rfl rfl rfl rfl dJx4a65c_add_9ea2d_7 ?_
  show V g κ 2 0 (0) (t, zup (f) (L) (.inr (3, [.int (mod + nI 1), .ref (D), .int (nI (n))]))) 10 [(0, .ref (L)), (1, .ref (v))] []
  refine V_aload_n X dJx4a65c_add_9ea2d_10 0 rfl ?_
  refine V_aload_n X dJx4a65c_add_9ea2d_11 1 rfl ?_
  refine V_aload_n X dJx4a65c_add_9ea2d_12 0 rfl ?_
  refine V_getf2 X fl_Jx4a65c_9 zup_eq rfl dJx4a65c_add_9ea2d_13 ?_
  show V g κ 2 0 (0) (t, zup (f) (L) (.inr (3, [.int (mod + nI 1), .ref (D), .int (nI (n))]))) 16 [(0, .ref (L)), (1, .ref (v))] [.ref (D), .ref (v), .ref (L)]
  refine V_aload_n X dJx4a65c_add_9ea2d_16 0 rfl ?_
  refine V_getf2 X fl_Jx4a65c_48 zup_eq rfl dJx4a65c_add_9ea2d_17 ?_
  show V g κ 2 0 (0) (t, zup (f) (L) (.inr (3, [.int (mod + nI 1), .ref (D), .int (nI (n))]))) 20 [(0, .ref (L)), (1, .ref (v))] [.int (nI (n)), .ref (D), .ref (v), .ref (L)]
  refine V_callV (rest := []) X E.room ml_Jx4a65c_131 in_Jx4a65c_add_72be8 (ci := 3) rfl se_Jx4a65c_add_72be8 (fs := [.int (mod + nI 1), .ref (D), .int (nI (n))]) zup_eq (by decide) (by decide) (k_add3_n (mod := mod + nI 1) zup_eq ((zup_ne (by omega)).trans (hD)) gL gD hLD hn (vs := vs) ((zup_ne (by omega)).trans (hv)) hcv hco hLv hDv) rfl rfl (Nat.le_of_ble_eq_true rfl) ⟨by omega, by omega⟩ dJx4a65c_add_9ea2d_20 (fun _ _ h => False.elim h) (fun v1 σ' hp2 => ?_)
  obtain ⟨hp2, rfl⟩ := hp2
  cases (hp2 : _ = none)
  refine V.so (σ' := (t, zup (zup (f) (L) (.inr (3, [.int (mod + nI 1), .ref (D), .int (nI (n + 1))]))) (D) (.inl (g.2.2.2 3, 10, .inr (.inr (.inr (.inr (va_up (fd) (nI (n)).toNatClampNeg (some v))))))))) (congrArg (Prod.mk (t)) ((congrArg (fun z => zup z (L) (.inr (3, [.int (mod + nI 1), .ref (D), .int (nI (n + 1))]))) (rfl)).trans ((zup_comm (by omega)).trans (congrArg (fun z => zup z (D) (.inl (g.2.2.2 3, 10, .inr (.inr (.inr (.inr (va_up (fd) (nI (n)).toNatClampNeg (some v)))))))) (zup_zup))))) ?_
  show V g κ 2 0 (0) (t, zup (zup (f) (L) (.inr (3, [.int (mod + nI 1), .ref (D), .int (nI (n + 1))]))) (D) (.inl (g.2.2.2 3, 10, .inr (.inr (.inr (.inr (va_up (fd) (nI (n)).toNatClampNeg (some v)))))))) 23 [(0, .ref (L)), (1, .ref (v))] []
  refine V_iconst (v := nI (1)) X dJx4a65c_add_9ea2d_23 (by decide) ?_
  exact V_zret X E (by first | rfl | decide) (by omega) (by omega) ⟨rfl, rfl⟩ dJx4a65c_add_9ea2d_24
set_option maxRecDepth 100000 in
set_option maxHeartbeats 4000000 in
theorem k_Jxa1e45_init_da8c8 {g : zG} {t : Nat × Nat} {f : Nat → Option va_E} {L : Nat} : Ct g 10 yJxa1e45_init_da8c8 cJxa1e45_init_da8c8 1 (none) 0 (0) [.ref (L)] (t, f) (fun v σ' => v = none ∧ σ' = (t, f)) zNo := by
  refine Ct.ofN (lv := [(0, .ref (L))]) (by decide) (Nat.le_of_ble_eq_true rfl) rfl ?_
  intro κ X E B hnm
  have X : zX g κ RJxa1e45 cJxa1e45_init_da8c8 1 := X
  refine V.fr (fun hfr => ?_)
  refine V_aload_n X dJxa1e45_init_da8c8_0 0 rfl ?_
  refine V_objInit X E.room (by decide) oi_Jxa1e45_1 oi_in oi_code (Nat.le_of_ble_eq_true rfl) dJxa1e45_init_da8c8_1 ?_
  exact V_vret X E (by omega) (by omega) ⟨rfl, rfl⟩ dJxa1e45_init_da8c8_4
set_option maxRecDepth 100000 in
set_option maxHeartbeats 4000000 in
theorem k_Jxc12de_init_da8c8 {g : zG} {t : Nat × Nat} {f : Nat → Option va_E} {L : Nat} (hL : f L = some (.inr (3, [.int (nI (0)), .null, .int (nI (0))]))) (gL : g.2.1.size ≤ L) : Ct g 11 yJxc12de_init_da8c8 cJxc12de_init_da8c8 1 (none) 0 (0) [.ref (L)] (t, f) (fun v σ' => v = none ∧ σ' = (t, zup f L (.inr (3, [.int (nI (0)), .null, .int (nI (0))])))) zNo := by
  refine Ct.ofN (lv := [(0, .ref (L))]) (by decide) (Nat.le_of_ble_eq_true rfl) rfl ?_
  intro κ X E B hnm
  have X : zX g κ RJxc12de cJxc12de_init_da8c8 1 := X
  refine V.fr (fun hfr => ?_)
  have lt_L : L < t.1 := hfr _ _ hL
  refine V_aload_n X dJxc12de_init_da8c8_0 0 rfl ?_
  refine V_callI (rest := []) X E.room ml_Jxc12de_1 in_Jxa1e45_init_da8c8 rfl (by decide) (by decide) (k_Jxa1e45_init_da8c8) rfl rfl (Nat.le_of_ble_eq_true rfl) ⟨by omega, by omega⟩ dJxc12de_init_da8c8_1 (fun _ _ h => False.elim h) (fun v1 σ' hp2 => ?_)
  obtain ⟨hp2, rfl⟩ := hp2
  cases (hp2 : _ = none)
  show V g κ 1 0 (0) (t, f) 4 [(0, .ref (L))] []
  refine V_aload_n X dJxc12de_init_da8c8_4 0 rfl ?_
  refine V_iconst (v := nI (0)) X dJxc12de_init_da8c8_5 (by decide) ?_
  refine V_putf2 X fl_Jxc12de_7 zt_Jx4a65c hL gL (Nat.le_of_ble_eq_true rfl) rfl rfl rfl rfl dJxc12de_init_da8c8_6 ?_
  show V g κ 1 0 (0) (t, zup (f) (L) (.inr (3, [.int (nI (0)), .null, .int (nI (0))]))) 9 [(0, .ref (L))] []
  exact V_vret X E (by omega) (by omega) ⟨rfl, rfl⟩ dJxc12de_init_da8c8_9
set_option maxRecDepth 100000 in
set_option maxHeartbeats 4000000 in
theorem k_Jx4a65c_init_da8c8 {g : zG} {t : Nat × Nat} {f : Nat → Option va_E} {L : Nat} (hL : f L = some (.inr (3, [.int (nI (0)), .null, .int (nI (0))]))) (gL : g.2.1.size ≤ L) : Ct g 12 yJx4a65c_init_da8c8 cJx4a65c_init_da8c8 1 (none) 0 (0) [.ref (L)] (t, f) (fun v σ' => v = none ∧ σ' = (t, zup f L (.inr (3, [.int (nI (0)), .ref (zEm g), .int (nI (0))])))) zNo := by
  refine Ct.ofN (lv := [(0, .ref (L))]) (by decide) (Nat.le_of_ble_eq_true rfl) rfl ?_
  intro κ X E B hnm
  have X : zX g κ RJx4a65c cJx4a65c_init_da8c8 1 := X
  refine V.fr (fun hfr => ?_)
  have lt_L : L < t.1 := hfr _ _ hL
  refine V_aload_n X dJx4a65c_init_da8c8_0 0 rfl ?_
  refine V_callI (rest := []) X E.room ml_Jx4a65c_1 in_Jxc12de_init_da8c8 rfl (by decide) (by decide) (k_Jxc12de_init_da8c8 hL gL) rfl rfl (Nat.le_of_ble_eq_true rfl) ⟨by omega, by omega⟩ dJx4a65c_init_da8c8_1 (fun _ _ h => False.elim h) (fun v1 σ' hp2 => ?_)
  obtain ⟨hp2, rfl⟩ := hp2
  cases (hp2 : _ = none)
  show V g κ 1 0 (0) (t, zup (f) (L) (.inr (3, [.int (nI (0)), .null, .int (nI (0))]))) 4 [(0, .ref (L))] []
  refine V_aload_n X dJx4a65c_init_da8c8_4 0 rfl ?_
  refine V_gets X E (v := .ref (zEm g)) (zDefc X) gs_Jx4a65c_39 dJx4a65c_init_da8c8_5 ?_
  show V g κ 1 0 (0) (t, zup (f) (L) (.inr (3, [.int (nI (0)), .null, .int (nI (0))]))) 8 [(0, .ref (L))] [.ref (zEm g), .ref (L)]
  refine V_putf2 X fl_Jx4a65c_9 zt_Jx4a65c zup_eq gL (Nat.le_of_ble_eq_true rfl) rfl rfl rfl rfl dJx4a65c_init_da8c8_8 ?_
  refine V.so (σ' := (t, zup (f) (L) (.inr (3, [.int (nI (0)), .ref (zEm g), .int (nI (0))])))) (congrArg (Prod.mk (t)) (zup_zup)) ?_
  show V g κ 1 0 (0) (t, zup (f) (L) (.inr (3, [.int (nI (0)), .ref (zEm g), .int (nI (0))]))) 11 [(0, .ref (L))] []
  exact V_vret X E (by omega) (by omega) ⟨rfl, rfl⟩ dJx4a65c_init_da8c8_11
