set_option maxRecDepth 100000 in
set_option maxHeartbeats 4000000 in
theorem k_J1_canEncode_fc78d {g : zG} {t : Nat × Nat} {f : Nat → Option va_E} (c : Nat) (hc : c ≤ 255) : Ct g 10 yJ1_canEncode_fc78d cJ1_canEncode_fc78d 1 (some FieldType.boolean) 0 (0) [.int (nI (c))] (t, f) (fun v σ' => v = some (.int (nI 1)) ∧ σ' = (t, f)) zNo := by
  refine Ct.ofN (lv := [(0, .int (nI (c)))]) (by decide) (Nat.le_of_ble_eq_true rfl) rfl ?_
  intro κ X E B9 hnm
  have X : zX g κ RJ1 cJ1_canEncode_fc78d 1 := X
  refine V.fr (fun hfr => ?_)
  refine V_iload_n X dJ1_canEncode_fc78d_0 0 rfl ?_
  refine V_sipush (v := nI (255)) X dJ1_canEncode_fc78d_1 (by decide) ?_
  refine V_icmpgtN X (by omega) (by omega) (tgt := 11) dJ1_canEncode_fc78d_4 (by decide) (fun h1 => ((by omega : False)).elim) (fun h1 => ?_)
  refine V_iconst (v := nI (1)) X dJ1_canEncode_fc78d_7 (by decide) ?_
  refine V_goto (tgt := 12) X dJ1_canEncode_fc78d_8 (by decide) ?_
  exact V_zret X E (by first | rfl | decide) (by omega) (by omega) ⟨rfl, rfl⟩ dJ1_canEncode_fc78d_12
set_option maxRecDepth 100000 in
set_option maxHeartbeats 4000000 in
theorem k_J5_isLatin1_aae02 {g : zG} {t : Nat × Nat} {f : Nat → Option va_E} {B Va n : Nat} {ml : Int32} (hB : f B = some (.inr (1, [.ref Va, .int (nI (0)), .int ml, .int (nI (n))]))) : Ct g 10 yJ5_isLatin1_aae02 cJ5_isLatin1_aae02 1 (some FieldType.boolean) 0 (0) [.ref (B)] (t, f) (fun v σ' => v = some (.int (nI 1)) ∧ σ' = (t, f)) zNo := by
  refine Ct.ofN (lv := [(0, .ref (B))]) (by decide) (Nat.le_of_ble_eq_true rfl) rfl ?_
  intro κ X E B9 hnm
  have X : zX g κ RJ5 cJ5_isLatin1_aae02 1 := X
  refine V.fr (fun hfr => ?_)
  have lt_B : B < t.1 := hfr _ _ hB
  refine V_gets X E (v := .int (nI (1))) (zComp X) gs_J5_18 dJ5_isLatin1_aae02_0 ?_
  show V g κ 1 0 (0) (t, f) 3 [(0, .ref (B))] [.int (nI (1))]
  refine V_ifeqN X (by omega) (tgt := 17) dJ5_isLatin1_aae02_3 (by decide) (fun h1 => ((absurd h1 (by decide) : False)).elim) (fun h1 => ?_)
  refine V_aload_n X dJ5_isLatin1_aae02_6 0 rfl ?_
  refine V_getf2 X fl_J5_22 hB rfl dJ5_isLatin1_aae02_7 ?_
  show V g κ 1 0 (0) (t, f) 10 [(0, .ref (B))] [.int (nI (0))]
  refine V_ifneN X (by omega) (tgt := 17) dJ5_isLatin1_aae02_10 (by decide) (fun h2 => ((absurd rfl h2 : False)).elim) (fun h2 => ?_)
  refine V_iconst (v := nI (1)) X dJ5_isLatin1_aae02_13 (by decide) ?_
  refine V_goto (tgt := 18) X dJ5_isLatin1_aae02_14 (by decide) ?_
  exact V_zret X E (by first | rfl | decide) (by omega) (by omega) ⟨rfl, rfl⟩ dJ5_isLatin1_aae02_18
set_option maxRecDepth 100000 in
set_option maxHeartbeats 4000000 in
theorem k_J5_ensureCapacityInternal_d00df {g : zG} {t : Nat × Nat} {f : Nat → Option va_E} {B Va n : Nat} {ml : Int32} (hB : f B = some (.inr (1, [.ref Va, .int (nI (0)), .int ml, .int (nI (n))]))) {fv : Nat → Int32} (hV : f Va = some (.inl (g.2.2.2 2, 16, .inl (fv)))) {q : Nat} (hq : q ≤ 16) : Ct g 10 yJ5_ensureCapacityInternal_d00df cJ5_ensureCapacityInternal_d00df 3 (none) 0 (0) [.ref (B), .int (nI (q))] (t, f) (fun v σ' => v = none ∧ σ' = (t, f)) zNo := by
  refine Ct.ofN (lv := [(0, .ref (B)), (1, .int (nI (q)))]) (by decide) (Nat.le_of_ble_eq_true rfl) rfl ?_
  intro κ X E B9 hnm
  have X : zX g κ RJ5 cJ5_ensureCapacityInternal_d00df 3 := X
  refine V.fr (fun hfr => ?_)
  have lt_B : B < t.1 := hfr _ _ hB
  have lt_Va : Va < t.1 := hfr _ _ hV
  refine V_aload_n X dJ5_ensureCapacityInternal_d00df_0 0 rfl ?_
  refine V_getf2 X fl_J5_15 hB rfl dJ5_ensureCapacityInternal_d00df_1 ?_
  show V g κ 3 0 (0) (t, f) 4 [(0, .ref (B)), (1, .int (nI (q)))] [.ref (Va)]
  refine V_alen (v := nI (16)) X 2 hV (by decide) rfl dJ5_ensureCapacityInternal_d00df_4 ?_
  refine V_aload_n X dJ5_ensureCapacityInternal_d00df_5 0 rfl ?_
  refine V_getf2 X fl_J5_22 hB rfl dJ5_ensureCapacityInternal_d00df_6 ?_
  show V g κ 3 0 (0) (t, f) 9 [(0, .ref (B)), (1, .int (nI (q)))] [.int (nI (0)), .int (nI (16))]
  refine V_ishr X dJ5_ensureCapacityInternal_d00df_9 ?_
  refine V.st (st := [.int (nI (16))]) (by decide) ?_
  refine V_istore_n X [(2, .int (nI (16))), (0, .ref (B)), (1, .int (nI (q)))] dJ5_ensureCapacityInternal_d00df_10 (by decide) rfl ?_
  refine V_iload_n X dJ5_ensureCapacityInternal_d00df_11 2 rfl ?_
  refine V_iload_n X dJ5_ensureCapacityInternal_d00df_12 0 rfl ?_
  refine V_isub X dJ5_ensureCapacityInternal_d00df_13 ?_
  refine V_ifle X (tgt := 38) dJ5_ensureCapacityInternal_d00df_14 (by decide) (fun h1 => ?_) (fun h1 => ((h1 (zsubn hq (by decide)) : False)).elim)
  exact V_vret X E (by omega) (by omega) ⟨rfl, rfl⟩ dJ5_ensureCapacityInternal_d00df_38
set_option maxRecDepth 100000 in
set_option maxHeartbeats 4000000 in
theorem k_J5_append_3fe6f {g : zG} {t : Nat × Nat} {f : Nat → Option va_E} {B Va n : Nat} {ml : Int32} (hB : f B = some (.inr (1, [.ref Va, .int (nI (0)), .int ml, .int (nI (n))]))) {fv : Nat → Int32} (hV : f Va = some (.inl (g.2.2.2 2, 16, .inl (fv)))) (gB : g.2.1.size ≤ B) (gV : g.2.1.size ≤ Va) (hBV : B ≠ Va) (c : Nat) (hc : c ≤ 255) (hn : n < 16) : Ct g 11 yJ5_append_3fe6f cJ5_append_3fe6f 2 (some (FieldType.object "java/lang/AbstractStringBuilder")) 0 (0) [.ref (B), .int (nI (c))] (t, f) (fun v σ' => v = some (.ref B) ∧ σ' = (t, zup (zup f B (.inr (1, [.ref Va, .int (nI (0)), .int ml, .int (nI (n + 1))]))) Va (.inl (g.2.2.2 2, 16, .inl (upd (fv) (nI (n)).toNatClampNeg (vp_nar .byte ((nI (c)).toInt8.toInt32))))))) zNo := by
  refine Ct.ofN (lv := [(0, .ref (B)), (1, .int (nI (c)))]) (by decide) (Nat.le_of_ble_eq_true rfl) rfl ?_
  intro κ X E B9 hnm
  have X : zX g κ RJ5 cJ5_append_3fe6f 2 := X
  refine V.fr (fun hfr => ?_)
  have lt_B : B < t.1 := hfr _ _ hB
  have lt_Va : Va < t.1 := hfr _ _ hV
  refine V_aload_n X dJ5_append_3fe6f_0 0 rfl ?_
  refine V_aload_n X dJ5_append_3fe6f_1 0 rfl ?_
  refine V_getf2 X fl_J5_79 hB rfl dJ5_append_3fe6f_2 ?_
  show V g κ 2 0 (0) (t, f) 5 [(0, .ref (B)), (1, .int (nI (c)))] [.int (nI (n)), .ref (B)]
  refine V_iconst (v := nI (1)) X dJ5_append_3fe6f_5 (by decide) ?_
  refine V_iaddN X dJ5_append_3fe6f_6 ?_
  refine V_callP (rest := []) X E.room ml_J5_100 in_J5_ensureCapacityInternal_d00df (ci := 1) rfl (zsel9 X) (fs := [.ref (Va), .int (nI (0)), .int (ml), .int (nI (n))]) hB (by decide) (by decide) (k_J5_ensureCapacityInternal_d00df hB hV (q := n + 1) (by omega)) rfl rfl (Nat.le_of_ble_eq_true rfl) ⟨by omega, by omega⟩ dJ5_append_3fe6f_7 (fun _ _ h => False.elim h) (fun v1 σ' hp2 => ?_)
  obtain ⟨hp2, rfl⟩ := hp2
  cases (hp2 : _ = none)
  show V g κ 2 0 (0) (t, f) 10 [(0, .ref (B)), (1, .int (nI (c)))] []
  refine V_aload_n X dJ5_append_3fe6f_10 0 rfl ?_
  refine V_callV (rest := []) X E.room ml_J5_83 in_J5_isLatin1_aae02 (ci := 1) rfl se_J5_isLatin1_aae02 (fs := [.ref (Va), .int (nI (0)), .int (ml), .int (nI (n))]) hB (by decide) (by decide) (k_J5_isLatin1_aae02 hB) rfl rfl (Nat.le_of_ble_eq_true rfl) ⟨by omega, by omega⟩ dJ5_append_3fe6f_11 (fun _ _ h => False.elim h) (fun v3 σ' hp4 => ?_)
  obtain ⟨hp4, rfl⟩ := hp4
  cases (hp4 : _ = some (Value.int (nI (1))))
  show V g κ 2 0 (0) (t, f) 14 [(0, .ref (B)), (1, .int (nI (c)))] [.int (nI (1))]
  refine V_ifeqN X (by omega) (tgt := 45) dJ5_append_3fe6f_14 (by decide) (fun h5 => ((absurd h5 (by decide) : False)).elim) (fun h5 => ?_)
  refine V_iload_n X dJ5_append_3fe6f_17 1 rfl ?_
  refine V_callS (rest := []) X E.room ml_J5_191 st_J1_canEncode_fc78d (by decide) (by decide) (k_J1_canEncode_fc78d c hc) rfl rfl (Nat.le_of_ble_eq_true rfl) ⟨by omega, by omega⟩ dJ5_append_3fe6f_18 (fun _ _ h => False.elim h) (fun v6 σ' hp7 => ?_)
  obtain ⟨hp7, rfl⟩ := hp7
  cases (hp7 : _ = some (Value.int (nI (1))))
  show V g κ 2 0 (0) (t, f) 21 [(0, .ref (B)), (1, .int (nI (c)))] [.int (nI (1))]
  refine V_ifeqN X (by omega) (tgt := 45) dJ5_append_3fe6f_21 (by decide) (fun h8 => ((absurd h8 (by decide) : False)).elim) (fun h8 => ?_)
  refine V_aload_n X dJ5_append_3fe6f_24 0 rfl ?_
  refine V_getf2 X fl_J5_15 hB rfl dJ5_append_3fe6f_25 ?_
  show V g κ 2 0 (0) (t, f) 28 [(0, .ref (B)), (1, .int (nI (c)))] [.ref (Va)]
  refine V_aload_n X dJ5_append_3fe6f_28 0 rfl ?_
  refine V_dup X dJ5_append_3fe6f_29 rfl ?_
  refine V_getf2 X fl_J5_79 hB rfl dJ5_append_3fe6f_30 ?_
  show V g κ 2 0 (0) (t, f) 33 [(0, .ref (B)), (1, .int (nI (c)))] [.int (nI (n)), .ref (B), .ref (Va)]
  refine V_dup_x1 X dJ5_append_3fe6f_33 rfl rfl ?_
  refine V_iconst (v := nI (1)) X dJ5_append_3fe6f_34 (by decide) ?_
  refine V_iaddN X dJ5_append_3fe6f_35 ?_
  refine V_putf2 X fl_J5_79 zt_J4 hB gB (Nat.le_of_ble_eq_true rfl) rfl rfl rfl rfl dJ5_append_3fe6f_36 ?_
  show V g κ 2 0 (0) (t, zup (f) (B) (.inr (1, [.ref (Va), .int (nI (0)), .int (ml), .int (nI (n + 1))]))) 39 [(0, .ref (B)), (1, .int (nI (c)))] [.int (nI (n)), .ref (Va)]
  refine V_iload_n X dJ5_append_3fe6f_39 1 rfl ?_
  refine V_i2b X dJ5_append_3fe6f_40 ?_
  refine V_bast X ((zup_ne (by omega)).trans (hV)) gV (vp_in_nI (by omega) (by decide)) dJ5_append_3fe6f_41 ?_
  show V g κ 2 0 (0) (t, zup (zup (f) (B) (.inr (1, [.ref (Va), .int (nI (0)), .int (ml), .int (nI (n + 1))]))) (Va) (.inl (g.2.2.2 2, 16, .inl (upd (fv) (nI (n)).toNatClampNeg (vp_nar .byte ((nI (c)).toInt8.toInt32)))))) 42 [(0, .ref (B)), (1, .int (nI (c)))] []
  refine V_goto (tgt := 75) X dJ5_append_3fe6f_42 (by decide) ?_
  refine V_aload_n X dJ5_append_3fe6f_75 0 rfl ?_
  exact V_aret X E (Or.inl ⟨_, rfl⟩) (Or.inr ⟨_, rfl⟩) (by omega) (by omega) ⟨rfl, rfl⟩ dJ5_append_3fe6f_76
set_option maxRecDepth 100000 in
set_option maxHeartbeats 4000000 in
theorem k_J4_append_cf468 {g : zG} {t : Nat × Nat} {f : Nat → Option va_E} {B Va n : Nat} {ml : Int32} (hB : f B = some (.inr (1, [.ref Va, .int (nI (0)), .int ml, .int (nI (n))]))) {fv : Nat → Int32} (hV : f Va = some (.inl (g.2.2.2 2, 16, .inl (fv)))) (gB : g.2.1.size ≤ B) (gV : g.2.1.size ≤ Va) (hBV : B ≠ Va) (c : Nat) (hc : c ≤ 255) (hn : n < 16) : Ct g 12 yJ4_append_cf468 cJ4_append_cf468 2 (some (FieldType.object "java/lang/StringBuilder")) 0 (0) [.ref (B), .int (nI (c))] (t, f) (fun v σ' => v = some (.ref B) ∧ σ' = (t, zup (zup f B (.inr (1, [.ref Va, .int (nI (0)), .int ml, .int (nI (n + 1))]))) Va (.inl (g.2.2.2 2, 16, .inl (upd (fv) (nI (n)).toNatClampNeg (vp_nar .byte ((nI (c)).toInt8.toInt32))))))) zNo := by
  refine Ct.ofN (lv := [(0, .ref (B)), (1, .int (nI (c)))]) (by decide) (Nat.le_of_ble_eq_true rfl) rfl ?_
  intro κ X E B9 hnm
  have X : zX g κ RJ4 cJ4_append_cf468 2 := X
  refine V.fr (fun hfr => ?_)
  have lt_B : B < t.1 := hfr _ _ hB
  have lt_Va : Va < t.1 := hfr _ _ hV
  refine V_aload_n X dJ4_append_cf468_0 0 rfl ?_
  refine V_iload_n X dJ4_append_cf468_1 1 rfl ?_
  refine V_callSU (rest := []) X E.room ms_J4_50 (ci := 1) rfl (fs := [.ref (Va), .int (nI (0)), .int (ml), .int (nI (n))]) hB (by decide) (by decide) (k_J5_append_3fe6f hB hV gB gV hBV c hc hn) rfl rfl (Nat.le_of_ble_eq_true rfl) ⟨by omega, by omega⟩ dJ4_append_cf468_2 (fun _ _ h => False.elim h) (fun v1 σ' hp2 => ?_)
  obtain ⟨hp2, rfl⟩ := hp2
  cases (hp2 : _ = some (Value.ref (B)))
  show V g κ 2 0 (0) (t, zup (zup (f) (B) (.inr (1, [.ref (Va), .int (nI (0)), .int (ml), .int (nI (n + 1))]))) (Va) (.inl (g.2.2.2 2, 16, .inl (upd (fv) (nI (n)).toNatClampNeg (vp_nar .byte ((nI (c)).toInt8.toInt32)))))) 5 [(0, .ref (B)), (1, .int (nI (c)))] [.ref (B)]
  refine V_pop X dJ4_append_cf468_5 rfl ?_
  refine V_aload_n X dJ4_append_cf468_6 0 rfl ?_
  exact V_aret X E (Or.inl ⟨_, rfl⟩) (Or.inr ⟨_, rfl⟩) (by omega) (by omega) ⟨rfl, rfl⟩ dJ4_append_cf468_7
set_option maxRecDepth 100000 in
set_option maxHeartbeats 4000000 in
theorem k_J5_init_d00df {g : zG} {t : Nat × Nat} {f : Nat → Option va_E} {B : Nat} (hB : f B = some (.inr (1, [.null, .int (nI (0)), .int (nI (0)), .int (nI (0))]))) (gB : g.2.1.size ≤ B) : Ct g 10 yJ5_init_d00df cJ5_init_d00df 2 (none) 1 (16) [.ref (B), .int (nI (16))] (t, f) (fun v σ' => v = none ∧ σ' = ((t.1 + 1, t.2 + 16), zup (zup f t.1 (.inl (g.2.2.2 2, 16, .inl (fun _ => 0)))) B (.inr (1, [.ref t.1, .int (nI (0)), .int (nI (0)), .int (nI (0))])))) zNo := by
  refine Ct.ofN (lv := [(0, .ref (B)), (1, .int (nI (16)))]) (by decide) (Nat.le_of_ble_eq_true rfl) rfl ?_
  intro κ X E B9 hnm
  have X : zX g κ RJ5 cJ5_init_d00df 2 := X
  refine V.fr (fun hfr => ?_)
  have lt_B : B < t.1 := hfr _ _ hB
  refine V_aload_n X dJ5_init_d00df_0 0 rfl ?_
  refine V_objInit X E.room (by decide) oi_J5_3 oi_in oi_code (Nat.le_of_ble_eq_true rfl) dJ5_init_d00df_1 ?_
  refine V_gets X E (v := .int (nI (1))) (zComp X) gs_J5_18 dJ5_init_d00df_4 ?_
  show V g κ 2 0 (0) (t, f) 7 [(0, .ref (B)), (1, .int (nI (16)))] [.int (nI (1))]
  refine V_ifeqN X (by omega) (tgt := 25) dJ5_init_d00df_7 (by decide) (fun h1 => ((absurd h1 (by decide) : False)).elim) (fun h1 => ?_)
  refine V_aload_n X dJ5_init_d00df_10 0 rfl ?_
  refine V_iload_n X dJ5_init_d00df_11 1 rfl ?_
  refine V_newaB X E.room ay_byte (by omega) (by omega) (by omega) dJ5_init_d00df_12 ?_
  show V g κ 2 1 (0 + 16) ((t.1 + 1, t.2 + 16), zup (f) (t.1) (.inl (g.2.2.2 2, 16, .inl (fun _ => 0)))) 14 [(0, .ref (B)), (1, .int (nI (16)))] [.ref (t.1), .ref (B)]
  refine V_putf2 X fl_J5_15 zt_J4 ((zup_ne (by omega)).trans (hB)) gB (Nat.le_of_ble_eq_true rfl) rfl rfl rfl rfl dJ5_init_d00df_14 ?_
  show V g κ 2 1 (0 + 16) ((t.1 + 1, t.2 + 16), zup (zup (f) (t.1) (.inl (g.2.2.2 2, 16, .inl (fun _ => 0)))) (B) (.inr (1, [.ref (t.1), .int (nI (0)), .int (nI (0)), .int (nI (0))]))) 17 [(0, .ref (B)), (1, .int (nI (16)))] []
  refine V_aload_n X dJ5_init_d00df_17 0 rfl ?_
  refine V_iconst (v := nI (0)) X dJ5_init_d00df_18 (by decide) ?_
  refine V_putf2 X fl_J5_22 zt_J4 zup_eq gB (Nat.le_of_ble_eq_true rfl) rfl rfl rfl rfl dJ5_init_d00df_19 ?_
  refine V.so (σ' := ((t.1 + 1, t.2 + 16), zup (zup (f) (t.1) (.inl (g.2.2.2 2, 16, .inl (fun _ => 0)))) (B) (.inr (1, [.ref (t.1), .int (nI (0)), .int (nI (0)), .int (nI (0))])))) (congrArg (Prod.mk ((t.1 + 1, t.2 + 16))) (zup_zup)) ?_
  show V g κ 2 1 (0 + 16) ((t.1 + 1, t.2 + 16), zup (zup (f) (t.1) (.inl (g.2.2.2 2, 16, .inl (fun _ => 0)))) (B) (.inr (1, [.ref (t.1), .int (nI (0)), .int (nI (0)), .int (nI (0))]))) 22 [(0, .ref (B)), (1, .int (nI (16)))] []
  refine V_goto (tgt := 38) X dJ5_init_d00df_22 (by decide) ?_
  exact V_vret X E (by omega) (by omega) ⟨rfl, rfl⟩ dJ5_init_d00df_38
set_option maxRecDepth 100000 in
set_option maxHeartbeats 4000000 in
theorem k_J4_init_da8c8 {g : zG} {t : Nat × Nat} {f : Nat → Option va_E} {B : Nat} (hB : f B = some (.inr (1, [.null, .int (nI (0)), .int (nI (0)), .int (nI (0))]))) (gB : g.2.1.size ≤ B) : Ct g 11 yJ4_init_da8c8 cJ4_init_da8c8 1 (none) 1 (16) [.ref (B)] (t, f) (fun v σ' => v = none ∧ σ' = ((t.1 + 1, t.2 + 16), zup (zup f t.1 (.inl (g.2.2.2 2, 16, .inl (fun _ => 0)))) B (.inr (1, [.ref t.1, .int (nI (0)), .int (nI (0)), .int (nI (0))])))) zNo := by
  refine Ct.ofN (lv := [(0, .ref (B))]) (by decide) (Nat.le_of_ble_eq_true rfl) rfl ?_
  intro κ X E B9 hnm
  have X : zX g κ RJ4 cJ4_init_da8c8 1 := X
  refine V.fr (fun hfr => ?_)
  have lt_B : B < t.1 := hfr _ _ hB
  refine V_aload_n X dJ4_init_da8c8_0 0 rfl ?_
  refine V_bipush (v := nI (16)) X dJ4_init_da8c8_1 (by decide) ?_
  refine V_callI (rest := []) X E.room ml_J4_1 in_J5_init_d00df rfl (by decide) (by decide) (k_J5_init_d00df hB gB) rfl rfl (Nat.le_of_ble_eq_true rfl) ⟨by omega, by omega⟩ dJ4_init_da8c8_3 (fun _ _ h => False.elim h) (fun v1 σ' hp2 => ?_)
  obtain ⟨hp2, rfl⟩ := hp2
  cases (hp2 : _ = none)
  show V g κ 1 1 (0 + 16) ((t.1 + 1, t.2 + 16), zup (zup (f) (t.1) (.inl (g.2.2.2 2, 16, .inl (fun _ => 0)))) (B) (.inr (1, [.ref (t.1), .int (nI (0)), .int (nI (0)), .int (nI (0))]))) 6 [(0, .ref (B))] []
  exact V_vret X E (by omega) (by omega) ⟨rfl, rfl⟩ dJ4_init_da8c8_6
set_option maxRecDepth 100000 in
set_option maxHeartbeats 4000000 in
theorem k_J5_getValue_6d5f1 {g : zG} {t : Nat × Nat} {f : Nat → Option va_E} {B Va n : Nat} {ml : Int32} (hB : f B = some (.inr (1, [.ref Va, .int (nI (0)), .int ml, .int (nI (n))]))) : Ct g 10 yJ5_getValue_6d5f1 cJ5_getValue_6d5f1 1 (some (FieldType.array FieldType.byte)) 0 (0) [.ref (B)] (t, f) (fun v σ' => v = some (.ref Va) ∧ σ' = (t, f)) zNo := by
  refine Ct.ofN (lv := [(0, .ref (B))]) (by decide) (Nat.le_of_ble_eq_true rfl) rfl ?_
  intro κ X E B9 hnm
  have X : zX g κ RJ5 cJ5_getValue_6d5f1 1 := X
  refine V.fr (fun hfr => ?_)
  have lt_B : B < t.1 := hfr _ _ hB
  refine V_aload_n X dJ5_getValue_6d5f1_0 0 rfl ?_
  refine V_getf2 X fl_J5_15 hB rfl dJ5_getValue_6d5f1_1 ?_
  show V g κ 1 0 (0) (t, f) 4 [(0, .ref (B))] [.ref (Va)]
  exact V_aret X E (Or.inr ⟨_, rfl⟩) (Or.inr ⟨_, rfl⟩) (by omega) (by omega) ⟨rfl, rfl⟩ dJ5_getValue_6d5f1_4
set_option maxRecDepth 100000 in
set_option maxHeartbeats 4000000 in
theorem k_J5_length_8abf5 {g : zG} {t : Nat × Nat} {f : Nat → Option va_E} {B Va n : Nat} {ml : Int32} (hB : f B = some (.inr (1, [.ref Va, .int (nI (0)), .int ml, .int (nI (n))]))) : Ct g 10 yJ5_length_8abf5 cJ5_length_8abf5 1 (some FieldType.int) 0 (0) [.ref (B)] (t, f) (fun v σ' => v = some (.int (nI n)) ∧ σ' = (t, f)) zNo := by
  refine Ct.ofN (lv := [(0, .ref (B))]) (by decide) (Nat.le_of_ble_eq_true rfl) rfl ?_
  intro κ X E B9 hnm
  have X : zX g κ RJ5 cJ5_length_8abf5 1 := X
  refine V.fr (fun hfr => ?_)
  have lt_B : B < t.1 := hfr _ _ hB
  refine V_aload_n X dJ5_length_8abf5_0 0 rfl ?_
  refine V_getf2 X fl_J5_79 hB rfl dJ5_length_8abf5_1 ?_
  show V g κ 1 0 (0) (t, f) 4 [(0, .ref (B))] [.int (nI (n))]
  exact V_iret X E (by omega) (by omega) ⟨rfl, rfl⟩ dJ5_length_8abf5_4
set_option maxRecDepth 100000 in
set_option maxHeartbeats 4000000 in
theorem k_J4_length_8abf5 {g : zG} {t : Nat × Nat} {f : Nat → Option va_E} {B Va n : Nat} {ml : Int32} (hB : f B = some (.inr (1, [.ref Va, .int (nI (0)), .int ml, .int (nI (n))]))) : Ct g 11 yJ4_length_8abf5 cJ4_length_8abf5 1 (some FieldType.int) 0 (0) [.ref (B)] (t, f) (fun v σ' => v = some (.int (nI n)) ∧ σ' = (t, f)) zNo := by
  refine Ct.ofN (lv := [(0, .ref (B))]) (by decide) (Nat.le_of_ble_eq_true rfl) rfl ?_
  intro κ X E B9 hnm
  have X : zX g κ RJ4 cJ4_length_8abf5 1 := X
  refine V.fr (fun hfr => ?_)
  have lt_B : B < t.1 := hfr _ _ hB
  refine V_aload_n X dJ4_length_8abf5_0 0 rfl ?_
  refine V_callSU (rest := []) X E.room ms_J4_343 (ci := 1) rfl (fs := [.ref (Va), .int (nI (0)), .int (ml), .int (nI (n))]) hB (by decide) (by decide) (k_J5_length_8abf5 hB) rfl rfl (Nat.le_of_ble_eq_true rfl) ⟨by omega, by omega⟩ dJ4_length_8abf5_1 (fun _ _ h => False.elim h) (fun v1 σ' hp2 => ?_)
  obtain ⟨hp2, rfl⟩ := hp2
  cases (hp2 : _ = some (Value.int (nI (n))))
  show V g κ 1 0 (0) (t, f) 4 [(0, .ref (B))] [.int (nI (n))]
  exact V_iret X E (by omega) (by omega) ⟨rfl, rfl⟩ dJ4_length_8abf5_4
set_option maxRecDepth 100000 in
set_option maxHeartbeats 4000000 in
theorem k_J7_checkLength_df160 {g : zG} {t : Nat × Nat} {f : Nat → Option va_E} (n : Nat) (hn : n < 2 ^ 31) : Ct g 12 yJ7_checkLength_df160 cJ7_checkLength_df160 2 (none) 0 (0) [.int (nI (0)), .int (nI (n))] (t, f) (fun v σ' => v = none ∧ σ' = (t, f)) zNo := by
  refine Ct.ofN (lv := [(0, .int (nI (0))), (1, .int (nI (n)))]) (by decide) (Nat.le_of_ble_eq_true rfl) rfl ?_
  intro κ X E B9 hnm
  have X : zX g κ RJ7 cJ7_checkLength_df160 2 := X
  refine V.fr (fun hfr => ?_)
  refine V_iload_n X dJ7_checkLength_df160_0 1 rfl ?_
  refine V_iload_n X dJ7_checkLength_df160_1 0 rfl ?_
  refine V_icmpgeN X (by omega) (by omega) (tgt := 37) dJ7_checkLength_df160_2 (by decide) (fun h1 => ?_) (fun h1 => ((by omega : False)).elim)
  exact V_vret X E (by omega) (by omega) ⟨rfl, rfl⟩ dJ7_checkLength_df160_37
set_option maxRecDepth 100000 in
set_option maxHeartbeats 4000000 in
theorem k_J7_copyOfRangeByte_39247 {g : zG} {t : Nat × Nat} {f : Nat → Option va_E} {Va n : Nat} {fv : Nat → Int32} (hV : f Va = some (.inl (g.2.2.2 2, 16, .inl (fv)))) (hn : n < 16) (hfit : sb_Fit fv) (hg : g.2.1.size ≤ t.1) : Ct g 13 yJ7_copyOfRangeByte_39247 cJ7_copyOfRangeByte_39247 5 (some (FieldType.array FieldType.byte)) 1 (n) [.ref (Va), .int (nI (0)), .int (nI (n))] (t, f) (fun v σ' => v = some (.ref t.1) ∧ σ' = ((t.1 + 1, t.2 + n), zup f t.1 (.inl (g.2.2.2 2, n, .inl (va_cpy (fv) (fun _ => 0) 0 0 (n)))))) zNo := by
  refine Ct.ofN (lv := [(0, .ref (Va)), (1, .int (nI (0))), (2, .int (nI (n)))]) (by decide) (Nat.le_of_ble_eq_true rfl) rfl ?_
  intro κ X E B9 hnm
  have X : zX g κ RJ7 cJ7_copyOfRangeByte_39247 5 := X
  refine V.fr (fun hfr => ?_)
  have lt_Va : Va < t.1 := hfr _ _ hV
  refine V_iload_n X dJ7_copyOfRangeByte_39247_0 1 rfl ?_
  refine V_iload_n X dJ7_copyOfRangeByte_39247_1 2 rfl ?_
  refine V_callS (rest := []) X E.room ml_J7_343 st_J7_checkLength_df160 (by decide) (by decide) (k_J7_checkLength_df160 n (by omega)) rfl rfl (Nat.le_of_ble_eq_true rfl) ⟨by omega, by omega⟩ dJ7_copyOfRangeByte_39247_2 (fun _ _ h => False.elim h) (fun v1 σ' hp2 => ?_)
  obtain ⟨hp2, rfl⟩ := hp2
  cases (hp2 : _ = none)
  show V g κ 5 0 (0) (t, f) 5 [(0, .ref (Va)), (1, .int (nI (0))), (2, .int (nI (n)))] []
  refine V_iload_n X dJ7_copyOfRangeByte_39247_5 2 rfl ?_
  refine V_iload_n X dJ7_copyOfRangeByte_39247_6 1 rfl ?_
  refine V_isubN X (by omega) dJ7_copyOfRangeByte_39247_7 ?_
  refine V.st (st := [.int (nI (n))]) (by rw [Nat.sub_zero]) ?_
  refine V_istore_n X [(3, .int (nI (n))), (0, .ref (Va)), (1, .int (nI (0))), (2, .int (nI (n)))] dJ7_copyOfRangeByte_39247_8 (by decide) rfl ?_
  refine V_iload_n X dJ7_copyOfRangeByte_39247_9 0 rfl ?_
  refine V_newaB X E.room ay_byte (by omega) (by omega) (by omega) dJ7_copyOfRangeByte_39247_10 ?_
  show V g κ 5 1 (0 + n) ((t.1 + 1, t.2 + n), zup (f) (t.1) (.inl (g.2.2.2 2, n, .inl (fun _ => 0)))) 12 [(3, .int (nI (n))), (0, .ref (Va)), (1, .int (nI (0))), (2, .int (nI (n)))] [.ref (t.1)]
  refine V_astore X [(4, .ref (t.1)), (3, .int (nI (n))), (0, .ref (Va)), (1, .int (nI (0))), (2, .int (nI (n)))] dJ7_copyOfRangeByte_39247_12 (by decide) rfl ?_
  refine V_aload_n X dJ7_copyOfRangeByte_39247_14 2 rfl ?_
  refine V_iload_n X dJ7_copyOfRangeByte_39247_15 3 rfl ?_
  refine V_aload X dJ7_copyOfRangeByte_39247_16 0 rfl ?_
  refine V_iconst (v := nI (0)) X dJ7_copyOfRangeByte_39247_18 (by decide) ?_
  refine V_aload_n X dJ7_copyOfRangeByte_39247_19 2 rfl ?_
  refine V_alen (v := nI (16)) X 2 ((zup_ne (by omega)).trans (hV)) (by decide) rfl dJ7_copyOfRangeByte_39247_20 ?_
  refine V_iload_n X dJ7_copyOfRangeByte_39247_21 3 rfl ?_
  refine V_isubN X (by omega) dJ7_copyOfRangeByte_39247_22 ?_
  refine V.st (st := [.int (nI (16)), .int (nI (0)), .ref (t.1), .int (nI (0)), .ref (Va)]) rfl ?_
  refine V_iload_n X dJ7_copyOfRangeByte_39247_23 1 rfl ?_
  refine V_mmin X E.room (by omega) (by omega) (by decide) ml_J7_304 st_J9_min_7cf53 rfl rfl (Nat.le_of_ble_eq_true rfl) dJ7_copyOfRangeByte_39247_24 ?_
  refine V.st (st := [.int (nI (n)), .int (nI (0)), .ref (t.1), .int (nI (0)), .ref (Va)]) (by by_cases h9 : n < 16; (rw [if_pos ((nI_ltI (by omega) (by omega)).mpr (by omega))]); (exact absurd hn h9)) ?_
  refine V_copyB X E.room (by decide) (m := n) ac_J7_150 ac_native ac_static nz_J10 ((zup_ne (by omega)).trans (hV)) zup_eq (by omega) (by omega) hfit (by omega) (Nat.le_refl _) (Nat.le_of_ble_eq_true rfl) dJ7_copyOfRangeByte_39247_27 ?_
  refine V.so (σ' := ((t.1 + 1, t.2 + n), zup (f) (t.1) (.inl (g.2.2.2 2, n, .inl (va_cpy (fv) (fun _ => 0) 0 0 (n)))))) (congrArg (Prod.mk ((t.1 + 1, t.2 + n))) (zup_zup)) ?_
  show V g κ 5 1 (0 + n) ((t.1 + 1, t.2 + n), zup (f) (t.1) (.inl (g.2.2.2 2, n, .inl (va_cpy (fv) (fun _ => 0) 0 0 (n))))) 30 [(4, .ref (t.1)), (3, .int (nI (n))), (0, .ref (Va)), (1, .int (nI (0))), (2, .int (nI (n)))] []
  refine V_aload X dJ7_copyOfRangeByte_39247_30 0 rfl ?_
  exact V_aret X E (Or.inr ⟨_, rfl⟩) (Or.inr ⟨_, rfl⟩) (by omega) (by omega) ⟨rfl, rfl⟩ dJ7_copyOfRangeByte_39247_32
set_option maxRecDepth 100000 in
set_option maxHeartbeats 4000000 in
theorem k_J7_copyOfRange_39247 {g : zG} {t : Nat × Nat} {f : Nat → Option va_E} {Va n : Nat} {fv : Nat → Int32} (hV : f Va = some (.inl (g.2.2.2 2, 16, .inl (fv)))) (hn : n < 16) (hfit : sb_Fit fv) (hg : g.2.1.size ≤ t.1) : Ct g 14 yJ7_copyOfRange_39247 cJ7_copyOfRange_39247 3 (some (FieldType.array FieldType.byte)) 1 (n) [.ref (Va), .int (nI (0)), .int (nI (n))] (t, f) (fun v σ' => v = some (.ref t.1) ∧ σ' = ((t.1 + 1, t.2 + n), zup f t.1 (.inl (g.2.2.2 2, n, .inl (va_cpy (fv) (fun _ => 0) 0 0 (n)))))) zNo := by
  refine Ct.ofN (lv := [(0, .ref (Va)), (1, .int (nI (0))), (2, .int (nI (n)))]) (by decide) (Nat.le_of_ble_eq_true rfl) rfl ?_
  intro κ X E B9 hnm
  have X : zX g κ RJ7 cJ7_copyOfRange_39247 3 := X
  refine V.fr (fun hfr => ?_)
  have lt_Va : Va < t.1 := hfr _ _ hV
  refine V_iload_n X dJ7_copyOfRange_39247_0 1 rfl ?_
  refine V_ifneN X (by omega) (tgt := 10) dJ7_copyOfRange_39247_1 (by decide) (fun h1 => ((absurd rfl h1 : False)).elim) (fun h1 => ?_)
  refine V_iload_n X dJ7_copyOfRange_39247_4 2 rfl ?_
  refine V_aload_n X dJ7_copyOfRange_39247_5 0 rfl ?_
  refine V_alen (v := nI (16)) X 2 hV (by decide) rfl dJ7_copyOfRange_39247_6 ?_
  refine V_icmpeqN X (by omega) (by omega) (tgt := 17) dJ7_copyOfRange_39247_7 (by decide) (fun h2 => ((by omega : False)).elim) (fun h2 => ?_)
  refine V_aload_n X dJ7_copyOfRange_39247_10 0 rfl ?_
  refine V_iload_n X dJ7_copyOfRange_39247_11 1 rfl ?_
  refine V_iload_n X dJ7_copyOfRange_39247_12 2 rfl ?_
  refine V_callS (rest := []) X E.room ml_J7_339 st_J7_copyOfRangeByte_39247 (by decide) (by decide) (k_J7_copyOfRangeByte_39247 hV hn hfit hg) rfl rfl (Nat.le_of_ble_eq_true rfl) ⟨by omega, by omega⟩ dJ7_copyOfRange_39247_13 (fun _ _ h => False.elim h) (fun v3 σ' hp4 => ?_)
  obtain ⟨hp4, rfl⟩ := hp4
  cases (hp4 : _ = some (Value.ref (t.1)))
  show V g κ 3 1 (0 + n) ((t.1 + 1, t.2 + n), zup (f) (t.1) (.inl (g.2.2.2 2, n, .inl (va_cpy (fv) (fun _ => 0) 0 0 (n))))) 16 [(0, .ref (Va)), (1, .int (nI (0))), (2, .int (nI (n)))] [.ref (t.1)]
  exact V_aret X E (Or.inr ⟨_, rfl⟩) (Or.inr ⟨_, rfl⟩) (by omega) (by omega) ⟨rfl, rfl⟩ dJ7_copyOfRange_39247_16
set_option maxRecDepth 100000 in
set_option maxHeartbeats 4000000 in
theorem k_J0_init_db425 {g : zG} {t : Nat × Nat} {f : Nat → Option va_E} {B Va n : Nat} {ml : Int32} (hB : f B = some (.inr (1, [.ref Va, .int (nI (0)), .int ml, .int (nI (n))]))) {fv : Nat → Int32} (hV : f Va = some (.inl (g.2.2.2 2, 16, .inl (fv)))) {Sx : Nat} (hS : f Sx = some (.inr (0, [.null, .int (nI (0)), .int (nI (0)), .int (nI (0))]))) (gS : g.2.1.size ≤ Sx) (hSB : Sx ≠ B) (hSV : Sx ≠ Va) (hn : n < 16) (hfit : sb_Fit fv) (hg : g.2.1.size ≤ t.1) : Ct g 15 yJ0_init_db425 cJ0_init_db425 5 (none) 1 (n) [.ref (Sx), .ref (B), .null] (t, f) (fun v σ' => v = none ∧ σ' = ((t.1 + 1, t.2 + n), zup (zup f Sx (.inr (0, [.ref t.1, .int (nI (0)), .int (nI (0)), .int (nI (0))]))) t.1 (.inl (g.2.2.2 2, n, .inl (va_cpy (fv) (fun _ => 0) 0 0 (n)))))) zNo := by
  refine Ct.ofN (lv := [(0, .ref (Sx)), (1, .ref (B)), (2, .null)]) (by decide) (Nat.le_of_ble_eq_true rfl) rfl ?_
  intro κ X E B9 hnm
  have X : zX g κ RJ0 cJ0_init_db425 5 := X
  refine V.fr (fun hfr => ?_)
  have lt_B : B < t.1 := hfr _ _ hB
  have lt_Va : Va < t.1 := hfr _ _ hV
  have lt_Sx : Sx < t.1 := hfr _ _ hS
  refine V_aload_n X dJ0_init_db425_0 0 rfl ?_
  refine V_objInit X E.room (by decide) oi_J0_1 oi_in oi_code (Nat.le_of_ble_eq_true rfl) dJ0_init_db425_1 ?_
  refine V_aload_n X dJ0_init_db425_4 1 rfl ?_
  refine V_callV (rest := []) X E.room ml_J0_552 in_J5_getValue_6d5f1 (ci := 1) rfl se_J5_getValue_6d5f1 (fs := [.ref (Va), .int (nI (0)), .int (ml), .int (nI (n))]) hB (by decide) (by decide) (k_J5_getValue_6d5f1 hB) rfl rfl (Nat.le_of_ble_eq_true rfl) ⟨by omega, by omega⟩ dJ0_init_db425_5 (fun _ _ h => False.elim h) (fun v1 σ' hp2 => ?_)
  obtain ⟨hp2, rfl⟩ := hp2
  cases (hp2 : _ = some (Value.ref (Va)))
  show V g κ 5 0 (0) (t, f) 8 [(0, .ref (Sx)), (1, .ref (B)), (2, .null)] [.ref (Va)]
  refine V_astore_n X [(3, .ref (Va)), (0, .ref (Sx)), (1, .ref (B)), (2, .null)] dJ0_init_db425_8 (by decide) rfl ?_
  refine V_aload_n X dJ0_init_db425_9 2 rfl ?_
  refine V_callU (rest := []) X E.room mu_J0_549 (ci := 1) rfl (fs := [.ref (Va), .int (nI (0)), .int (ml), .int (nI (n))]) hB (by decide) (by decide) (k_J4_length_8abf5 hB) rfl rfl (Nat.le_of_ble_eq_true rfl) ⟨by omega, by omega⟩ dJ0_init_db425_10 (fun _ _ h => False.elim h) (fun v3 σ' hp4 => ?_)
  obtain ⟨hp4, rfl⟩ := hp4
  cases (hp4 : _ = some (Value.int (nI (n))))
  show V g κ 5 0 (0) (t, f) 13 [(3, .ref (Va)), (0, .ref (Sx)), (1, .ref (B)), (2, .null)] [.int (nI (n))]
  refine V_istore X [(4, .int (nI (n))), (3, .ref (Va)), (0, .ref (Sx)), (1, .ref (B)), (2, .null)] dJ0_init_db425_13 (by decide) rfl ?_
  refine V_aload_n X dJ0_init_db425_15 3 rfl ?_
  refine V_callV (rest := []) X E.room ml_J0_1047 in_J5_isLatin1_aae02 (ci := 1) rfl se_J5_isLatin1_aae02 (fs := [.ref (Va), .int (nI (0)), .int (ml), .int (nI (n))]) hB (by decide) (by decide) (k_J5_isLatin1_aae02 hB) rfl rfl (Nat.le_of_ble_eq_true rfl) ⟨by omega, by omega⟩ dJ0_init_db425_16 (fun _ _ h => False.elim h) (fun v5 σ' hp6 => ?_)
  obtain ⟨hp6, rfl⟩ := hp6
  cases (hp6 : _ = some (Value.int (nI (1))))
  show V g κ 5 0 (0) (t, f) 19 [(4, .int (nI (n))), (3, .ref (Va)), (0, .ref (Sx)), (1, .ref (B)), (2, .null)] [.int (nI (1))]
  refine V_ifeqN X (by omega) (tgt := 41) dJ0_init_db425_19 (by decide) (fun h7 => ((absurd h7 (by decide) : False)).elim) (fun h7 => ?_)
  refine V_aload_n X dJ0_init_db425_22 2 rfl ?_
  refine V_iconst (v := nI (0)) X dJ0_init_db425_23 (by decide) ?_
  refine V_putfF X ff_J0_15 fk_J0_15 zt_J0 hnm hS gS (Nat.le_of_ble_eq_true rfl) rfl rfl rfl rfl dJ0_init_db425_24 ?_
  show V g κ 5 0 (0) (t, zup (f) (Sx) (.inr (0, [.null, .int (nI (0)), .int (nI (0)), .int (nI (0))]))) 27 [(4, .int (nI (n))), (3, .ref (Va)), (0, .ref (Sx)), (1, .ref (B)), (2, .null)] []
  refine V_aload_n X dJ0_init_db425_27 2 rfl ?_
  refine V_aload_n X dJ0_init_db425_28 1 rfl ?_
  refine V_iconst (v := nI (0)) X dJ0_init_db425_29 (by decide) ?_
  refine V_iload X dJ0_init_db425_30 0 rfl ?_
  refine V_callS (rest := [.ref (Sx)]) X E.room ml_J0_54 st_J7_copyOfRange_39247 (by decide) (by decide) (k_J7_copyOfRange_39247 ((zup_ne (by omega)).trans (hV)) hn hfit hg) rfl rfl (Nat.le_of_ble_eq_true rfl) ⟨by omega, by omega⟩ dJ0_init_db425_32 (fun _ _ h => False.elim h) (fun v8 σ' hp9 => ?_)
  obtain ⟨hp9, rfl⟩ := hp9
  cases (hp9 : _ = some (Value.ref (t.1)))
  show V g κ 5 1 (0 + n) ((t.1 + 1, t.2 + n), zup (zup (f) (Sx) (.inr (0, [.null, .int (nI (0)), .int (nI (0)), .int (nI (0))]))) (t.1) (.inl (g.2.2.2 2, n, .inl (va_cpy (fv) (fun _ => 0) 0 0 (n))))) 35 [(4, .int (nI (n))), (3, .ref (Va)), (0, .ref (Sx)), (1, .ref (B)), (2, .null)] [.ref (t.1), .ref (Sx)]
  refine V_putfF X ff_J0_9 fk_J0_9 zt_J0 hnm ((zup_ne (by omega)).trans (zup_eq)) gS (Nat.le_of_ble_eq_true rfl) rfl rfl rfl rfl dJ0_init_db425_35 ?_
  refine V.so (σ' := ((t.1 + 1, t.2 + n), zup (zup (f) (Sx) (.inr (0, [.ref (t.1), .int (nI (0)), .int (nI (0)), .int (nI (0))]))) (t.1) (.inl (g.2.2.2 2, n, .inl (va_cpy (fv) (fun _ => 0) 0 0 (n)))))) (congrArg (Prod.mk ((t.1 + 1, t.2 + n))) ((zup_comm (by omega)).trans (congrArg (fun z => zup z (t.1) (.inl (g.2.2.2 2, n, .inl (va_cpy (fv) (fun _ => 0) 0 0 (n))))) (zup_zup)))) ?_
  show V g κ 5 1 (0 + n) ((t.1 + 1, t.2 + n), zup (zup (f) (Sx) (.inr (0, [.ref (t.1), .int (nI (0)), .int (nI (0)), .int (nI (0))]))) (t.1) (.inl (g.2.2.2 2, n, .inl (va_cpy (fv) (fun _ => 0) 0 0 (n))))) 38 [(4, .int (nI (n))), (3, .ref (Va)), (0, .ref (Sx)), (1, .ref (B)), (2, .null)] []
  refine V_goto (tgt := 97) X dJ0_init_db425_38 (by decide) ?_
  exact V_vret X E (by omega) (by omega) ⟨rfl, rfl⟩ dJ0_init_db425_97
set_option maxRecDepth 100000 in
set_option maxHeartbeats 4000000 in
theorem k_J0_init_81219 {g : zG} {t : Nat × Nat} {f : Nat → Option va_E} {B Va n : Nat} {ml : Int32} (hB : f B = some (.inr (1, [.ref Va, .int (nI (0)), .int ml, .int (nI (n))]))) {fv : Nat → Int32} (hV : f Va = some (.inl (g.2.2.2 2, 16, .inl (fv)))) {Sx : Nat} (hS : f Sx = some (.inr (0, [.null, .int (nI (0)), .int (nI (0)), .int (nI (0))]))) (gS : g.2.1.size ≤ Sx) (hSB : Sx ≠ B) (hSV : Sx ≠ Va) (hn : n < 16) (hfit : sb_Fit fv) (hg : g.2.1.size ≤ t.1) : Ct g 16 yJ0_init_81219 cJ0_init_81219 2 (none) 1 (n) [.ref (Sx), .ref (B)] (t, f) (fun v σ' => v = none ∧ σ' = ((t.1 + 1, t.2 + n), zup (zup f Sx (.inr (0, [.ref t.1, .int (nI (0)), .int (nI (0)), .int (nI (0))]))) t.1 (.inl (g.2.2.2 2, n, .inl (va_cpy (fv) (fun _ => 0) 0 0 (n)))))) zNo := by
  refine Ct.ofN (lv := [(0, .ref (Sx)), (1, .ref (B))]) (by decide) (Nat.le_of_ble_eq_true rfl) rfl ?_
  intro κ X E B9 hnm
  have X : zX g κ RJ0 cJ0_init_81219 2 := X
  refine V.fr (fun hfr => ?_)
  have lt_B : B < t.1 := hfr _ _ hB
  have lt_Va : Va < t.1 := hfr _ _ hV
  have lt_Sx : Sx < t.1 := hfr _ _ hS
  refine V_aload_n X dJ0_init_81219_0 0 rfl ?_
  refine V_aload_n X dJ0_init_81219_1 1 rfl ?_
  refine V_null X dJ0_init_81219_2 ?_
  refine V_callI (rest := []) X E.room ml_J0_489 in_J0_init_db425 rfl (by decide) (by decide) (k_J0_init_db425 hB hV hS gS hSB hSV hn hfit hg) rfl rfl (Nat.le_of_ble_eq_true rfl) ⟨by omega, by omega⟩ dJ0_init_81219_3 (fun _ _ h => False.elim h) (fun v1 σ' hp2 => ?_)
  obtain ⟨hp2, rfl⟩ := hp2
  cases (hp2 : _ = none)
  show V g κ 2 1 (0 + n) ((t.1 + 1, t.2 + n), zup (zup (f) (Sx) (.inr (0, [.ref (t.1), .int (nI (0)), .int (nI (0)), .int (nI (0))]))) (t.1) (.inl (g.2.2.2 2, n, .inl (va_cpy (fv) (fun _ => 0) 0 0 (n))))) 6 [(0, .ref (Sx)), (1, .ref (B))] []
  exact V_vret X E (by omega) (by omega) ⟨rfl, rfl⟩ dJ0_init_81219_6
set_option maxRecDepth 100000 in
set_option maxHeartbeats 4000000 in
theorem k_J4_toString_0e30d {g : zG} {t : Nat × Nat} {f : Nat → Option va_E} {B Va n : Nat} {ml : Int32} (hB : f B = some (.inr (1, [.ref Va, .int (nI (0)), .int ml, .int (nI (n))]))) {fv : Nat → Int32} (hV : f Va = some (.inl (g.2.2.2 2, 16, .inl (fv)))) (hn : n < 16) (hfit : sb_Fit fv) (hg : g.2.1.size ≤ t.1) : Ct g 17 yJ4_toString_0e30d cJ4_toString_0e30d 1 (some (FieldType.object "java/lang/String")) 2 (4 + n) [.ref (B)] (t, f) (fun v σ' => v = some (.ref t.1) ∧ σ' = ((t.1 + 2, t.2 + 4 + n), zup (zup f t.1 (.inr (0, [.ref (t.1 + 1), .int (nI (0)), .int (nI (0)), .int (nI (0))]))) (t.1 + 1) (.inl (g.2.2.2 2, n, .inl (va_cpy (fv) (fun _ => 0) 0 0 (n)))))) zNo := by
  refine Ct.ofN (lv := [(0, .ref (B))]) (by decide) (Nat.le_of_ble_eq_true rfl) rfl ?_
  intro κ X E B9 hnm
  have X : zX g κ RJ4 cJ4_toString_0e30d 1 := X
  refine V.fr (fun hfr => ?_)
  have lt_B : B < t.1 := hfr _ _ hB
  have lt_Va : Va < t.1 := hfr _ _ hV
  refine V_new X E.room (ci := 0) (fs := [.null, .int (nI (0)), .int (nI (0)), .int (nI (0))]) rfl zi_J0 tyJ0 tyJ0_ok cl_J4_18 mk_J0 nz_J0 (by intro j hj; match j, hj with | 0, _ => rfl | 1, _ => rfl | 2, _ => rfl | 3, _ => rfl | i + 4, hj => exact absurd hj (by omega)) (by omega) (by omega) dJ4_toString_0e30d_0 ?_
  show V g κ 1 1 (0 + 4) ((t.1 + 1, t.2 + 4), zup (f) (t.1) (.inr (0, [.null, .int (nI (0)), .int (nI (0)), .int (nI (0))]))) 3 [(0, .ref (B))] [.ref (t.1)]
  refine V_dup X dJ4_toString_0e30d_3 rfl ?_
  refine V_aload_n X dJ4_toString_0e30d_4 0 rfl ?_
  refine V_callI (rest := [.ref (t.1)]) X E.room ml_J4_137 in_J0_init_81219 rfl (by decide) (by decide) (k_J0_init_81219 (t := (t.1 + 1, t.2 + 4)) ((zup_ne (by omega)).trans (hB)) ((zup_ne (by omega)).trans (hV)) (Sx := t.1) zup_eq (by omega) (by omega) (by omega) hn hfit (by show _ ≤ t.1 + 1; omega)) rfl rfl (Nat.le_of_ble_eq_true rfl) ⟨by omega, by omega⟩ dJ4_toString_0e30d_5 (fun _ _ h => False.elim h) (fun v1 σ' hp2 => ?_)
  obtain ⟨hp2, rfl⟩ := hp2
  cases (hp2 : _ = none)
  refine V.so (σ' := ((t.1 + 2, t.2 + 4 + n), zup (zup (f) (t.1) (.inr (0, [.ref (t.1 + 1), .int (nI (0)), .int (nI (0)), .int (nI (0))]))) (t.1 + 1) (.inl (g.2.2.2 2, n, .inl (va_cpy (fv) (fun _ => 0) 0 0 (n)))))) (congrArg (Prod.mk ((t.1 + 2, t.2 + 4 + n))) ((congrArg (fun z => zup z (t.1 + 1) (.inl (g.2.2.2 2, n, .inl (va_cpy (fv) (fun _ => 0) 0 0 (n))))) (zup_zup)).trans (rfl))) ?_
  show V g κ 1 2 (0 + 4 + n) ((t.1 + 2, t.2 + 4 + n), zup (zup (f) (t.1) (.inr (0, [.ref (t.1 + 1), .int (nI (0)), .int (nI (0)), .int (nI (0))]))) (t.1 + 1) (.inl (g.2.2.2 2, n, .inl (va_cpy (fv) (fun _ => 0) 0 0 (n))))) 8 [(0, .ref (B))] [.ref (t.1)]
  exact V_aret X E (Or.inl ⟨_, rfl⟩) (Or.inr ⟨_, rfl⟩) (by omega) (by omega) ⟨rfl, rfl⟩ dJ4_toString_0e30d_8
set_option maxRecDepth 100000 in
set_option maxHeartbeats 4000000 in
theorem k_J0_coder_7d493 {g : zG} {t : Nat × Nat} {f : Nat → Option va_E} {Sx W : Nat} {h1 h2 : Int32} (hS : f Sx = some (.inr (0, [.ref W, .int (nI (0)), .int h1, .int h2]))) : Ct g 10 yJ0_coder_7d493 cJ0_coder_7d493 1 (some FieldType.byte) 0 (0) [.ref (Sx)] (t, f) (fun v σ' => v = some (.int (nI 0)) ∧ σ' = (t, f)) zNo := by
  refine Ct.ofN (lv := [(0, .ref (Sx))]) (by decide) (Nat.le_of_ble_eq_true rfl) rfl ?_
  intro κ X E B9 hnm
  have X : zX g κ RJ0 cJ0_coder_7d493 1 := X
  refine V.fr (fun hfr => ?_)
  have lt_Sx : Sx < t.1 := hfr _ _ hS
  refine V_gets X E (v := .int (nI (1))) (zComp X) gs_J0_38 dJ0_coder_7d493_0 ?_
  show V g κ 1 0 (0) (t, f) 3 [(0, .ref (Sx))] [.int (nI (1))]
  refine V_ifeqN X (by omega) (tgt := 13) dJ0_coder_7d493_3 (by decide) (fun h1 => ((absurd h1 (by decide) : False)).elim) (fun h1 => ?_)
  refine V_aload_n X dJ0_coder_7d493_6 0 rfl ?_
  refine V_getf2 X fl_J0_15 hS rfl dJ0_coder_7d493_7 ?_
  show V g κ 1 0 (0) (t, f) 10 [(0, .ref (Sx))] [.int (nI (0))]
  refine V_goto (tgt := 14) X dJ0_coder_7d493_10 (by decide) ?_
  exact V_zret X E (by first | rfl | decide) (by omega) (by omega) ⟨rfl, rfl⟩ dJ0_coder_7d493_14
set_option maxRecDepth 100000 in
set_option maxHeartbeats 4000000 in
theorem k_J0_length_8abf5 {g : zG} {t : Nat × Nat} {f : Nat → Option va_E} {Sx W n : Nat} {h1 h2 : Int32} (hS : f Sx = some (.inr (0, [.ref W, .int (nI (0)), .int h1, .int h2]))) {fw : Nat → Int32} (hW : f W = some (.inl (g.2.2.2 2, n, .inl (fw)))) (hn : n < 2 ^ 31) : Ct g 11 yJ0_length_8abf5 cJ0_length_8abf5 1 (some FieldType.int) 0 (0) [.ref (Sx)] (t, f) (fun v σ' => (∃ x : Int32, v = some (.int x)) ∧ σ' = (t, f)) zNo := by
  refine Ct.ofN (lv := [(0, .ref (Sx))]) (by decide) (Nat.le_of_ble_eq_true rfl) rfl ?_
  intro κ X E B9 hnm
  have X : zX g κ RJ0 cJ0_length_8abf5 1 := X
  refine V.fr (fun hfr => ?_)
  have lt_Sx : Sx < t.1 := hfr _ _ hS
  have lt_W : W < t.1 := hfr _ _ hW
  refine V_aload_n X dJ0_length_8abf5_0 0 rfl ?_
  refine V_getf2 X fl_J0_9 hS rfl dJ0_length_8abf5_1 ?_
  show V g κ 1 0 (0) (t, f) 4 [(0, .ref (Sx))] [.ref (W)]
  refine V_alen (v := nI (n)) X 2 hW (by decide) rfl dJ0_length_8abf5_4 ?_
  refine V_aload_n X dJ0_length_8abf5_5 0 rfl ?_
  refine V_callV (rest := [.int (nI (n))]) X E.room ml_J0_335 in_J0_coder_7d493 (ci := 0) rfl se_J0_coder_7d493 (fs := [.ref (W), .int (nI (0)), .int (h1), .int (h2)]) hS (by decide) (by decide) (k_J0_coder_7d493 hS) rfl rfl (Nat.le_of_ble_eq_true rfl) ⟨by omega, by omega⟩ dJ0_length_8abf5_6 (fun _ _ h => False.elim h) (fun v1 σ' hp2 => ?_)
  obtain ⟨hp2, rfl⟩ := hp2
  cases (hp2 : _ = some (Value.int (nI (0))))
  show V g κ 1 0 (0) (t, f) 9 [(0, .ref (Sx))] [.int (nI (0)), .int (nI (n))]
  refine V_ishr X dJ0_length_8abf5_9 (V.topi (fun w3 ew3 => ?_))
  exact V_iret X E (by omega) (by omega) ⟨⟨_, rfl⟩, rfl⟩ dJ0_length_8abf5_10
