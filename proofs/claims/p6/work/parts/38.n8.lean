/-! ===== the reference's adders ===== -/
theorem rEls_zero {ad : Nat → Nat} {b : Nat} : rEls ad b 0 = fun _ => none := by
  funext i
  unfold rEls
  rw [if_neg (Nat.not_lt_zero i)]
theorem rO_list0 {g : zG} {ad N : Nat → Nat} {S : Int64} {G : Nat → Nat → Int32} {σ0 : Nat → Option va_E} (hK : rK g ad N) (h43 : ad 43 = zEm g) {i : Nat} (hi : i < 5) (h0 : N i = 0) : rO g ad N S G σ0 (ad (1 + i)) = some (.inr (3, [.int (G (1 + i) 0), .ref (zEm g), .int (nI (0))])) := by
  rw [rO_list hK hi, h0]
  unfold rDat
  rw [if_pos h0, h43]
theorem rO_listn {g : zG} {ad N : Nat → Nat} {S : Int64} {G : Nat → Nat → Int32} {σ0 : Nat → Option va_E} (hK : rK g ad N) {i : Nat} (hi : i < 5) (h0 : 0 < N i) : rO g ad N S G σ0 (ad (1 + i)) = some (.inr (3, [.int (G (1 + i) 0), .ref (ad (6 + i)), .int (nI (N i))])) := by
  rw [rO_list hK hi]
  unfold rDat
  rw [if_neg (by omega)]
/-- the invariant without what is known -/
def rI0 (N : Nat → Nat) (F : Nat → Nat → Int32) : Prop := (N 0 ≤ 7 ∧ N 1 ≤ 5 ∧ N 2 ≤ 6 ∧ N 3 ≤ 6 ∧ N 4 ≤ 5) ∧ (∀ s, s < N 2 → ∃ m, m < 2 ^ N 0 ∧ F (26 + s) 0 = nI m) ∧ (∀ i, i < N 1 → F (21 + i) 3 = 0 ∨ F (21 + i) 3 = 1)
theorem rI.i0 {N : Nat → Nat} {F : Nat → Nat → Int32} (h : rI N F) : rI0 N F := ⟨h.1, h.2.1, h.2.2.1⟩
theorem rI0.unk {N : Nat → Nat} {F F' : Nat → Nat → Int32} {x : Int32} (h : rI0 N F) (hF : F' = fset F 0 11 x) (hx : x = 0) : rI N F' := by
  have o : ∀ k' j' : Nat, (k' ≠ 0 ∨ j' ≠ 11) → F' k' j' = F k' j' := fun k' j' h => by rw [hF, fset_ne h]
  exact ⟨h.1, fun s hs => by rw [o _ _ (by omega)]; exact h.2.1 s hs, fun i hi => by rw [o (21 + i) 3 (by omega)]; exact h.2.2 i hi, fun q1 _ => absurd (by rw [hF, fset_eq]; exact hx) q1⟩
/-- with a part, a player, a scene more, the cast is not known -/
def rAb (i : Nat) (F : Nat → Nat → Int32) : Nat → Nat → Int32 := if i < 3 then fset F 0 11 (nI 0) else F
/-- an adder: refused, or one more -/
def rAddR (i mx bs : Nat) (G : Prop) (P : (Nat → Int32) → Prop) (N : Nat → Nat) (F : Nat → Nat → Int32) (x : Int32) (N' : Nat → Nat) (F' : Nat → Nat → Int32) : Prop := zR2 (F' 0 0) G (N i < mx) (N' = N ∧ rM N F F') (x = nI (N i) ∧ N' = zNN N i ∧ ∃ (md : Int32) (fe : Nat → Int32), P fe ∧ rM (zNN N i) (rAb i (frow (fset F (1 + i) 0 md) (bs + N i) fe)) F')
def qAdd (g : zG) (t : Nat × Nat) (ad N : Nat → Nat) (S : Int64) (σ0 : Nat → Option va_E) (R : Int32 → (Nat → Nat) → (Nat → Nat → Int32) → Prop) : Option Value → zS → Prop := fun v σ' => ∃ x : Int32, v = some (.int x) ∧ ∃ (t' : Nat × Nat) (ad' N' : Nat → Nat) (F' : Nat → Nat → Int32), σ' = (t', rO g ad' N' S F' σ0) ∧ rK g ad' N' ∧ rI N' F' ∧ rGrow ad ad' N N' t.1 ∧ R x N' F'
theorem rE.fr {F G : Nat → Nat → Int32} {k : Nat} {fe : Nat → Int32} (h : rE F G) : rE (frow F k fe) (frow G k fe) := fun a b hab => by
  by_cases h1 : a = k
  · subst h1
    rw [frow_eq, frow_eq]
  · rw [frow_ne h1, frow_ne h1]
    exact h a b hab
section GR
variable {N : Nat → Nat} {F : Nat → Nat → Int32} {md : Int32} {fe : Nat → Int32}
theorem r_gr0 (h : rI N F) (hN : N 0 < 7) : rI0 (zNN N 0) (frow (fset F 1 0 md) (14 + N 0) fe) := by
  obtain ⟨⟨b0, b1, b2, b3, b4⟩, h2, h3, -⟩ := h
  refine ⟨⟨(by show N 0 + 1 ≤ 7; omega), b1, b2, b3, b4⟩, fun s hs => ?_, fun i hi => ?_⟩
  · have hs : s < N 2 := hs
    obtain ⟨m, hm, e⟩ := h2 s hs
    refine ⟨m, Nat.lt_of_lt_of_le hm (Nat.pow_le_pow_right (by decide) (Nat.le_succ _)), ?_⟩
    rw [frow_ne (by omega), fset_other (by omega), e]
  · rw [frow_ne (by omega), fset_other (by omega)]; exact h3 i hi
theorem r_gr1 (h : rI N F) (hN : N 1 < 5) (hf : fe 3 = 0) : rI0 (zNN N 1) (frow (fset F 2 0 md) (21 + N 1) fe) := by
  obtain ⟨⟨b0, b1, b2, b3, b4⟩, h2, h3, -⟩ := h
  refine ⟨⟨b0, (by show N 1 + 1 ≤ 5; omega), b2, b3, b4⟩, fun s hs => ?_, fun i hi => ?_⟩
  · have hs : s < N 2 := hs
    obtain ⟨m, hm, e⟩ := h2 s hs
    refine ⟨m, hm, ?_⟩
    rw [frow_ne (by omega), fset_other (by omega), e]
  · have hi : i < N 1 + 1 := hi
    by_cases e : i = N 1
    · subst e; rw [frow_eq]; exact Or.inl hf
    · rw [frow_ne (by omega), fset_other (by omega)]; exact h3 i (by omega)
theorem r_gr2 (h : rI N F) (hN : N 2 < 6) {m : Nat} (hm : m < 2 ^ N 0) (hf : fe 0 = nI m) : rI0 (zNN N 2) (frow (fset F 3 0 md) (26 + N 2) fe) := by
  obtain ⟨⟨b0, b1, b2, b3, b4⟩, h2, h3, -⟩ := h
  refine ⟨⟨b0, b1, (by show N 2 + 1 ≤ 6; omega), b3, b4⟩, fun s hs => ?_, fun i hi => ?_⟩
  · have hs : s < N 2 + 1 := hs
    by_cases e : s = N 2
    · subst e; exact ⟨m, hm, by rw [frow_eq]; exact hf⟩
    · obtain ⟨m, hm, e⟩ := h2 s (by omega)
      refine ⟨m, hm, ?_⟩
      rw [frow_ne (by omega), fset_other (by omega), e]
  · have hi : i < N 1 := hi
    rw [frow_ne (by omega), fset_other (by omega)]; exact h3 i hi
theorem r_gr3 (h : rI N F) (hN : N 3 < 6) : rI (zNN N 3) (frow (fset F 4 0 md) (32 + N 3) fe) := by
  obtain ⟨⟨b0, b1, b2, b3, b4⟩, h2, h3, h4⟩ := h
  have o : ∀ k j : Nat, k ≠ 4 → (k < 32 ∨ k = 0) → frow (fset F 4 0 md) (32 + N 3) fe k j = F k j := fun k j h1 h2 => by rw [frow_ne (by omega), fset_other h1]
  have e2 : ∀ s, s < N 2 → frow (fset F 4 0 md) (32 + N 3) fe (26 + s) 0 = F (26 + s) 0 := fun s hs => o _ _ (by omega) (by omega)
  refine ⟨⟨b0, b1, b2, (by show N 3 + 1 ≤ 6; omega), b4⟩, fun s hs => ?_, fun i hi => ?_, fun q1 q2 => ?_⟩
  · rw [e2 s hs]; exact h2 s hs
  · have hi : i < N 1 := hi
    rw [o _ _ (by omega) (by omega)]; exact h3 i hi
  · exact (h4 (by rw [← o 0 11 (by omega) (by omega)]; exact q1) (by rw [← o 0 12 (by omega) (by omega)]; exact q2)).mv (fun p => o 11 p (by omega) (by omega)) e2
theorem r_gr4 (h : rI N F) (hN : N 4 < 5) : rI (zNN N 4) (frow (fset F 5 0 md) (38 + N 4) fe) := by
  obtain ⟨⟨b0, b1, b2, b3, b4⟩, h2, h3, h4⟩ := h
  have o : ∀ k j : Nat, k ≠ 5 → (k < 38 ∨ k = 0) → frow (fset F 5 0 md) (38 + N 4) fe k j = F k j := fun k j h1 h2 => by rw [frow_ne (by omega), fset_other h1]
  have e2 : ∀ s, s < N 2 → frow (fset F 5 0 md) (38 + N 4) fe (26 + s) 0 = F (26 + s) 0 := fun s hs => o _ _ (by omega) (by omega)
  refine ⟨⟨b0, b1, b2, b3, (by show N 4 + 1 ≤ 5; omega)⟩, fun s hs => ?_, fun i hi => ?_, fun q1 q2 => ?_⟩
  · rw [e2 s hs]; exact h2 s hs
  · have hi : i < N 1 := hi
    rw [o _ _ (by omega) (by omega)]; exact h3 i hi
  · exact (h4 (by rw [← o 0 11 (by omega) (by omega)]; exact q1) (by rw [← o 0 12 (by omega) (by omega)]; exact q2)).mv (fun p => o 11 p (by omega) (by omega)) e2
end GR
theorem zspan {lo hi : Nat} {a : Int32} (h1 : nI lo ≤ a) (h2 : a ≤ nI hi) (hl : lo < 2 ^ 31) (hh : hi < 2 ^ 31) : ∃ m, a = nI m ∧ lo ≤ m ∧ m ≤ hi := zin_of (Int32.not_lt.mpr h1) h2 hl hh
theorem k_X8_init {g : zG} {σ : zS} {a : Nat} : Ct g 2 yX8_init cX8_init 1 none 0 0 [.ref a] σ (fun v σ' => v = none ∧ σ' = σ) zNo := by
  refine Ct.ofN (lv := [(0, .ref a)]) (by decide) (Nat.le_of_ble_eq_true rfl) rfl ?_
  intro κ X E B hnm
  have X : zX g κ RX8 cX8_init 1 := X
  refine V_aload_n X dX8_init_0 0 rfl ?_
  refine V_objInit X E.room (by decide) oi_X8_1 oi_in oi_code (Nat.le_of_ble_eq_true rfl) dX8_init_1 ?_
  exact V_vret X E (Nat.zero_le _) (Nat.zero_le _) ⟨rfl, rfl⟩ dX8_init_4
theorem k_X9_init {g : zG} {σ : zS} {a : Nat} : Ct g 2 yX9_init cX9_init 1 none 0 0 [.ref a] σ (fun v σ' => v = none ∧ σ' = σ) zNo := by
  refine Ct.ofN (lv := [(0, .ref a)]) (by decide) (Nat.le_of_ble_eq_true rfl) rfl ?_
  intro κ X E B hnm
  have X : zX g κ RX9 cX9_init 1 := X
  refine V_aload_n X dX9_init_0 0 rfl ?_
  refine V_objInit X E.room (by decide) oi_X9_1 oi_in oi_code (Nat.le_of_ble_eq_true rfl) dX9_init_1 ?_
  exact V_vret X E (Nat.zero_le _) (Nat.zero_le _) ⟨rfl, rfl⟩ dX9_init_4
theorem k_X10_init {g : zG} {σ : zS} {a : Nat} : Ct g 2 yX10_init cX10_init 1 none 0 0 [.ref a] σ (fun v σ' => v = none ∧ σ' = σ) zNo := by
  refine Ct.ofN (lv := [(0, .ref a)]) (by decide) (Nat.le_of_ble_eq_true rfl) rfl ?_
  intro κ X E B hnm
  have X : zX g κ RX10 cX10_init 1 := X
  refine V_aload_n X dX10_init_0 0 rfl ?_
  refine V_objInit X E.room (by decide) oi_X10_1 oi_in oi_code (Nat.le_of_ble_eq_true rfl) dX10_init_1 ?_
  exact V_vret X E (Nat.zero_le _) (Nat.zero_le _) ⟨rfl, rfl⟩ dX10_init_4
theorem k_X7_init {g : zG} {σ : zS} {a : Nat} : Ct g 2 yX7_init cX7_init 1 none 0 0 [.ref a] σ (fun v σ' => v = none ∧ σ' = σ) zNo := by
  refine Ct.ofN (lv := [(0, .ref a)]) (by decide) (Nat.le_of_ble_eq_true rfl) rfl ?_
  intro κ X E B hnm
  have X : zX g κ RX7 cX7_init 1 := X
  refine V_aload_n X dX7_init_0 0 rfl ?_
  refine V_objInit X E.room (by decide) oi_X7_1 oi_in oi_code (Nat.le_of_ble_eq_true rfl) dX7_init_1 ?_
  exact V_vret X E (Nat.zero_le _) (Nat.zero_le _) ⟨rfl, rfl⟩ dX7_init_4
theorem k_X11_init {g : zG} {σ : zS} {a : Nat} : Ct g 2 yX11_init cX11_init 1 none 0 0 [.ref a] σ (fun v σ' => v = none ∧ σ' = σ) zNo := by
  refine Ct.ofN (lv := [(0, .ref a)]) (by decide) (Nat.le_of_ble_eq_true rfl) rfl ?_
  intro κ X E B hnm
  have X : zX g κ RX11 cX11_init 1 := X
  refine V_aload_n X dX11_init_0 0 rfl ?_
  refine V_objInit X E.room (by decide) oi_X11_1 oi_in oi_code (Nat.le_of_ble_eq_true rfl) dX11_init_1 ?_
  exact V_vret X E (Nat.zero_le _) (Nat.zero_le _) ⟨rfl, rfl⟩ dX11_init_4
set_option maxRecDepth 100000 in
set_option maxHeartbeats 4000000 in
theorem k_X12_part {g : zG} {t : Nat × Nat} {ad N : Nat → Nat} {S : Int64} {σ0 : Nat → Option va_E} {F : Nat → Nat → Int32} (hK : rK g ad N) (hI : rI N F)  (a1 : Int32) (a2 : Int32) (a3 : Int32) (h43 : ad 43 = zEm g) (hEm : zEmC g) : Ct g 16 yX12_part cX12_part 5 (some FieldType.int) 2 13 [.ref (ad (0)), .int (a1), .int (a2), .int (a3)] (t, rO g ad N S F σ0) (qAdd g t ad N S σ0 (rAddR 0 7 14 (zin 0 3 a1 ∧ zin 0 3 a2 ∧ zin 0 9 a3) (fun fe => fe 0 = a1 ∧ fe 1 = a2 ∧ fe 2 = a3) N F)) zNo := by
  refine Ct.of (lv := [(0, .ref (ad (0))), (1, .int (a1)), (2, .int (a2)), (3, .int (a3))]) (by decide) (Nat.le_of_ble_eq_true rfl) rfl ?_
  intro κ X E B _
  have X : zX g κ RX12 cX12_part 5 := X
  obtain ⟨b0, b1, b2, b3, b4⟩ := hI.bnd
  have hpw : 1 ≤ 2 ^ N 0 := Nat.one_le_two_pow
  refine V_aload_n X dX12_part_0 0 rfl ?_
  refine V_iconst (v := nI 0) X dX12_part_1 (by decide) ?_
  refine R_putf X fl_X12_38 zt_X12 hK (0) (rlv (by omega)) (by omega) rfl (Nat.le_of_ble_eq_true rfl) rfl rfl rfl rfl rfl dX12_part_2 (fun F1 hF1 => ?_)
  have hJF1 := (rM.rfl' : rM N F F).set hF1 (by omega)
  have hIF1 := hI.st hF1 (by omega)
  refine V_iload_n X dX12_part_5 1 rfl ?_
  refine V_iconst (v := nI 0) X dX12_part_6 (by decide) ?_
  refine V_iconst (v := nI 3) X dX12_part_7 (by decide) ?_
  refine V_callS (rest := []) X E.room ml_X12_46 st_X12_is (by omega) (by decide) (k_X12_is (σ := (t, rO g ad N S F1 σ0)) (a1) (nI (0)) (nI (3))) rfl rfl (Nat.le_of_ble_eq_true rfl) ⟨by omega, by omega⟩ dX12_part_8 (fun _ _ h => False.elim h) (fun v8 σ' hp8 => ?_)
  obtain ⟨hp8, rfl⟩ := hp8
  rcases hp8 with ⟨rfl, z2⟩ | ⟨rfl, z2⟩
  · -- yes
    obtain ⟨j3, ej3, -, uj3⟩ := zin_of (Int32.not_lt.mpr z2.1) z2.2 (by decide) (by decide)
    subst ej3
    show V g κ 5 (0) (0) (t, rO g ad N S F1 σ0) 11 [(0, .ref (ad (0))), (1, .int (nI (j3))), (2, .int (a2)), (3, .int (a3))] [.int (nI (1))]
    refine V_ifeqN X (by omega) (tgt := 33) dX12_part_11 (by decide) (fun h4 => absurd h4 (by omega)) (fun h4 => ?_)
    refine V_iload_n X dX12_part_14 2 rfl ?_
    refine V_iconst (v := nI 0) X dX12_part_15 (by decide) ?_
    refine V_iconst (v := nI 3) X dX12_part_16 (by decide) ?_
    refine V_callS (rest := []) X E.room ml_X12_46 st_X12_is (by omega) (by decide) (k_X12_is (σ := (t, rO g ad N S F1 σ0)) (a2) (nI (0)) (nI (3))) rfl rfl (Nat.le_of_ble_eq_true rfl) ⟨by omega, by omega⟩ dX12_part_17 (fun _ _ h => False.elim h) (fun v17 σ' hp17 => ?_)
    obtain ⟨hp17, rfl⟩ := hp17
    rcases hp17 with ⟨rfl, z5⟩ | ⟨rfl, z5⟩
    · -- yes
      obtain ⟨j6, ej6, -, uj6⟩ := zin_of (Int32.not_lt.mpr z5.1) z5.2 (by decide) (by decide)
      subst ej6
      show V g κ 5 (0) (0) (t, rO g ad N S F1 σ0) 20 [(0, .ref (ad (0))), (1, .int (nI (j3))), (2, .int (nI (j6))), (3, .int (a3))] [.int (nI (1))]
      refine V_ifeqN X (by omega) (tgt := 33) dX12_part_20 (by decide) (fun h7 => absurd h7 (by omega)) (fun h7 => ?_)
      refine V_iload_n X dX12_part_23 3 rfl ?_
      refine V_iconst (v := nI 0) X dX12_part_24 (by decide) ?_
      refine V_bipush (v := nI 9) X dX12_part_25 (by decide) ?_
      refine V_callS (rest := []) X E.room ml_X12_46 st_X12_is (by omega) (by decide) (k_X12_is (σ := (t, rO g ad N S F1 σ0)) (a3) (nI (0)) (nI (9))) rfl rfl (Nat.le_of_ble_eq_true rfl) ⟨by omega, by omega⟩ dX12_part_27 (fun _ _ h => False.elim h) (fun v27 σ' hp27 => ?_)
      obtain ⟨hp27, rfl⟩ := hp27
      rcases hp27 with ⟨rfl, z8⟩ | ⟨rfl, z8⟩
      · -- yes
        obtain ⟨j9, ej9, -, uj9⟩ := zin_of (Int32.not_lt.mpr z8.1) z8.2 (by decide) (by decide)
        subst ej9
        show V g κ 5 (0) (0) (t, rO g ad N S F1 σ0) 30 [(0, .ref (ad (0))), (1, .int (nI (j3))), (2, .int (nI (j6))), (3, .int (nI (j9)))] [.int (nI (1))]
        refine V_ifneN X (by omega) (tgt := 39) dX12_part_30 (by decide) (fun h10 => ?_) (fun h10 => absurd h10 (by omega))
        refine V_aload_n X dX12_part_39 0 rfl ?_
        refine R_getf X fl_X12_10 hK (0) (rlv (by omega)) rfl rfl dX12_part_40 ?_
        refine V_callV (rest := []) X E.room ml_X12_42 in_Jx4a65c_size_8abf5 (ci := 3) rfl se_Jx4a65c_size_8abf5 (rO_list hK (i := 0) (by decide)) (by omega) (by decide) (r_size hK 0 (by decide)) rfl rfl (Nat.le_of_ble_eq_true rfl) ⟨by omega, by omega⟩ dX12_part_43 (fun _ _ h => False.elim h) (fun v11 σ' hp12 => ?_)
        obtain ⟨hp12, rfl⟩ := hp12
        cases (hp12 : _ = some (Value.int (nI (N 0))))
        show V g κ 5 (0) (0) (t, rO g ad N S F1 σ0) 46 [(0, .ref (ad (0))), (1, .int (nI (j3))), (2, .int (nI (j6))), (3, .int (nI (j9)))] [.int (nI (N 0))]
        refine V_bipush (v := nI 7) X dX12_part_46 (by decide) ?_
        refine V_icmpneN X (by omega) (by omega) (tgt := 57) dX12_part_48 (by decide) (fun h13 => ?_) (fun h13 => ?_)
        · -- 48 true
          have tail : ∀ (t9 : Nat × Nat) (ad9 N9 : Nat → Nat) (F9 : Nat → Nat → Int32), rK g ad9 N9 → rI0 N9 F9 → rGrow ad ad9 N N9 t.1 → 1 ≤ N9 0 → (∀ (t' : Nat × Nat) (F' : Nat → Nat → Int32), rE (rAb 0 F9) F' → F' 0 0 = F9 0 0 → rI N9 F' → (qAdd g t ad N S σ0 (rAddR 0 7 14 (zin 0 3 (nI (j3)) ∧ zin 0 3 (nI (j6)) ∧ zin 0 9 (nI (j9))) (fun fe => fe 0 = (nI (j3)) ∧ fe 1 = (nI (j6)) ∧ fe 2 = (nI (j9))) N F)) (some (.int (nI (N9 0 - 1)))) (t', rO g ad9 N9 S F' σ0)) → V g κ  5 (2) (13) (t9, rO g ad9 N9 S F9 σ0) 93 [(4, .ref (t.1)), (0, .ref (ad (0))), (1, .int (nI (j3))), (2, .int (nI (j6))), (3, .int (nI (j9)))] [.int (nI (1))] := by
            intro tz ad N F hK hI9 hg hn1 hP9
            rw [← hg.1]
            obtain ⟨⟨b0, b1, b2, b3, b4⟩, -⟩ := id hI9
            generalize h1e : t.1 = T9
            show V g κ 5 (2) (13) (tz, rO g ad N S F σ0) 93 [(4, .ref (T9)), (0, .ref (ad (0))), (1, .int (nI (j3))), (2, .int (nI (j6))), (3, .int (nI (j9)))] [.int (nI (1))]
            refine V_pop X dX12_part_93 rfl ?_
            refine V_aload_n X dX12_part_94 1 rfl ?_
            refine V_iconst (v := nI 0) X dX12_part_95 (by decide) ?_
            refine R_putf X fl_X12_70 zt_X12 hK (0) (rlv (by omega)) (by omega) rfl (Nat.le_of_ble_eq_true rfl) rfl rfl rfl rfl rfl dX12_part_96 (fun F14 hF14 => ?_)
            have hJF14 : rE (fset F 0 11 (nI 0)) F14 := by rw [hF14]; exact rE.rfl'
            have hIF14 := hI9.unk hF14 (by decide)
            refine V_aload_n X dX12_part_99 1 rfl ?_
            refine R_getf X fl_X12_10 hK (0) (rlv (by omega)) rfl rfl dX12_part_100 ?_
            refine V_callV (rest := []) X E.room ml_X12_42 in_Jx4a65c_size_8abf5 (ci := 3) rfl se_Jx4a65c_size_8abf5 (rO_list hK (i := 0) (by decide)) (by omega) (by decide) (r_size hK 0 (by decide)) rfl rfl (Nat.le_of_ble_eq_true rfl) ⟨by omega, by omega⟩ dX12_part_103 (fun _ _ h => False.elim h) (fun v15 σ' hp16 => ?_)
            obtain ⟨hp16, rfl⟩ := hp16
            cases (hp16 : _ = some (Value.int (nI (N 0))))
            show V g κ 5 (2) (13) (tz, rO g ad N S F14 σ0) 106 [(4, .ref (T9)), (0, .ref (ad (0))), (1, .int (nI (j3))), (2, .int (nI (j6))), (3, .int (nI (j9)))] [.int (nI (N 0))]
            refine V_iconst (v := nI 1) X dX12_part_106 (by decide) ?_
            refine V_isubN X (by omega) dX12_part_107 ?_
            exact V_iret X E (by omega) (by omega) (hP9 _ _ hJF14 (by rw [hF14, fset_ne (by omega)]) hIF14) dX12_part_108
          refine V.fr (fun hfr => ?_)
          have fT := rFresh (t := t) hK hfr (k := t.1) (Nat.le_refl _)
          have fD := rFresh (t := t) hK hfr (k := t.1 + 1) (by omega)
          have gT : g.2.1.size ≤ t.1 := (by have h0 := hK.2 0 (rlv (by omega)) (by decide); have h1 : ad 0 < t.1 := hfr _ _ (rO_at hK (rlv (by omega))); omega)
          refine V_new X E.room (ci := 12) (fs := [.int (nI 0), .int (nI 0), .int (nI 0)]) rfl zi_X8 tyX8 tyX8_ok cl_X12_54 mk_X8 nz_X8 (by intro j hj; match j, hj with | 0, _ => rfl | 1, _ => rfl | 2, _ => rfl | i + 3, hj => exact absurd hj (by omega)) (by omega) (by omega) dX12_part_57 ?_
          refine V_dup X dX12_part_60 rfl ?_
          refine V_callIN (rest := [.ref t.1]) X E.room ml_X12_56 in_X8_init rfl (by omega) (by decide) k_X8_init rfl rfl (Nat.le_of_ble_eq_true rfl) ⟨by omega, by omega⟩ dX12_part_61 (fun _ _ h => False.elim h) (fun v9 σ' hp9 => ?_)
          obtain ⟨hp9, rfl⟩ := hp9
          cases (hp9 : _ = none)
          refine V_astore X [(4, .ref (t.1)), (0, .ref (ad (0))), (1, .int (nI (j3))), (2, .int (nI (j6))), (3, .int (nI (j9)))] dX12_part_64 (by decide) rfl ?_
          refine V_aload X dX12_part_66 0 rfl ?_
          refine V_iload_n X dX12_part_68 2 rfl ?_
          refine V_putf X fl_X12_57 zt_X8 zup_eq gT (Nat.le_of_ble_eq_true rfl) rfl rfl rfl rfl dX12_part_69 ?_
          refine V_aload X dX12_part_72 0 rfl ?_
          refine V_iload_n X dX12_part_74 3 rfl ?_
          refine V_putf X fl_X12_60 zt_X8 zup_eq gT (Nat.le_of_ble_eq_true rfl) rfl rfl rfl rfl dX12_part_75 ?_
          refine V_aload X dX12_part_78 0 rfl ?_
          refine V_iload_n X dX12_part_80 4 rfl ?_
          refine V_putf X fl_X12_63 zt_X8 zup_eq gT (Nat.le_of_ble_eq_true rfl) rfl rfl rfl rfl dX12_part_81 ?_
          obtain ⟨fe, hfe⟩ : ∃ fe : Nat → Int32, fe = (fun z => match z with | 0 => nI (j3) | 1 => nI (j6) | 2 => nI (j9) | _ => nI 0) := ⟨_, rfl⟩
          have fe0 : fe 0 = nI (j3) := congrFun hfe 0
          have fe1 : fe 1 = nI (j6) := congrFun hfe 1
          have fe2 : fe 2 = nI (j9) := congrFun hfe 2
          refine V.so (σ' := ((t.1 + 1, t.2 + 3), rO g ad N S F1 (zup σ0 t.1 (.inr (12, [.int (fe 0), .int (fe 1), .int (fe 2)]))))) (congrArg (Prod.mk _) ((zup_zup.trans (zup_zup.trans (zup_zup))).trans ((rO_zup hK fT.1).trans (by rw [fe0, fe1, fe2]; rfl)))) ?_
          refine V_aload_n X dX12_part_84 1 rfl ?_
          refine R_getf X fl_X12_10 hK (0) (rlv (by omega)) rfl rfl dX12_part_85 ?_
          refine V_aload X dX12_part_88 0 rfl ?_
          have hv := (rO_out (S := S) (G := F1) (g := g) (σ0 := zup σ0 t.1 (.inr (12, [.int (fe 0), .int (fe 1), .int (fe 2)]))) fT.1).trans zup_eq
          have hl : rLive N 1 = true := rlv (by omega)
          have gL : g.2.1.size ≤ ad 1 := hK.2 1 hl (by decide)
          have hLE : ad 1 ≠ zEm g := by have h9 := hEm.lt; omega
          have hEv : zEm g ≠ t.1 := by have h9 := hEm.lt; omega
          have hb := And.intro b0 (And.intro b1 (And.intro b2 (And.intro b3 b4)))
          rcases Nat.eq_zero_or_pos (N 0) with h0N | h0N
          · -- the first
            refine V_callV (rest := []) X E.room ml_X12_66 in_Jx4a65c_add_9ea2d (ci := 3) rfl se_Jx4a65c_add_9ea2d (rO_list hK (i := 0) (by decide)) (by omega) (by decide) (k_add_0 (t := (t.1 + 1, t.2 + 3)) (rO_list0 hK h43 (i := 0) (by decide) h0N) gL hEm hLE hv rfl co_X8 (fT.1 1 hl) hEv) rfl rfl (Nat.le_of_ble_eq_true rfl) ⟨by omega, by omega⟩ dX12_part_90 (fun _ _ h => False.elim h) (fun v8 σ' hp8 => ?_)
            obtain ⟨hp8, e8⟩ := hp8
            cases (hp8 : _ = some (Value.int (nI 1)))
            have e9 := congrArg Prod.fst e8
            have q8 := congrArg Prod.snd e8
            dsimp only at q8 e9
            have nLD : ad 1 ≠ t.1 + 1 := fD.1 1 hl
            obtain ⟨xt, xk, xg⟩ := r_ext0 (f := σ'.2) (σ0 := σ0) (G := F1) (a := t.1) (D := t.1 + 1) (md := F1 1 0 + nI 1) (fe := fe) hK hb (by omega) fT.1 gT (Or.inl ⟨h0N, fD.1, by omega, by omega⟩)
              ((congrFun q8 _).trans ((zup_ne nLD).trans (zup_eq.trans (by rw [h0N]))))
              ((congrFun q8 _).trans (zup_eq.trans (by rw [h0N, rEls_zero]; try rfl)))
              ((congrFun q8 _).trans ((zup_ne (by omega)).trans ((zup_ne (fun e => fT.1 1 hl e.symm)).trans hv)))
              (fun q h1 h2 h3 => (congrFun q8 _).trans ((zup_ne h2).trans ((zup_ne h1).trans ((congrFun (rO_zup hK fT.1).symm q).trans (zup_ne h3)))))
            refine V.so (Prod.ext (y := (_, _)) e9 xt) ?_
            have hg9 := xg t.1 (Nat.le_refl _) (fun _ => Nat.le_succ _)
            exact tail _ _ _ _ xk (r_gr0 hIF1 (by omega)) hg9 (by show 1 ≤ N 0 + 1; omega) (fun t' F' hJ h0 hI => ⟨_, rfl, t', _, _, F', rfl, xk, hI, hg9, Or.inr (Or.inr ⟨h0.trans (by rw [frow_ne (by omega), fset_other (by omega), hF1, fset_eq]), ⟨zin_ok (by assumption) (by first | decide | (have := Nat.pow_le_pow_right (n := 2) (by decide) b0; omega)) (by first | decide | (have := Nat.pow_le_pow_right (n := 2) (by decide) b0; omega)), zin_ok (by assumption) (by first | decide | (have := Nat.pow_le_pow_right (n := 2) (by decide) b0; omega)) (by first | decide | (have := Nat.pow_le_pow_right (n := 2) (by decide) b0; omega)), zin_ok (by assumption) (by first | decide | (have := Nat.pow_le_pow_right (n := 2) (by decide) b0; omega)) (by first | decide | (have := Nat.pow_le_pow_right (n := 2) (by decide) b0; omega))⟩, by omega, congrArg nI (show N 0 + 1 - 1 = N 0 by omega), rfl, _, fe, ⟨fe0, fe1, fe2⟩, ((((rE.rfl' : rE F F).set hF1 (by omega)).fs.fr).fs.trans hJ).m⟩)⟩)
          · -- one more
            have hd : rLive N 6 = true := rlv (by omega)
            have gD : g.2.1.size ≤ ad 6 := hK.2 6 hd (by decide)
            have nLD : ad 1 ≠ ad 6 := fun e => absurd (hK.1 1 6 hl hd e) (by decide)
            refine V_callV (rest := []) X E.room ml_X12_66 in_Jx4a65c_add_9ea2d (ci := 3) rfl se_Jx4a65c_add_9ea2d (rO_list hK (i := 0) (by decide)) (by omega) (by decide) (k_add_n (t := (t.1 + 1, t.2 + 3)) (rO_listn hK (i := 0) (by decide) h0N) (rO_data hK (i := 0) (by decide) h0N) gL gD nLD (by omega) hv rfl co_X8 (fT.1 1 hl) (fT.1 6 hd)) rfl rfl (Nat.le_of_ble_eq_true rfl) ⟨by omega, by omega⟩ dX12_part_90 (fun _ _ h => False.elim h) (fun v8 σ' hp8 => ?_)
            obtain ⟨hp8, e8⟩ := hp8
            cases (hp8 : _ = some (Value.int (nI 1)))
            have e9 := congrArg Prod.fst e8
            have q8 := congrArg Prod.snd e8
            dsimp only at q8 e9
            obtain ⟨xt, xk, xg⟩ := r_ext0 (f := σ'.2) (σ0 := σ0) (G := F1) (a := t.1) (D := ad 6) (md := F1 1 0 + nI 1) (fe := fe) hK hb (by omega) fT.1 gT (Or.inr ⟨h0N, rfl⟩)
              ((congrFun q8 _).trans ((zup_ne nLD).trans zup_eq))
              ((congrFun q8 _).trans (zup_eq.trans (by rw [nI_clamp (by omega)]; try rfl)))
              ((congrFun q8 _).trans ((zup_ne (fun e => fT.1 6 hd e.symm)).trans ((zup_ne (fun e => fT.1 1 hl e.symm)).trans hv)))
              (fun q h1 h2 h3 => (congrFun q8 _).trans ((zup_ne h2).trans ((zup_ne h1).trans ((congrFun (rO_zup hK fT.1).symm q).trans (zup_ne h3)))))
            refine V.so (Prod.ext (y := (_, _)) e9 xt) ?_
            have hg9 := xg t.1 (Nat.le_refl _) (fun z => absurd z (by omega))
            exact V.widen (by omega) (by omega) (tail _ _ _ _ xk (r_gr0 hIF1 (by omega)) hg9 (by show 1 ≤ N 0 + 1; omega) (fun t' F' hJ h0 hI => ⟨_, rfl, t', _, _, F', rfl, xk, hI, hg9, Or.inr (Or.inr ⟨h0.trans (by rw [frow_ne (by omega), fset_other (by omega), hF1, fset_eq]), ⟨zin_ok (by assumption) (by first | decide | (have := Nat.pow_le_pow_right (n := 2) (by decide) b0; omega)) (by first | decide | (have := Nat.pow_le_pow_right (n := 2) (by decide) b0; omega)), zin_ok (by assumption) (by first | decide | (have := Nat.pow_le_pow_right (n := 2) (by decide) b0; omega)) (by first | decide | (have := Nat.pow_le_pow_right (n := 2) (by decide) b0; omega)), zin_ok (by assumption) (by first | decide | (have := Nat.pow_le_pow_right (n := 2) (by decide) b0; omega)) (by first | decide | (have := Nat.pow_le_pow_right (n := 2) (by decide) b0; omega))⟩, by omega, congrArg nI (show N 0 + 1 - 1 = N 0 by omega), rfl, _, fe, ⟨fe0, fe1, fe2⟩, ((((rE.rfl' : rE F F).set hF1 (by omega)).fs.fr).fs.trans hJ).m⟩)⟩))
        · -- 48 false
          refine V_aload_n X dX12_part_51 0 rfl ?_
          refine V_iconst (v := nI 2) X dX12_part_52 (by decide) ?_
          refine V_callV (rest := []) X E.room ml_X12_50 in_X12_refuse (ci := 16) rfl se_X12_refuse (R_recv hK (q := 0) (rlv (by omega)) rfl) (by omega) (by decide) (k_X12_refuse hK hIF1 (nI (2))) rfl rfl (Nat.le_of_ble_eq_true rfl) ⟨by omega, by omega⟩ dX12_part_53 (fun _ _ h => False.elim h) (fun v53 σ' hp53 => ?_)
          obtain ⟨hp53, F17, rfl, hF17⟩ := hp53
          have hKF17 : rM N F F17 := (hJF1 : rM N F F1).set hF17 (by omega)
          have hIF17 := hIF1.st hF17 (by omega)
          cases (hp53 : _ = some (Value.int (nI (0))))
          show V g κ 5 (0) (0) (t, rO g ad N S F17 σ0) 56 [(0, .ref (ad (0))), (1, .int (nI (j3))), (2, .int (nI (j6))), (3, .int (nI (j9)))] [.int (nI (0))]
          exact V_iret X E (by omega) (by omega) ⟨_, rfl, _, _, _, _, rfl, hK, hIF17, rGrow.rfl', Or.inr (Or.inl ⟨(by rw [hF17, fset_eq]), ⟨zin_ok (by assumption) (by first | decide | (have := Nat.pow_le_pow_right (n := 2) (by decide) b0; omega)) (by first | decide | (have := Nat.pow_le_pow_right (n := 2) (by decide) b0; omega)), zin_ok (by assumption) (by first | decide | (have := Nat.pow_le_pow_right (n := 2) (by decide) b0; omega)) (by first | decide | (have := Nat.pow_le_pow_right (n := 2) (by decide) b0; omega)), zin_ok (by assumption) (by first | decide | (have := Nat.pow_le_pow_right (n := 2) (by decide) b0; omega)) (by first | decide | (have := Nat.pow_le_pow_right (n := 2) (by decide) b0; omega))⟩, by omega, rfl, hKF17⟩)⟩ dX12_part_56
      · -- no
        show V g κ 5 (0) (0) (t, rO g ad N S F1 σ0) 30 [(0, .ref (ad (0))), (1, .int (nI (j3))), (2, .int (nI (j6))), (3, .int (a3))] [.int (nI (0))]
        refine V_ifneN X (by omega) (tgt := 39) dX12_part_30 (by decide) (fun h18 => absurd h18 (by omega)) (fun h18 => ?_)
        refine V_aload_n X dX12_part_33 0 rfl ?_
        refine V_iconst (v := nI 1) X dX12_part_34 (by decide) ?_
        refine V_callV (rest := []) X E.room ml_X12_50 in_X12_refuse (ci := 16) rfl se_X12_refuse (R_recv hK (q := 0) (rlv (by omega)) rfl) (by omega) (by decide) (k_X12_refuse hK hIF1 (nI (1))) rfl rfl (Nat.le_of_ble_eq_true rfl) ⟨by omega, by omega⟩ dX12_part_35 (fun _ _ h => False.elim h) (fun v35 σ' hp35 => ?_)
        obtain ⟨hp35, F19, rfl, hF19⟩ := hp35
        have hKF19 : rM N F F19 := (hJF1 : rM N F F1).set hF19 (by omega)
        have hIF19 := hIF1.st hF19 (by omega)
        cases (hp35 : _ = some (Value.int (nI (0))))
        show V g κ 5 (0) (0) (t, rO g ad N S F19 σ0) 38 [(0, .ref (ad (0))), (1, .int (nI (j3))), (2, .int (nI (j6))), (3, .int (a3))] [.int (nI (0))]
        exact V_iret X E (by omega) (by omega) ⟨_, rfl, _, _, _, _, rfl, hK, hIF19, rGrow.rfl', Or.inl ⟨(by rw [hF19, fset_eq]), fun q => by first | exact absurd (zin_no (by first | decide | (have := Nat.pow_le_pow_right (n := 2) (by decide) b0; omega)) (by first | decide | (have := Nat.pow_le_pow_right (n := 2) (by decide) b0; omega)) q.1) (by assumption) | exact absurd (zin_no (by first | decide | (have := Nat.pow_le_pow_right (n := 2) (by decide) b0; omega)) (by first | decide | (have := Nat.pow_le_pow_right (n := 2) (by decide) b0; omega)) q.2.1) (by assumption) | exact absurd (zin_no (by first | decide | (have := Nat.pow_le_pow_right (n := 2) (by decide) b0; omega)) (by first | decide | (have := Nat.pow_le_pow_right (n := 2) (by decide) b0; omega)) q.2.2) (by assumption), rfl, hKF19⟩⟩ dX12_part_38
    · -- no
      show V g κ 5 (0) (0) (t, rO g ad N S F1 σ0) 20 [(0, .ref (ad (0))), (1, .int (nI (j3))), (2, .int (a2)), (3, .int (a3))] [.int (nI (0))]
      refine V_ifeqN X (by omega) (tgt := 33) dX12_part_20 (by decide) (fun h20 => ?_) (fun h20 => absurd h20 (by omega))
      refine V_aload_n X dX12_part_33 0 rfl ?_
      refine V_iconst (v := nI 1) X dX12_part_34 (by decide) ?_
      refine V_callV (rest := []) X E.room ml_X12_50 in_X12_refuse (ci := 16) rfl se_X12_refuse (R_recv hK (q := 0) (rlv (by omega)) rfl) (by omega) (by decide) (k_X12_refuse hK hIF1 (nI (1))) rfl rfl (Nat.le_of_ble_eq_true rfl) ⟨by omega, by omega⟩ dX12_part_35 (fun _ _ h => False.elim h) (fun v35 σ' hp35 => ?_)
      obtain ⟨hp35, F21, rfl, hF21⟩ := hp35
      have hKF21 : rM N F F21 := (hJF1 : rM N F F1).set hF21 (by omega)
      have hIF21 := hIF1.st hF21 (by omega)
      cases (hp35 : _ = some (Value.int (nI (0))))
      show V g κ 5 (0) (0) (t, rO g ad N S F21 σ0) 38 [(0, .ref (ad (0))), (1, .int (nI (j3))), (2, .int (a2)), (3, .int (a3))] [.int (nI (0))]
      exact V_iret X E (by omega) (by omega) ⟨_, rfl, _, _, _, _, rfl, hK, hIF21, rGrow.rfl', Or.inl ⟨(by rw [hF21, fset_eq]), fun q => by first | exact absurd (zin_no (by first | decide | (have := Nat.pow_le_pow_right (n := 2) (by decide) b0; omega)) (by first | decide | (have := Nat.pow_le_pow_right (n := 2) (by decide) b0; omega)) q.1) (by assumption) | exact absurd (zin_no (by first | decide | (have := Nat.pow_le_pow_right (n := 2) (by decide) b0; omega)) (by first | decide | (have := Nat.pow_le_pow_right (n := 2) (by decide) b0; omega)) q.2.1) (by assumption) | exact absurd (zin_no (by first | decide | (have := Nat.pow_le_pow_right (n := 2) (by decide) b0; omega)) (by first | decide | (have := Nat.pow_le_pow_right (n := 2) (by decide) b0; omega)) q.2.2) (by assumption), rfl, hKF21⟩⟩ dX12_part_38
  · -- no
    show V g κ 5 (0) (0) (t, rO g ad N S F1 σ0) 11 [(0, .ref (ad (0))), (1, .int (a1)), (2, .int (a2)), (3, .int (a3))] [.int (nI (0))]
    refine V_ifeqN X (by omega) (tgt := 33) dX12_part_11 (by decide) (fun h22 => ?_) (fun h22 => absurd h22 (by omega))
    refine V_aload_n X dX12_part_33 0 rfl ?_
    refine V_iconst (v := nI 1) X dX12_part_34 (by decide) ?_
    refine V_callV (rest := []) X E.room ml_X12_50 in_X12_refuse (ci := 16) rfl se_X12_refuse (R_recv hK (q := 0) (rlv (by omega)) rfl) (by omega) (by decide) (k_X12_refuse hK hIF1 (nI (1))) rfl rfl (Nat.le_of_ble_eq_true rfl) ⟨by omega, by omega⟩ dX12_part_35 (fun _ _ h => False.elim h) (fun v35 σ' hp35 => ?_)
    obtain ⟨hp35, F23, rfl, hF23⟩ := hp35
    have hKF23 : rM N F F23 := (hJF1 : rM N F F1).set hF23 (by omega)
    have hIF23 := hIF1.st hF23 (by omega)
    cases (hp35 : _ = some (Value.int (nI (0))))
    show V g κ 5 (0) (0) (t, rO g ad N S F23 σ0) 38 [(0, .ref (ad (0))), (1, .int (a1)), (2, .int (a2)), (3, .int (a3))] [.int (nI (0))]
    exact V_iret X E (by omega) (by omega) ⟨_, rfl, _, _, _, _, rfl, hK, hIF23, rGrow.rfl', Or.inl ⟨(by rw [hF23, fset_eq]), fun q => by first | exact absurd (zin_no (by first | decide | (have := Nat.pow_le_pow_right (n := 2) (by decide) b0; omega)) (by first | decide | (have := Nat.pow_le_pow_right (n := 2) (by decide) b0; omega)) q.1) (by assumption) | exact absurd (zin_no (by first | decide | (have := Nat.pow_le_pow_right (n := 2) (by decide) b0; omega)) (by first | decide | (have := Nat.pow_le_pow_right (n := 2) (by decide) b0; omega)) q.2.1) (by assumption) | exact absurd (zin_no (by first | decide | (have := Nat.pow_le_pow_right (n := 2) (by decide) b0; omega)) (by first | decide | (have := Nat.pow_le_pow_right (n := 2) (by decide) b0; omega)) q.2.2) (by assumption), rfl, hKF23⟩⟩ dX12_part_38
set_option maxRecDepth 100000 in
set_option maxHeartbeats 4000000 in
theorem k_X12_player {g : zG} {t : Nat × Nat} {ad N : Nat → Nat} {S : Int64} {σ0 : Nat → Option va_E} {F : Nat → Nat → Int32} (hK : rK g ad N) (hI : rI N F)  (a1 : Int32) (a2 : Int32) (a3 : Int32) (h43 : ad 43 = zEm g) (hEm : zEmC g) : Ct g 16 yX12_player cX12_player 5 (some FieldType.int) 2 15 [.ref (ad (0)), .int (a1), .int (a2), .int (a3)] (t, rO g ad N S F σ0) (qAdd g t ad N S σ0 (rAddR 1 5 21 (zin 0 15 a1 ∧ zin 1 9 a2 ∧ zin 1 5 a3) (fun fe => fe 0 = a1 ∧ fe 1 = a2 ∧ fe 2 = a3 ∧ fe 3 = nI 0 ∧ fe 4 = nI 0) N F)) zNo := by
  refine Ct.of (lv := [(0, .ref (ad (0))), (1, .int (a1)), (2, .int (a2)), (3, .int (a3))]) (by decide) (Nat.le_of_ble_eq_true rfl) rfl ?_
  intro κ X E B _
  have X : zX g κ RX12 cX12_player 5 := X
  obtain ⟨b0, b1, b2, b3, b4⟩ := hI.bnd
  have hpw : 1 ≤ 2 ^ N 0 := Nat.one_le_two_pow
  refine V_aload_n X dX12_player_0 0 rfl ?_
  refine V_iconst (v := nI 0) X dX12_player_1 (by decide) ?_
  refine R_putf X fl_X12_38 zt_X12 hK (0) (rlv (by omega)) (by omega) rfl (Nat.le_of_ble_eq_true rfl) rfl rfl rfl rfl rfl dX12_player_2 (fun F1 hF1 => ?_)
  have hJF1 := (rM.rfl' : rM N F F).set hF1 (by omega)
  have hIF1 := hI.st hF1 (by omega)
  refine V_iload_n X dX12_player_5 1 rfl ?_
  refine V_iconst (v := nI 0) X dX12_player_6 (by decide) ?_
  refine V_bipush (v := nI 15) X dX12_player_7 (by decide) ?_
  refine V_callS (rest := []) X E.room ml_X12_46 st_X12_is (by omega) (by decide) (k_X12_is (σ := (t, rO g ad N S F1 σ0)) (a1) (nI (0)) (nI (15))) rfl rfl (Nat.le_of_ble_eq_true rfl) ⟨by omega, by omega⟩ dX12_player_9 (fun _ _ h => False.elim h) (fun v9 σ' hp9 => ?_)
  obtain ⟨hp9, rfl⟩ := hp9
  rcases hp9 with ⟨rfl, z2⟩ | ⟨rfl, z2⟩
  · -- yes
    obtain ⟨j3, ej3, -, uj3⟩ := zin_of (Int32.not_lt.mpr z2.1) z2.2 (by decide) (by decide)
    subst ej3
    show V g κ 5 (0) (0) (t, rO g ad N S F1 σ0) 12 [(0, .ref (ad (0))), (1, .int (nI (j3))), (2, .int (a2)), (3, .int (a3))] [.int (nI (1))]
    refine V_ifeqN X (by omega) (tgt := 34) dX12_player_12 (by decide) (fun h4 => absurd h4 (by omega)) (fun h4 => ?_)
    refine V_iload_n X dX12_player_15 2 rfl ?_
    refine V_iconst (v := nI 1) X dX12_player_16 (by decide) ?_
    refine V_bipush (v := nI 9) X dX12_player_17 (by decide) ?_
    refine V_callS (rest := []) X E.room ml_X12_46 st_X12_is (by omega) (by decide) (k_X12_is (σ := (t, rO g ad N S F1 σ0)) (a2) (nI (1)) (nI (9))) rfl rfl (Nat.le_of_ble_eq_true rfl) ⟨by omega, by omega⟩ dX12_player_19 (fun _ _ h => False.elim h) (fun v19 σ' hp19 => ?_)
    obtain ⟨hp19, rfl⟩ := hp19
    rcases hp19 with ⟨rfl, z5⟩ | ⟨rfl, z5⟩
    · -- yes
      show V g κ 5 (0) (0) (t, rO g ad N S F1 σ0) 22 [(0, .ref (ad (0))), (1, .int (nI (j3))), (2, .int (a2)), (3, .int (a3))] [.int (nI (1))]
      refine V_ifeqN X (by omega) (tgt := 34) dX12_player_22 (by decide) (fun h6 => absurd h6 (by omega)) (fun h6 => ?_)
      refine V_iload_n X dX12_player_25 3 rfl ?_
      refine V_iconst (v := nI 1) X dX12_player_26 (by decide) ?_
      refine V_iconst (v := nI 5) X dX12_player_27 (by decide) ?_
      refine V_callS (rest := []) X E.room ml_X12_46 st_X12_is (by omega) (by decide) (k_X12_is (σ := (t, rO g ad N S F1 σ0)) (a3) (nI (1)) (nI (5))) rfl rfl (Nat.le_of_ble_eq_true rfl) ⟨by omega, by omega⟩ dX12_player_28 (fun _ _ h => False.elim h) (fun v28 σ' hp28 => ?_)
      obtain ⟨hp28, rfl⟩ := hp28
      rcases hp28 with ⟨rfl, z7⟩ | ⟨rfl, z7⟩
      · -- yes
        show V g κ 5 (0) (0) (t, rO g ad N S F1 σ0) 31 [(0, .ref (ad (0))), (1, .int (nI (j3))), (2, .int (a2)), (3, .int (a3))] [.int (nI (1))]
        refine V_ifneN X (by omega) (tgt := 40) dX12_player_31 (by decide) (fun h8 => ?_) (fun h8 => absurd h8 (by omega))
        refine V_aload_n X dX12_player_40 0 rfl ?_
        refine R_getf X fl_X12_16 hK (0) (rlv (by omega)) rfl rfl dX12_player_41 ?_
        refine V_callV (rest := []) X E.room ml_X12_42 in_Jx4a65c_size_8abf5 (ci := 3) rfl se_Jx4a65c_size_8abf5 (rO_list hK (i := 1) (by decide)) (by omega) (by decide) (r_size hK 1 (by decide)) rfl rfl (Nat.le_of_ble_eq_true rfl) ⟨by omega, by omega⟩ dX12_player_44 (fun _ _ h => False.elim h) (fun v9 σ' hp10 => ?_)
        obtain ⟨hp10, rfl⟩ := hp10
        cases (hp10 : _ = some (Value.int (nI (N 1))))
        show V g κ 5 (0) (0) (t, rO g ad N S F1 σ0) 47 [(0, .ref (ad (0))), (1, .int (nI (j3))), (2, .int (a2)), (3, .int (a3))] [.int (nI (N 1))]
        refine V_iconst (v := nI 5) X dX12_player_47 (by decide) ?_
        refine V_icmpneN X (by omega) (by omega) (tgt := 57) dX12_player_48 (by decide) (fun h11 => ?_) (fun h11 => ?_)
        · -- 48 true
          have tail : ∀ (t9 : Nat × Nat) (ad9 N9 : Nat → Nat) (F9 : Nat → Nat → Int32), rK g ad9 N9 → rI0 N9 F9 → rGrow ad ad9 N N9 t.1 → 1 ≤ N9 1 → (∀ (t' : Nat × Nat) (F' : Nat → Nat → Int32), rE (rAb 1 F9) F' → F' 0 0 = F9 0 0 → rI N9 F' → (qAdd g t ad N S σ0 (rAddR 1 5 21 (zin 0 15 (nI (j3)) ∧ zin 1 9 (a2) ∧ zin 1 5 (a3)) (fun fe => fe 0 = (nI (j3)) ∧ fe 1 = (a2) ∧ fe 2 = (a3) ∧ fe 3 = nI 0 ∧ fe 4 = nI 0) N F)) (some (.int (nI (N9 1 - 1)))) (t', rO g ad9 N9 S F' σ0)) → V g κ  5 (2) (15) (t9, rO g ad9 N9 S F9 σ0) 93 [(4, .ref (t.1)), (0, .ref (ad (0))), (1, .int (nI (j3))), (2, .int (a2)), (3, .int (a3))] [.int (nI (1))] := by
            intro tz ad N F hK hI9 hg hn1 hP9
            rw [← hg.1]
            obtain ⟨⟨b0, b1, b2, b3, b4⟩, -⟩ := id hI9
            generalize h1e : t.1 = T9
            show V g κ 5 (2) (15) (tz, rO g ad N S F σ0) 93 [(4, .ref (T9)), (0, .ref (ad (0))), (1, .int (nI (j3))), (2, .int (a2)), (3, .int (a3))] [.int (nI (1))]
            refine V_pop X dX12_player_93 rfl ?_
            refine V_aload_n X dX12_player_94 1 rfl ?_
            refine V_iconst (v := nI 0) X dX12_player_95 (by decide) ?_
            refine R_putf X fl_X12_70 zt_X12 hK (0) (rlv (by omega)) (by omega) rfl (Nat.le_of_ble_eq_true rfl) rfl rfl rfl rfl rfl dX12_player_96 (fun F12 hF12 => ?_)
            have hJF12 : rE (fset F 0 11 (nI 0)) F12 := by rw [hF12]; exact rE.rfl'
            have hIF12 := hI9.unk hF12 (by decide)
            refine V_aload_n X dX12_player_99 1 rfl ?_
            refine R_getf X fl_X12_16 hK (0) (rlv (by omega)) rfl rfl dX12_player_100 ?_
            refine V_callV (rest := []) X E.room ml_X12_42 in_Jx4a65c_size_8abf5 (ci := 3) rfl se_Jx4a65c_size_8abf5 (rO_list hK (i := 1) (by decide)) (by omega) (by decide) (r_size hK 1 (by decide)) rfl rfl (Nat.le_of_ble_eq_true rfl) ⟨by omega, by omega⟩ dX12_player_103 (fun _ _ h => False.elim h) (fun v13 σ' hp14 => ?_)
            obtain ⟨hp14, rfl⟩ := hp14
            cases (hp14 : _ = some (Value.int (nI (N 1))))
            show V g κ 5 (2) (15) (tz, rO g ad N S F12 σ0) 106 [(4, .ref (T9)), (0, .ref (ad (0))), (1, .int (nI (j3))), (2, .int (a2)), (3, .int (a3))] [.int (nI (N 1))]
            refine V_iconst (v := nI 1) X dX12_player_106 (by decide) ?_
            refine V_isubN X (by omega) dX12_player_107 ?_
            exact V_iret X E (by omega) (by omega) (hP9 _ _ hJF12 (by rw [hF12, fset_ne (by omega)]) hIF12) dX12_player_108
          refine V.fr (fun hfr => ?_)
          have fT := rFresh (t := t) hK hfr (k := t.1) (Nat.le_refl _)
          have fD := rFresh (t := t) hK hfr (k := t.1 + 1) (by omega)
          have gT : g.2.1.size ≤ t.1 := (by have h0 := hK.2 0 (rlv (by omega)) (by decide); have h1 : ad 0 < t.1 := hfr _ _ (rO_at hK (rlv (by omega))); omega)
          refine V_new X E.room (ci := 13) (fs := [.int (nI 0), .int (nI 0), .int (nI 0), .int (nI 0), .int (nI 0)]) rfl zi_X9 tyX9 tyX9_ok cl_X12_74 mk_X9 nz_X9 (by intro j hj; match j, hj with | 0, _ => rfl | 1, _ => rfl | 2, _ => rfl | 3, _ => rfl | 4, _ => rfl | i + 5, hj => exact absurd hj (by omega)) (by omega) (by omega) dX12_player_57 ?_
          refine V_dup X dX12_player_60 rfl ?_
          refine V_callIN (rest := [.ref t.1]) X E.room ml_X12_76 in_X9_init rfl (by omega) (by decide) k_X9_init rfl rfl (Nat.le_of_ble_eq_true rfl) ⟨by omega, by omega⟩ dX12_player_61 (fun _ _ h => False.elim h) (fun v9 σ' hp9 => ?_)
          obtain ⟨hp9, rfl⟩ := hp9
          cases (hp9 : _ = none)
          refine V_astore X [(4, .ref (t.1)), (0, .ref (ad (0))), (1, .int (nI (j3))), (2, .int (a2)), (3, .int (a3))] dX12_player_64 (by decide) rfl ?_
          refine V_aload X dX12_player_66 0 rfl ?_
          refine V_iload_n X dX12_player_68 2 rfl ?_
          refine V_putf X fl_X12_77 zt_X9 zup_eq gT (Nat.le_of_ble_eq_true rfl) rfl rfl rfl rfl dX12_player_69 ?_
          refine V_aload X dX12_player_72 0 rfl ?_
          refine V_iload_n X dX12_player_74 3 rfl ?_
          refine V_putf X fl_X12_80 zt_X9 zup_eq gT (Nat.le_of_ble_eq_true rfl) rfl rfl rfl rfl dX12_player_75 ?_
          refine V_aload X dX12_player_78 0 rfl ?_
          refine V_iload_n X dX12_player_80 4 rfl ?_
          refine V_putf X fl_X12_82 zt_X9 zup_eq gT (Nat.le_of_ble_eq_true rfl) rfl rfl rfl rfl dX12_player_81 ?_
          obtain ⟨fe, hfe⟩ : ∃ fe : Nat → Int32, fe = (fun z => match z with | 0 => nI (j3) | 1 => a2 | 2 => a3 | 3 => nI 0 | 4 => nI 0 | _ => nI 0) := ⟨_, rfl⟩
          have fe0 : fe 0 = nI (j3) := congrFun hfe 0
          have fe1 : fe 1 = a2 := congrFun hfe 1
          have fe2 : fe 2 = a3 := congrFun hfe 2
          have fe3 : fe 3 = nI 0 := congrFun hfe 3
          have fe4 : fe 4 = nI 0 := congrFun hfe 4
          refine V.so (σ' := ((t.1 + 1, t.2 + 5), rO g ad N S F1 (zup σ0 t.1 (.inr (13, [.int (fe 0), .int (fe 1), .int (fe 2), .int (fe 3), .int (fe 4)]))))) (congrArg (Prod.mk _) ((zup_zup.trans (zup_zup.trans (zup_zup))).trans ((rO_zup hK fT.1).trans (by rw [fe0, fe1, fe2, fe3, fe4]; rfl)))) ?_
          refine V_aload_n X dX12_player_84 1 rfl ?_
          refine R_getf X fl_X12_16 hK (0) (rlv (by omega)) rfl rfl dX12_player_85 ?_
          refine V_aload X dX12_player_88 0 rfl ?_
          have hv := (rO_out (S := S) (G := F1) (g := g) (σ0 := zup σ0 t.1 (.inr (13, [.int (fe 0), .int (fe 1), .int (fe 2), .int (fe 3), .int (fe 4)]))) fT.1).trans zup_eq
          have hl : rLive N 2 = true := rlv (by omega)
          have gL : g.2.1.size ≤ ad 2 := hK.2 2 hl (by decide)
          have hLE : ad 2 ≠ zEm g := by have h9 := hEm.lt; omega
          have hEv : zEm g ≠ t.1 := by have h9 := hEm.lt; omega
          have hb := And.intro b0 (And.intro b1 (And.intro b2 (And.intro b3 b4)))
          rcases Nat.eq_zero_or_pos (N 1) with h0N | h0N
          · -- the first
            refine V_callV (rest := []) X E.room ml_X12_66 in_Jx4a65c_add_9ea2d (ci := 3) rfl se_Jx4a65c_add_9ea2d (rO_list hK (i := 1) (by decide)) (by omega) (by decide) (k_add_0 (t := (t.1 + 1, t.2 + 5)) (rO_list0 hK h43 (i := 1) (by decide) h0N) gL hEm hLE hv rfl co_X9 (fT.1 2 hl) hEv) rfl rfl (Nat.le_of_ble_eq_true rfl) ⟨by omega, by omega⟩ dX12_player_90 (fun _ _ h => False.elim h) (fun v8 σ' hp8 => ?_)
            obtain ⟨hp8, e8⟩ := hp8
            cases (hp8 : _ = some (Value.int (nI 1)))
            have e9 := congrArg Prod.fst e8
            have q8 := congrArg Prod.snd e8
            dsimp only at q8 e9
            have nLD : ad 2 ≠ t.1 + 1 := fD.1 2 hl
            obtain ⟨xt, xk, xg⟩ := r_ext1 (f := σ'.2) (σ0 := σ0) (G := F1) (a := t.1) (D := t.1 + 1) (md := F1 2 0 + nI 1) (fe := fe) hK hb (by omega) fT.1 gT (Or.inl ⟨h0N, fD.1, by omega, by omega⟩)
              ((congrFun q8 _).trans ((zup_ne nLD).trans (zup_eq.trans (by rw [h0N]))))
              ((congrFun q8 _).trans (zup_eq.trans (by rw [h0N, rEls_zero]; try rfl)))
              ((congrFun q8 _).trans ((zup_ne (by omega)).trans ((zup_ne (fun e => fT.1 2 hl e.symm)).trans hv)))
              (fun q h1 h2 h3 => (congrFun q8 _).trans ((zup_ne h2).trans ((zup_ne h1).trans ((congrFun (rO_zup hK fT.1).symm q).trans (zup_ne h3)))))
            refine V.so (Prod.ext (y := (_, _)) e9 xt) ?_
            have hg9 := xg t.1 (Nat.le_refl _) (fun _ => Nat.le_succ _)
            exact tail _ _ _ _ xk (r_gr1 hIF1 (by omega) (by rw [fe3]; rfl)) hg9 (by show 1 ≤ N 1 + 1; omega) (fun t' F' hJ h0 hI => ⟨_, rfl, t', _, _, F', rfl, xk, hI, hg9, Or.inr (Or.inr ⟨h0.trans (by rw [frow_ne (by omega), fset_other (by omega), hF1, fset_eq]), ⟨zin_ok (by assumption) (by first | decide | (have := Nat.pow_le_pow_right (n := 2) (by decide) b0; omega)) (by first | decide | (have := Nat.pow_le_pow_right (n := 2) (by decide) b0; omega)), zin_ok (by assumption) (by first | decide | (have := Nat.pow_le_pow_right (n := 2) (by decide) b0; omega)) (by first | decide | (have := Nat.pow_le_pow_right (n := 2) (by decide) b0; omega)), zin_ok (by assumption) (by first | decide | (have := Nat.pow_le_pow_right (n := 2) (by decide) b0; omega)) (by first | decide | (have := Nat.pow_le_pow_right (n := 2) (by decide) b0; omega))⟩, by omega, congrArg nI (show N 1 + 1 - 1 = N 1 by omega), rfl, _, fe, ⟨fe0, fe1, fe2, fe3, fe4⟩, ((((rE.rfl' : rE F F).set hF1 (by omega)).fs.fr).fs.trans hJ).m⟩)⟩)
          · -- one more
            have hd : rLive N 7 = true := rlv (by omega)
            have gD : g.2.1.size ≤ ad 7 := hK.2 7 hd (by decide)
            have nLD : ad 2 ≠ ad 7 := fun e => absurd (hK.1 2 7 hl hd e) (by decide)
            refine V_callV (rest := []) X E.room ml_X12_66 in_Jx4a65c_add_9ea2d (ci := 3) rfl se_Jx4a65c_add_9ea2d (rO_list hK (i := 1) (by decide)) (by omega) (by decide) (k_add_n (t := (t.1 + 1, t.2 + 5)) (rO_listn hK (i := 1) (by decide) h0N) (rO_data hK (i := 1) (by decide) h0N) gL gD nLD (by omega) hv rfl co_X9 (fT.1 2 hl) (fT.1 7 hd)) rfl rfl (Nat.le_of_ble_eq_true rfl) ⟨by omega, by omega⟩ dX12_player_90 (fun _ _ h => False.elim h) (fun v8 σ' hp8 => ?_)
            obtain ⟨hp8, e8⟩ := hp8
            cases (hp8 : _ = some (Value.int (nI 1)))
            have e9 := congrArg Prod.fst e8
            have q8 := congrArg Prod.snd e8
            dsimp only at q8 e9
            obtain ⟨xt, xk, xg⟩ := r_ext1 (f := σ'.2) (σ0 := σ0) (G := F1) (a := t.1) (D := ad 7) (md := F1 2 0 + nI 1) (fe := fe) hK hb (by omega) fT.1 gT (Or.inr ⟨h0N, rfl⟩)
              ((congrFun q8 _).trans ((zup_ne nLD).trans zup_eq))
              ((congrFun q8 _).trans (zup_eq.trans (by rw [nI_clamp (by omega)]; try rfl)))
              ((congrFun q8 _).trans ((zup_ne (fun e => fT.1 7 hd e.symm)).trans ((zup_ne (fun e => fT.1 2 hl e.symm)).trans hv)))
              (fun q h1 h2 h3 => (congrFun q8 _).trans ((zup_ne h2).trans ((zup_ne h1).trans ((congrFun (rO_zup hK fT.1).symm q).trans (zup_ne h3)))))
            refine V.so (Prod.ext (y := (_, _)) e9 xt) ?_
            have hg9 := xg t.1 (Nat.le_refl _) (fun z => absurd z (by omega))
            exact V.widen (by omega) (by omega) (tail _ _ _ _ xk (r_gr1 hIF1 (by omega) (by rw [fe3]; rfl)) hg9 (by show 1 ≤ N 1 + 1; omega) (fun t' F' hJ h0 hI => ⟨_, rfl, t', _, _, F', rfl, xk, hI, hg9, Or.inr (Or.inr ⟨h0.trans (by rw [frow_ne (by omega), fset_other (by omega), hF1, fset_eq]), ⟨zin_ok (by assumption) (by first | decide | (have := Nat.pow_le_pow_right (n := 2) (by decide) b0; omega)) (by first | decide | (have := Nat.pow_le_pow_right (n := 2) (by decide) b0; omega)), zin_ok (by assumption) (by first | decide | (have := Nat.pow_le_pow_right (n := 2) (by decide) b0; omega)) (by first | decide | (have := Nat.pow_le_pow_right (n := 2) (by decide) b0; omega)), zin_ok (by assumption) (by first | decide | (have := Nat.pow_le_pow_right (n := 2) (by decide) b0; omega)) (by first | decide | (have := Nat.pow_le_pow_right (n := 2) (by decide) b0; omega))⟩, by omega, congrArg nI (show N 1 + 1 - 1 = N 1 by omega), rfl, _, fe, ⟨fe0, fe1, fe2, fe3, fe4⟩, ((((rE.rfl' : rE F F).set hF1 (by omega)).fs.fr).fs.trans hJ).m⟩)⟩))
        · -- 48 false
          refine V_aload_n X dX12_player_51 0 rfl ?_
          refine V_iconst (v := nI 2) X dX12_player_52 (by decide) ?_
          refine V_callV (rest := []) X E.room ml_X12_50 in_X12_refuse (ci := 16) rfl se_X12_refuse (R_recv hK (q := 0) (rlv (by omega)) rfl) (by omega) (by decide) (k_X12_refuse hK hIF1 (nI (2))) rfl rfl (Nat.le_of_ble_eq_true rfl) ⟨by omega, by omega⟩ dX12_player_53 (fun _ _ h => False.elim h) (fun v53 σ' hp53 => ?_)
          obtain ⟨hp53, F15, rfl, hF15⟩ := hp53
          have hKF15 : rM N F F15 := (hJF1 : rM N F F1).set hF15 (by omega)
          have hIF15 := hIF1.st hF15 (by omega)
          cases (hp53 : _ = some (Value.int (nI (0))))
          show V g κ 5 (0) (0) (t, rO g ad N S F15 σ0) 56 [(0, .ref (ad (0))), (1, .int (nI (j3))), (2, .int (a2)), (3, .int (a3))] [.int (nI (0))]
          exact V_iret X E (by omega) (by omega) ⟨_, rfl, _, _, _, _, rfl, hK, hIF15, rGrow.rfl', Or.inr (Or.inl ⟨(by rw [hF15, fset_eq]), ⟨zin_ok (by assumption) (by first | decide | (have := Nat.pow_le_pow_right (n := 2) (by decide) b0; omega)) (by first | decide | (have := Nat.pow_le_pow_right (n := 2) (by decide) b0; omega)), zin_ok (by assumption) (by first | decide | (have := Nat.pow_le_pow_right (n := 2) (by decide) b0; omega)) (by first | decide | (have := Nat.pow_le_pow_right (n := 2) (by decide) b0; omega)), zin_ok (by assumption) (by first | decide | (have := Nat.pow_le_pow_right (n := 2) (by decide) b0; omega)) (by first | decide | (have := Nat.pow_le_pow_right (n := 2) (by decide) b0; omega))⟩, by omega, rfl, hKF15⟩)⟩ dX12_player_56
      · -- no
        show V g κ 5 (0) (0) (t, rO g ad N S F1 σ0) 31 [(0, .ref (ad (0))), (1, .int (nI (j3))), (2, .int (a2)), (3, .int (a3))] [.int (nI (0))]
        refine V_ifneN X (by omega) (tgt := 40) dX12_player_31 (by decide) (fun h16 => absurd h16 (by omega)) (fun h16 => ?_)
        refine V_aload_n X dX12_player_34 0 rfl ?_
        refine V_iconst (v := nI 1) X dX12_player_35 (by decide) ?_
        refine V_callV (rest := []) X E.room ml_X12_50 in_X12_refuse (ci := 16) rfl se_X12_refuse (R_recv hK (q := 0) (rlv (by omega)) rfl) (by omega) (by decide) (k_X12_refuse hK hIF1 (nI (1))) rfl rfl (Nat.le_of_ble_eq_true rfl) ⟨by omega, by omega⟩ dX12_player_36 (fun _ _ h => False.elim h) (fun v36 σ' hp36 => ?_)
        obtain ⟨hp36, F17, rfl, hF17⟩ := hp36
        have hKF17 : rM N F F17 := (hJF1 : rM N F F1).set hF17 (by omega)
        have hIF17 := hIF1.st hF17 (by omega)
        cases (hp36 : _ = some (Value.int (nI (0))))
        show V g κ 5 (0) (0) (t, rO g ad N S F17 σ0) 39 [(0, .ref (ad (0))), (1, .int (nI (j3))), (2, .int (a2)), (3, .int (a3))] [.int (nI (0))]
        exact V_iret X E (by omega) (by omega) ⟨_, rfl, _, _, _, _, rfl, hK, hIF17, rGrow.rfl', Or.inl ⟨(by rw [hF17, fset_eq]), fun q => by first | exact absurd (zin_no (by first | decide | (have := Nat.pow_le_pow_right (n := 2) (by decide) b0; omega)) (by first | decide | (have := Nat.pow_le_pow_right (n := 2) (by decide) b0; omega)) q.1) (by assumption) | exact absurd (zin_no (by first | decide | (have := Nat.pow_le_pow_right (n := 2) (by decide) b0; omega)) (by first | decide | (have := Nat.pow_le_pow_right (n := 2) (by decide) b0; omega)) q.2.1) (by assumption) | exact absurd (zin_no (by first | decide | (have := Nat.pow_le_pow_right (n := 2) (by decide) b0; omega)) (by first | decide | (have := Nat.pow_le_pow_right (n := 2) (by decide) b0; omega)) q.2.2) (by assumption), rfl, hKF17⟩⟩ dX12_player_39
    · -- no
      show V g κ 5 (0) (0) (t, rO g ad N S F1 σ0) 22 [(0, .ref (ad (0))), (1, .int (nI (j3))), (2, .int (a2)), (3, .int (a3))] [.int (nI (0))]
      refine V_ifeqN X (by omega) (tgt := 34) dX12_player_22 (by decide) (fun h18 => ?_) (fun h18 => absurd h18 (by omega))
      refine V_aload_n X dX12_player_34 0 rfl ?_
      refine V_iconst (v := nI 1) X dX12_player_35 (by decide) ?_
      refine V_callV (rest := []) X E.room ml_X12_50 in_X12_refuse (ci := 16) rfl se_X12_refuse (R_recv hK (q := 0) (rlv (by omega)) rfl) (by omega) (by decide) (k_X12_refuse hK hIF1 (nI (1))) rfl rfl (Nat.le_of_ble_eq_true rfl) ⟨by omega, by omega⟩ dX12_player_36 (fun _ _ h => False.elim h) (fun v36 σ' hp36 => ?_)
      obtain ⟨hp36, F19, rfl, hF19⟩ := hp36
      have hKF19 : rM N F F19 := (hJF1 : rM N F F1).set hF19 (by omega)
      have hIF19 := hIF1.st hF19 (by omega)
      cases (hp36 : _ = some (Value.int (nI (0))))
      show V g κ 5 (0) (0) (t, rO g ad N S F19 σ0) 39 [(0, .ref (ad (0))), (1, .int (nI (j3))), (2, .int (a2)), (3, .int (a3))] [.int (nI (0))]
      exact V_iret X E (by omega) (by omega) ⟨_, rfl, _, _, _, _, rfl, hK, hIF19, rGrow.rfl', Or.inl ⟨(by rw [hF19, fset_eq]), fun q => by first | exact absurd (zin_no (by first | decide | (have := Nat.pow_le_pow_right (n := 2) (by decide) b0; omega)) (by first | decide | (have := Nat.pow_le_pow_right (n := 2) (by decide) b0; omega)) q.1) (by assumption) | exact absurd (zin_no (by first | decide | (have := Nat.pow_le_pow_right (n := 2) (by decide) b0; omega)) (by first | decide | (have := Nat.pow_le_pow_right (n := 2) (by decide) b0; omega)) q.2.1) (by assumption) | exact absurd (zin_no (by first | decide | (have := Nat.pow_le_pow_right (n := 2) (by decide) b0; omega)) (by first | decide | (have := Nat.pow_le_pow_right (n := 2) (by decide) b0; omega)) q.2.2) (by assumption), rfl, hKF19⟩⟩ dX12_player_39
  · -- no
    show V g κ 5 (0) (0) (t, rO g ad N S F1 σ0) 12 [(0, .ref (ad (0))), (1, .int (a1)), (2, .int (a2)), (3, .int (a3))] [.int (nI (0))]
    refine V_ifeqN X (by omega) (tgt := 34) dX12_player_12 (by decide) (fun h20 => ?_) (fun h20 => absurd h20 (by omega))
    refine V_aload_n X dX12_player_34 0 rfl ?_
    refine V_iconst (v := nI 1) X dX12_player_35 (by decide) ?_
    refine V_callV (rest := []) X E.room ml_X12_50 in_X12_refuse (ci := 16) rfl se_X12_refuse (R_recv hK (q := 0) (rlv (by omega)) rfl) (by omega) (by decide) (k_X12_refuse hK hIF1 (nI (1))) rfl rfl (Nat.le_of_ble_eq_true rfl) ⟨by omega, by omega⟩ dX12_player_36 (fun _ _ h => False.elim h) (fun v36 σ' hp36 => ?_)
    obtain ⟨hp36, F21, rfl, hF21⟩ := hp36
    have hKF21 : rM N F F21 := (hJF1 : rM N F F1).set hF21 (by omega)
    have hIF21 := hIF1.st hF21 (by omega)
    cases (hp36 : _ = some (Value.int (nI (0))))
    show V g κ 5 (0) (0) (t, rO g ad N S F21 σ0) 39 [(0, .ref (ad (0))), (1, .int (a1)), (2, .int (a2)), (3, .int (a3))] [.int (nI (0))]
    exact V_iret X E (by omega) (by omega) ⟨_, rfl, _, _, _, _, rfl, hK, hIF21, rGrow.rfl', Or.inl ⟨(by rw [hF21, fset_eq]), fun q => by first | exact absurd (zin_no (by first | decide | (have := Nat.pow_le_pow_right (n := 2) (by decide) b0; omega)) (by first | decide | (have := Nat.pow_le_pow_right (n := 2) (by decide) b0; omega)) q.1) (by assumption) | exact absurd (zin_no (by first | decide | (have := Nat.pow_le_pow_right (n := 2) (by decide) b0; omega)) (by first | decide | (have := Nat.pow_le_pow_right (n := 2) (by decide) b0; omega)) q.2.1) (by assumption) | exact absurd (zin_no (by first | decide | (have := Nat.pow_le_pow_right (n := 2) (by decide) b0; omega)) (by first | decide | (have := Nat.pow_le_pow_right (n := 2) (by decide) b0; omega)) q.2.2) (by assumption), rfl, hKF21⟩⟩ dX12_player_39
set_option maxRecDepth 100000 in
set_option maxHeartbeats 4000000 in
theorem k_X12_scene {g : zG} {t : Nat × Nat} {ad N : Nat → Nat} {S : Int64} {σ0 : Nat → Option va_E} {F : Nat → Nat → Int32} (hK : rK g ad N) (hI : rI N F)  (a1 : Int32) (a2 : Int32) (h43 : ad 43 = zEm g) (hEm : zEmC g) : Ct g 16 yX12_scene cX12_scene 4 (some FieldType.int) 2 12 [.ref (ad (0)), .int (a1), .int (a2)] (t, rO g ad N S F σ0) (qAdd g t ad N S σ0 (rAddR 2 6 26 (zin 1 (2 ^ N 0 - 1) a1 ∧ zin 0 9 a2) (fun fe => fe 0 = a1 ∧ fe 1 = a2) N F)) zNo := by
  refine Ct.of (lv := [(0, .ref (ad (0))), (1, .int (a1)), (2, .int (a2))]) (by decide) (Nat.le_of_ble_eq_true rfl) rfl ?_
  intro κ X E B _
  have X : zX g κ RX12 cX12_scene 4 := X
  obtain ⟨b0, b1, b2, b3, b4⟩ := hI.bnd
  have hpw : 1 ≤ 2 ^ N 0 := Nat.one_le_two_pow
  refine V_aload_n X dX12_scene_0 0 rfl ?_
  refine V_iconst (v := nI 0) X dX12_scene_1 (by decide) ?_
  refine R_putf X fl_X12_38 zt_X12 hK (0) (rlv (by omega)) (by omega) rfl (Nat.le_of_ble_eq_true rfl) rfl rfl rfl rfl rfl dX12_scene_2 (fun F1 hF1 => ?_)
  have hJF1 := (rM.rfl' : rM N F F).set hF1 (by omega)
  have hIF1 := hI.st hF1 (by omega)
  refine V_iload_n X dX12_scene_5 1 rfl ?_
  refine V_iconst (v := nI 1) X dX12_scene_6 (by decide) ?_
  refine V_iconst (v := nI 1) X dX12_scene_7 (by decide) ?_
  refine V_aload_n X dX12_scene_8 0 rfl ?_
  refine R_getf X fl_X12_10 hK (0) (rlv (by omega)) rfl rfl dX12_scene_9 ?_
  refine V_callV (rest := [.int (nI (1)), .int (nI (1)), .int (a1)]) X E.room ml_X12_42 in_Jx4a65c_size_8abf5 (ci := 3) rfl se_Jx4a65c_size_8abf5 (rO_list hK (i := 0) (by decide)) (by omega) (by decide) (r_size hK 0 (by decide)) rfl rfl (Nat.le_of_ble_eq_true rfl) ⟨by omega, by omega⟩ dX12_scene_12 (fun _ _ h => False.elim h) (fun v2 σ' hp3 => ?_)
  obtain ⟨hp3, rfl⟩ := hp3
  cases (hp3 : _ = some (Value.int (nI (N 0))))
  show V g κ 4 (0) (0) (t, rO g ad N S F1 σ0) 15 [(0, .ref (ad (0))), (1, .int (a1)), (2, .int (a2))] [.int (nI (N 0)), .int (nI (1)), .int (nI (1)), .int (a1)]
  refine V_ishl1 X (by omega) dX12_scene_15 ?_
  refine V_iconst (v := nI 1) X dX12_scene_16 (by decide) ?_
  refine V_isubN X (by omega) dX12_scene_17 ?_
  refine V_callS (rest := []) X E.room ml_X12_46 st_X12_is (by omega) (by decide) (k_X12_is (σ := (t, rO g ad N S F1 σ0)) (a1) (nI (1)) (nI (2 ^ (N 0) - 1))) rfl rfl (Nat.le_of_ble_eq_true rfl) ⟨by omega, by omega⟩ dX12_scene_18 (fun _ _ h => False.elim h) (fun v18 σ' hp18 => ?_)
  obtain ⟨hp18, rfl⟩ := hp18
  rcases hp18 with ⟨rfl, z4⟩ | ⟨rfl, z4⟩
  · -- yes
    obtain ⟨mm, emm, hm1, hm2⟩ := zspan z4.1 z4.2 (by decide) (by have := Nat.pow_le_pow_right (n := 2) (by decide) b0; omega)
    subst emm
    show V g κ 4 (0) (0) (t, rO g ad N S F1 σ0) 21 [(0, .ref (ad (0))), (1, .int (nI (mm))), (2, .int (a2))] [.int (nI (1))]
    refine V_ifeqN X (by omega) (tgt := 34) dX12_scene_21 (by decide) (fun h5 => absurd h5 (by omega)) (fun h5 => ?_)
    refine V_iload_n X dX12_scene_24 2 rfl ?_
    refine V_iconst (v := nI 0) X dX12_scene_25 (by decide) ?_
    refine V_bipush (v := nI 9) X dX12_scene_26 (by decide) ?_
    refine V_callS (rest := []) X E.room ml_X12_46 st_X12_is (by omega) (by decide) (k_X12_is (σ := (t, rO g ad N S F1 σ0)) (a2) (nI (0)) (nI (9))) rfl rfl (Nat.le_of_ble_eq_true rfl) ⟨by omega, by omega⟩ dX12_scene_28 (fun _ _ h => False.elim h) (fun v28 σ' hp28 => ?_)
    obtain ⟨hp28, rfl⟩ := hp28
    rcases hp28 with ⟨rfl, z6⟩ | ⟨rfl, z6⟩
    · -- yes
      obtain ⟨j7, ej7, -, uj7⟩ := zin_of (Int32.not_lt.mpr z6.1) z6.2 (by decide) (by decide)
      subst ej7
      show V g κ 4 (0) (0) (t, rO g ad N S F1 σ0) 31 [(0, .ref (ad (0))), (1, .int (nI (mm))), (2, .int (nI (j7)))] [.int (nI (1))]
      refine V_ifneN X (by omega) (tgt := 40) dX12_scene_31 (by decide) (fun h8 => ?_) (fun h8 => absurd h8 (by omega))
      refine V_aload_n X dX12_scene_40 0 rfl ?_
      refine R_getf X fl_X12_19 hK (0) (rlv (by omega)) rfl rfl dX12_scene_41 ?_
      refine V_callV (rest := []) X E.room ml_X12_42 in_Jx4a65c_size_8abf5 (ci := 3) rfl se_Jx4a65c_size_8abf5 (rO_list hK (i := 2) (by decide)) (by omega) (by decide) (r_size hK 2 (by decide)) rfl rfl (Nat.le_of_ble_eq_true rfl) ⟨by omega, by omega⟩ dX12_scene_44 (fun _ _ h => False.elim h) (fun v9 σ' hp10 => ?_)
      obtain ⟨hp10, rfl⟩ := hp10
      cases (hp10 : _ = some (Value.int (nI (N 2))))
      show V g κ 4 (0) (0) (t, rO g ad N S F1 σ0) 47 [(0, .ref (ad (0))), (1, .int (nI (mm))), (2, .int (nI (j7)))] [.int (nI (N 2))]
      refine V_bipush (v := nI 6) X dX12_scene_47 (by decide) ?_
      refine V_icmpneN X (by omega) (by omega) (tgt := 58) dX12_scene_49 (by decide) (fun h11 => ?_) (fun h11 => ?_)
      · -- 49 true
        have tail : ∀ (t9 : Nat × Nat) (ad9 N9 : Nat → Nat) (F9 : Nat → Nat → Int32), rK g ad9 N9 → rI0 N9 F9 → rGrow ad ad9 N N9 t.1 → 1 ≤ N9 2 → (∀ (t' : Nat × Nat) (F' : Nat → Nat → Int32), rE (rAb 2 F9) F' → F' 0 0 = F9 0 0 → rI N9 F' → (qAdd g t ad N S σ0 (rAddR 2 6 26 (zin 1 (2 ^ N 0 - 1) (nI (mm)) ∧ zin 0 9 (nI (j7))) (fun fe => fe 0 = (nI (mm)) ∧ fe 1 = (nI (j7))) N F)) (some (.int (nI (N9 2 - 1)))) (t', rO g ad9 N9 S F' σ0)) → V g κ  4 (2) (12) (t9, rO g ad9 N9 S F9 σ0) 84 [(3, .ref (t.1)), (0, .ref (ad (0))), (1, .int (nI (mm))), (2, .int (nI (j7)))] [.int (nI (1))] := by
          intro tz ad N F hK hI9 hg hn1 hP9
          rw [← hg.1]
          obtain ⟨⟨b0, b1, b2, b3, b4⟩, -⟩ := id hI9
          generalize h1e : t.1 = T9
          show V g κ 4 (2) (12) (tz, rO g ad N S F σ0) 84 [(3, .ref (T9)), (0, .ref (ad (0))), (1, .int (nI (mm))), (2, .int (nI (j7)))] [.int (nI (1))]
          refine V_pop X dX12_scene_84 rfl ?_
          refine V_aload_n X dX12_scene_85 1 rfl ?_
          refine V_iconst (v := nI 0) X dX12_scene_86 (by decide) ?_
          refine R_putf X fl_X12_70 zt_X12 hK (0) (rlv (by omega)) (by omega) rfl (Nat.le_of_ble_eq_true rfl) rfl rfl rfl rfl rfl dX12_scene_87 (fun F12 hF12 => ?_)
          have hJF12 : rE (fset F 0 11 (nI 0)) F12 := by rw [hF12]; exact rE.rfl'
          have hIF12 := hI9.unk hF12 (by decide)
          refine V_aload_n X dX12_scene_90 1 rfl ?_
          refine R_getf X fl_X12_19 hK (0) (rlv (by omega)) rfl rfl dX12_scene_91 ?_
          refine V_callV (rest := []) X E.room ml_X12_42 in_Jx4a65c_size_8abf5 (ci := 3) rfl se_Jx4a65c_size_8abf5 (rO_list hK (i := 2) (by decide)) (by omega) (by decide) (r_size hK 2 (by decide)) rfl rfl (Nat.le_of_ble_eq_true rfl) ⟨by omega, by omega⟩ dX12_scene_94 (fun _ _ h => False.elim h) (fun v13 σ' hp14 => ?_)
          obtain ⟨hp14, rfl⟩ := hp14
          cases (hp14 : _ = some (Value.int (nI (N 2))))
          show V g κ 4 (2) (12) (tz, rO g ad N S F12 σ0) 97 [(3, .ref (T9)), (0, .ref (ad (0))), (1, .int (nI (mm))), (2, .int (nI (j7)))] [.int (nI (N 2))]
          refine V_iconst (v := nI 1) X dX12_scene_97 (by decide) ?_
          refine V_isubN X (by omega) dX12_scene_98 ?_
          exact V_iret X E (by omega) (by omega) (hP9 _ _ hJF12 (by rw [hF12, fset_ne (by omega)]) hIF12) dX12_scene_99
        refine V.fr (fun hfr => ?_)
        have fT := rFresh (t := t) hK hfr (k := t.1) (Nat.le_refl _)
        have fD := rFresh (t := t) hK hfr (k := t.1 + 1) (by omega)
        have gT : g.2.1.size ≤ t.1 := (by have h0 := hK.2 0 (rlv (by omega)) (by decide); have h1 : ad 0 < t.1 := hfr _ _ (rO_at hK (rlv (by omega))); omega)
        refine V_new X E.room (ci := 14) (fs := [.int (nI 0), .int (nI 0)]) rfl zi_X10 tyX10 tyX10_ok cl_X12_85 mk_X10 nz_X10 (by intro j hj; match j, hj with | 0, _ => rfl | 1, _ => rfl | i + 2, hj => exact absurd hj (by omega)) (by omega) (by omega) dX12_scene_58 ?_
        refine V_dup X dX12_scene_61 rfl ?_
        refine V_callIN (rest := [.ref t.1]) X E.room ml_X12_87 in_X10_init rfl (by omega) (by decide) k_X10_init rfl rfl (Nat.le_of_ble_eq_true rfl) ⟨by omega, by omega⟩ dX12_scene_62 (fun _ _ h => False.elim h) (fun v9 σ' hp9 => ?_)
        obtain ⟨hp9, rfl⟩ := hp9
        cases (hp9 : _ = none)
        refine V_astore_n X [(3, .ref (t.1)), (0, .ref (ad (0))), (1, .int (nI (mm))), (2, .int (nI (j7)))] dX12_scene_65 (by decide) rfl ?_
        refine V_aload_n X dX12_scene_66 0 rfl ?_
        refine V_iload_n X dX12_scene_67 2 rfl ?_
        refine V_putf X fl_X12_88 zt_X10 zup_eq gT (Nat.le_of_ble_eq_true rfl) rfl rfl rfl rfl dX12_scene_68 ?_
        refine V_aload_n X dX12_scene_71 0 rfl ?_
        refine V_iload_n X dX12_scene_72 3 rfl ?_
        refine V_putf X fl_X12_90 zt_X10 zup_eq gT (Nat.le_of_ble_eq_true rfl) rfl rfl rfl rfl dX12_scene_73 ?_
        obtain ⟨fe, hfe⟩ : ∃ fe : Nat → Int32, fe = (fun z => match z with | 0 => nI (mm) | 1 => nI (j7) | _ => nI 0) := ⟨_, rfl⟩
        have fe0 : fe 0 = nI (mm) := congrFun hfe 0
        have fe1 : fe 1 = nI (j7) := congrFun hfe 1
        refine V.so (σ' := ((t.1 + 1, t.2 + 2), rO g ad N S F1 (zup σ0 t.1 (.inr (14, [.int (fe 0), .int (fe 1)]))))) (congrArg (Prod.mk _) ((zup_zup.trans (zup_zup)).trans ((rO_zup hK fT.1).trans (by rw [fe0, fe1]; rfl)))) ?_
        refine V_aload_n X dX12_scene_76 1 rfl ?_
        refine R_getf X fl_X12_19 hK (0) (rlv (by omega)) rfl rfl dX12_scene_77 ?_
        refine V_aload_n X dX12_scene_80 0 rfl ?_
        have hv := (rO_out (S := S) (G := F1) (g := g) (σ0 := zup σ0 t.1 (.inr (14, [.int (fe 0), .int (fe 1)]))) fT.1).trans zup_eq
        have hl : rLive N 3 = true := rlv (by omega)
        have gL : g.2.1.size ≤ ad 3 := hK.2 3 hl (by decide)
        have hLE : ad 3 ≠ zEm g := by have h9 := hEm.lt; omega
        have hEv : zEm g ≠ t.1 := by have h9 := hEm.lt; omega
        have hb := And.intro b0 (And.intro b1 (And.intro b2 (And.intro b3 b4)))
        rcases Nat.eq_zero_or_pos (N 2) with h0N | h0N
        · -- the first
          refine V_callV (rest := []) X E.room ml_X12_66 in_Jx4a65c_add_9ea2d (ci := 3) rfl se_Jx4a65c_add_9ea2d (rO_list hK (i := 2) (by decide)) (by omega) (by decide) (k_add_0 (t := (t.1 + 1, t.2 + 2)) (rO_list0 hK h43 (i := 2) (by decide) h0N) gL hEm hLE hv rfl co_X10 (fT.1 3 hl) hEv) rfl rfl (Nat.le_of_ble_eq_true rfl) ⟨by omega, by omega⟩ dX12_scene_81 (fun _ _ h => False.elim h) (fun v8 σ' hp8 => ?_)
          obtain ⟨hp8, e8⟩ := hp8
          cases (hp8 : _ = some (Value.int (nI 1)))
          have e9 := congrArg Prod.fst e8
          have q8 := congrArg Prod.snd e8
          dsimp only at q8 e9
          have nLD : ad 3 ≠ t.1 + 1 := fD.1 3 hl
          obtain ⟨xt, xk, xg⟩ := r_ext2 (f := σ'.2) (σ0 := σ0) (G := F1) (a := t.1) (D := t.1 + 1) (md := F1 3 0 + nI 1) (fe := fe) hK hb (by omega) fT.1 gT (Or.inl ⟨h0N, fD.1, by omega, by omega⟩)
            ((congrFun q8 _).trans ((zup_ne nLD).trans (zup_eq.trans (by rw [h0N]))))
            ((congrFun q8 _).trans (zup_eq.trans (by rw [h0N, rEls_zero]; try rfl)))
            ((congrFun q8 _).trans ((zup_ne (by omega)).trans ((zup_ne (fun e => fT.1 3 hl e.symm)).trans hv)))
            (fun q h1 h2 h3 => (congrFun q8 _).trans ((zup_ne h2).trans ((zup_ne h1).trans ((congrFun (rO_zup hK fT.1).symm q).trans (zup_ne h3)))))
          refine V.so (Prod.ext (y := (_, _)) e9 xt) ?_
          have hg9 := xg t.1 (Nat.le_refl _) (fun _ => Nat.le_succ _)
          exact tail _ _ _ _ xk (r_gr2 hIF1 (by omega) (m := mm) (by omega) fe0) hg9 (by show 1 ≤ N 2 + 1; omega) (fun t' F' hJ h0 hI => ⟨_, rfl, t', _, _, F', rfl, xk, hI, hg9, Or.inr (Or.inr ⟨h0.trans (by rw [frow_ne (by omega), fset_other (by omega), hF1, fset_eq]), ⟨zin_ok (by assumption) (by first | decide | (have := Nat.pow_le_pow_right (n := 2) (by decide) b0; omega)) (by first | decide | (have := Nat.pow_le_pow_right (n := 2) (by decide) b0; omega)), zin_ok (by assumption) (by first | decide | (have := Nat.pow_le_pow_right (n := 2) (by decide) b0; omega)) (by first | decide | (have := Nat.pow_le_pow_right (n := 2) (by decide) b0; omega))⟩, by omega, congrArg nI (show N 2 + 1 - 1 = N 2 by omega), rfl, _, fe, ⟨fe0, fe1⟩, ((((rE.rfl' : rE F F).set hF1 (by omega)).fs.fr).fs.trans hJ).m⟩)⟩)
        · -- one more
          have hd : rLive N 8 = true := rlv (by omega)
          have gD : g.2.1.size ≤ ad 8 := hK.2 8 hd (by decide)
          have nLD : ad 3 ≠ ad 8 := fun e => absurd (hK.1 3 8 hl hd e) (by decide)
          refine V_callV (rest := []) X E.room ml_X12_66 in_Jx4a65c_add_9ea2d (ci := 3) rfl se_Jx4a65c_add_9ea2d (rO_list hK (i := 2) (by decide)) (by omega) (by decide) (k_add_n (t := (t.1 + 1, t.2 + 2)) (rO_listn hK (i := 2) (by decide) h0N) (rO_data hK (i := 2) (by decide) h0N) gL gD nLD (by omega) hv rfl co_X10 (fT.1 3 hl) (fT.1 8 hd)) rfl rfl (Nat.le_of_ble_eq_true rfl) ⟨by omega, by omega⟩ dX12_scene_81 (fun _ _ h => False.elim h) (fun v8 σ' hp8 => ?_)
          obtain ⟨hp8, e8⟩ := hp8
          cases (hp8 : _ = some (Value.int (nI 1)))
          have e9 := congrArg Prod.fst e8
          have q8 := congrArg Prod.snd e8
          dsimp only at q8 e9
          obtain ⟨xt, xk, xg⟩ := r_ext2 (f := σ'.2) (σ0 := σ0) (G := F1) (a := t.1) (D := ad 8) (md := F1 3 0 + nI 1) (fe := fe) hK hb (by omega) fT.1 gT (Or.inr ⟨h0N, rfl⟩)
            ((congrFun q8 _).trans ((zup_ne nLD).trans zup_eq))
            ((congrFun q8 _).trans (zup_eq.trans (by rw [nI_clamp (by omega)]; try rfl)))
            ((congrFun q8 _).trans ((zup_ne (fun e => fT.1 8 hd e.symm)).trans ((zup_ne (fun e => fT.1 3 hl e.symm)).trans hv)))
            (fun q h1 h2 h3 => (congrFun q8 _).trans ((zup_ne h2).trans ((zup_ne h1).trans ((congrFun (rO_zup hK fT.1).symm q).trans (zup_ne h3)))))
          refine V.so (Prod.ext (y := (_, _)) e9 xt) ?_
          have hg9 := xg t.1 (Nat.le_refl _) (fun z => absurd z (by omega))
          exact V.widen (by omega) (by omega) (tail _ _ _ _ xk (r_gr2 hIF1 (by omega) (m := mm) (by omega) fe0) hg9 (by show 1 ≤ N 2 + 1; omega) (fun t' F' hJ h0 hI => ⟨_, rfl, t', _, _, F', rfl, xk, hI, hg9, Or.inr (Or.inr ⟨h0.trans (by rw [frow_ne (by omega), fset_other (by omega), hF1, fset_eq]), ⟨zin_ok (by assumption) (by first | decide | (have := Nat.pow_le_pow_right (n := 2) (by decide) b0; omega)) (by first | decide | (have := Nat.pow_le_pow_right (n := 2) (by decide) b0; omega)), zin_ok (by assumption) (by first | decide | (have := Nat.pow_le_pow_right (n := 2) (by decide) b0; omega)) (by first | decide | (have := Nat.pow_le_pow_right (n := 2) (by decide) b0; omega))⟩, by omega, congrArg nI (show N 2 + 1 - 1 = N 2 by omega), rfl, _, fe, ⟨fe0, fe1⟩, ((((rE.rfl' : rE F F).set hF1 (by omega)).fs.fr).fs.trans hJ).m⟩)⟩))
      · -- 49 false
        refine V_aload_n X dX12_scene_52 0 rfl ?_
        refine V_iconst (v := nI 2) X dX12_scene_53 (by decide) ?_
        refine V_callV (rest := []) X E.room ml_X12_50 in_X12_refuse (ci := 16) rfl se_X12_refuse (R_recv hK (q := 0) (rlv (by omega)) rfl) (by omega) (by decide) (k_X12_refuse hK hIF1 (nI (2))) rfl rfl (Nat.le_of_ble_eq_true rfl) ⟨by omega, by omega⟩ dX12_scene_54 (fun _ _ h => False.elim h) (fun v54 σ' hp54 => ?_)
        obtain ⟨hp54, F15, rfl, hF15⟩ := hp54
        have hKF15 : rM N F F15 := (hJF1 : rM N F F1).set hF15 (by omega)
        have hIF15 := hIF1.st hF15 (by omega)
        cases (hp54 : _ = some (Value.int (nI (0))))
        show V g κ 4 (0) (0) (t, rO g ad N S F15 σ0) 57 [(0, .ref (ad (0))), (1, .int (nI (mm))), (2, .int (nI (j7)))] [.int (nI (0))]
        exact V_iret X E (by omega) (by omega) ⟨_, rfl, _, _, _, _, rfl, hK, hIF15, rGrow.rfl', Or.inr (Or.inl ⟨(by rw [hF15, fset_eq]), ⟨zin_ok (by assumption) (by first | decide | (have := Nat.pow_le_pow_right (n := 2) (by decide) b0; omega)) (by first | decide | (have := Nat.pow_le_pow_right (n := 2) (by decide) b0; omega)), zin_ok (by assumption) (by first | decide | (have := Nat.pow_le_pow_right (n := 2) (by decide) b0; omega)) (by first | decide | (have := Nat.pow_le_pow_right (n := 2) (by decide) b0; omega))⟩, by omega, rfl, hKF15⟩)⟩ dX12_scene_57
    · -- no
      show V g κ 4 (0) (0) (t, rO g ad N S F1 σ0) 31 [(0, .ref (ad (0))), (1, .int (nI (mm))), (2, .int (a2))] [.int (nI (0))]
      refine V_ifneN X (by omega) (tgt := 40) dX12_scene_31 (by decide) (fun h16 => absurd h16 (by omega)) (fun h16 => ?_)
      refine V_aload_n X dX12_scene_34 0 rfl ?_
      refine V_iconst (v := nI 1) X dX12_scene_35 (by decide) ?_
      refine V_callV (rest := []) X E.room ml_X12_50 in_X12_refuse (ci := 16) rfl se_X12_refuse (R_recv hK (q := 0) (rlv (by omega)) rfl) (by omega) (by decide) (k_X12_refuse hK hIF1 (nI (1))) rfl rfl (Nat.le_of_ble_eq_true rfl) ⟨by omega, by omega⟩ dX12_scene_36 (fun _ _ h => False.elim h) (fun v36 σ' hp36 => ?_)
      obtain ⟨hp36, F17, rfl, hF17⟩ := hp36
      have hKF17 : rM N F F17 := (hJF1 : rM N F F1).set hF17 (by omega)
      have hIF17 := hIF1.st hF17 (by omega)
      cases (hp36 : _ = some (Value.int (nI (0))))
      show V g κ 4 (0) (0) (t, rO g ad N S F17 σ0) 39 [(0, .ref (ad (0))), (1, .int (nI (mm))), (2, .int (a2))] [.int (nI (0))]
      exact V_iret X E (by omega) (by omega) ⟨_, rfl, _, _, _, _, rfl, hK, hIF17, rGrow.rfl', Or.inl ⟨(by rw [hF17, fset_eq]), fun q => by first | exact absurd (zin_no (by first | decide | (have := Nat.pow_le_pow_right (n := 2) (by decide) b0; omega)) (by first | decide | (have := Nat.pow_le_pow_right (n := 2) (by decide) b0; omega)) q.1) (by assumption) | exact absurd (zin_no (by first | decide | (have := Nat.pow_le_pow_right (n := 2) (by decide) b0; omega)) (by first | decide | (have := Nat.pow_le_pow_right (n := 2) (by decide) b0; omega)) q.2) (by assumption), rfl, hKF17⟩⟩ dX12_scene_39
  · -- no
    show V g κ 4 (0) (0) (t, rO g ad N S F1 σ0) 21 [(0, .ref (ad (0))), (1, .int (a1)), (2, .int (a2))] [.int (nI (0))]
    refine V_ifeqN X (by omega) (tgt := 34) dX12_scene_21 (by decide) (fun h18 => ?_) (fun h18 => absurd h18 (by omega))
    refine V_aload_n X dX12_scene_34 0 rfl ?_
    refine V_iconst (v := nI 1) X dX12_scene_35 (by decide) ?_
    refine V_callV (rest := []) X E.room ml_X12_50 in_X12_refuse (ci := 16) rfl se_X12_refuse (R_recv hK (q := 0) (rlv (by omega)) rfl) (by omega) (by decide) (k_X12_refuse hK hIF1 (nI (1))) rfl rfl (Nat.le_of_ble_eq_true rfl) ⟨by omega, by omega⟩ dX12_scene_36 (fun _ _ h => False.elim h) (fun v36 σ' hp36 => ?_)
    obtain ⟨hp36, F19, rfl, hF19⟩ := hp36
    have hKF19 : rM N F F19 := (hJF1 : rM N F F1).set hF19 (by omega)
    have hIF19 := hIF1.st hF19 (by omega)
    cases (hp36 : _ = some (Value.int (nI (0))))
    show V g κ 4 (0) (0) (t, rO g ad N S F19 σ0) 39 [(0, .ref (ad (0))), (1, .int (a1)), (2, .int (a2))] [.int (nI (0))]
    exact V_iret X E (by omega) (by omega) ⟨_, rfl, _, _, _, _, rfl, hK, hIF19, rGrow.rfl', Or.inl ⟨(by rw [hF19, fset_eq]), fun q => by first | exact absurd (zin_no (by first | decide | (have := Nat.pow_le_pow_right (n := 2) (by decide) b0; omega)) (by first | decide | (have := Nat.pow_le_pow_right (n := 2) (by decide) b0; omega)) q.1) (by assumption) | exact absurd (zin_no (by first | decide | (have := Nat.pow_le_pow_right (n := 2) (by decide) b0; omega)) (by first | decide | (have := Nat.pow_le_pow_right (n := 2) (by decide) b0; omega)) q.2) (by assumption), rfl, hKF19⟩⟩ dX12_scene_39
set_option maxRecDepth 100000 in
set_option maxHeartbeats 4000000 in
theorem k_X12_coat {g : zG} {t : Nat × Nat} {ad N : Nat → Nat} {S : Int64} {σ0 : Nat → Option va_E} {F : Nat → Nat → Int32} (hK : rK g ad N) (hI : rI N F)  (a1 : Int32) (a2 : Int32) (a3 : Int32) (h43 : ad 43 = zEm g) (hEm : zEmC g) : Ct g 16 yX12_coat cX12_coat 5 (some FieldType.int) 2 14 [.ref (ad (0)), .int (a1), .int (a2), .int (a3)] (t, rO g ad N S F σ0) (qAdd g t ad N S σ0 (rAddR 3 6 32 (zin 0 3 a1 ∧ zin 1 9 a2 ∧ zin 1 99 a3) (fun fe => fe 0 = a1 ∧ fe 1 = a2 ∧ fe 2 = a3 ∧ fe 3 = nI 0) N F)) zNo := by
  refine Ct.of (lv := [(0, .ref (ad (0))), (1, .int (a1)), (2, .int (a2)), (3, .int (a3))]) (by decide) (Nat.le_of_ble_eq_true rfl) rfl ?_
  intro κ X E B _
  have X : zX g κ RX12 cX12_coat 5 := X
  obtain ⟨b0, b1, b2, b3, b4⟩ := hI.bnd
  have hpw : 1 ≤ 2 ^ N 0 := Nat.one_le_two_pow
  refine V_aload_n X dX12_coat_0 0 rfl ?_
  refine V_iconst (v := nI 0) X dX12_coat_1 (by decide) ?_
  refine R_putf X fl_X12_38 zt_X12 hK (0) (rlv (by omega)) (by omega) rfl (Nat.le_of_ble_eq_true rfl) rfl rfl rfl rfl rfl dX12_coat_2 (fun F1 hF1 => ?_)
  have hJF1 := (rM.rfl' : rM N F F).set hF1 (by omega)
  have hIF1 := hI.st hF1 (by omega)
  refine V_iload_n X dX12_coat_5 1 rfl ?_
  refine V_iconst (v := nI 0) X dX12_coat_6 (by decide) ?_
  refine V_iconst (v := nI 3) X dX12_coat_7 (by decide) ?_
  refine V_callS (rest := []) X E.room ml_X12_46 st_X12_is (by omega) (by decide) (k_X12_is (σ := (t, rO g ad N S F1 σ0)) (a1) (nI (0)) (nI (3))) rfl rfl (Nat.le_of_ble_eq_true rfl) ⟨by omega, by omega⟩ dX12_coat_8 (fun _ _ h => False.elim h) (fun v8 σ' hp8 => ?_)
  obtain ⟨hp8, rfl⟩ := hp8
  rcases hp8 with ⟨rfl, z2⟩ | ⟨rfl, z2⟩
  · -- yes
    obtain ⟨j3, ej3, -, uj3⟩ := zin_of (Int32.not_lt.mpr z2.1) z2.2 (by decide) (by decide)
    subst ej3
    show V g κ 5 (0) (0) (t, rO g ad N S F1 σ0) 11 [(0, .ref (ad (0))), (1, .int (nI (j3))), (2, .int (a2)), (3, .int (a3))] [.int (nI (1))]
    refine V_ifeqN X (by omega) (tgt := 34) dX12_coat_11 (by decide) (fun h4 => absurd h4 (by omega)) (fun h4 => ?_)
    refine V_iload_n X dX12_coat_14 2 rfl ?_
    refine V_iconst (v := nI 1) X dX12_coat_15 (by decide) ?_
    refine V_bipush (v := nI 9) X dX12_coat_16 (by decide) ?_
    refine V_callS (rest := []) X E.room ml_X12_46 st_X12_is (by omega) (by decide) (k_X12_is (σ := (t, rO g ad N S F1 σ0)) (a2) (nI (1)) (nI (9))) rfl rfl (Nat.le_of_ble_eq_true rfl) ⟨by omega, by omega⟩ dX12_coat_18 (fun _ _ h => False.elim h) (fun v18 σ' hp18 => ?_)
    obtain ⟨hp18, rfl⟩ := hp18
    rcases hp18 with ⟨rfl, z5⟩ | ⟨rfl, z5⟩
    · -- yes
      show V g κ 5 (0) (0) (t, rO g ad N S F1 σ0) 21 [(0, .ref (ad (0))), (1, .int (nI (j3))), (2, .int (a2)), (3, .int (a3))] [.int (nI (1))]
      refine V_ifeqN X (by omega) (tgt := 34) dX12_coat_21 (by decide) (fun h6 => absurd h6 (by omega)) (fun h6 => ?_)
      refine V_iload_n X dX12_coat_24 3 rfl ?_
      refine V_iconst (v := nI 1) X dX12_coat_25 (by decide) ?_
      refine V_bipush (v := nI 99) X dX12_coat_26 (by decide) ?_
      refine V_callS (rest := []) X E.room ml_X12_46 st_X12_is (by omega) (by decide) (k_X12_is (σ := (t, rO g ad N S F1 σ0)) (a3) (nI (1)) (nI (99))) rfl rfl (Nat.le_of_ble_eq_true rfl) ⟨by omega, by omega⟩ dX12_coat_28 (fun _ _ h => False.elim h) (fun v28 σ' hp28 => ?_)
      obtain ⟨hp28, rfl⟩ := hp28
      rcases hp28 with ⟨rfl, z7⟩ | ⟨rfl, z7⟩
      · -- yes
        show V g κ 5 (0) (0) (t, rO g ad N S F1 σ0) 31 [(0, .ref (ad (0))), (1, .int (nI (j3))), (2, .int (a2)), (3, .int (a3))] [.int (nI (1))]
        refine V_ifneN X (by omega) (tgt := 40) dX12_coat_31 (by decide) (fun h8 => ?_) (fun h8 => absurd h8 (by omega))
        refine V_aload_n X dX12_coat_40 0 rfl ?_
        refine R_getf X fl_X12_22 hK (0) (rlv (by omega)) rfl rfl dX12_coat_41 ?_
        refine V_callV (rest := []) X E.room ml_X12_42 in_Jx4a65c_size_8abf5 (ci := 3) rfl se_Jx4a65c_size_8abf5 (rO_list hK (i := 3) (by decide)) (by omega) (by decide) (r_size hK 3 (by decide)) rfl rfl (Nat.le_of_ble_eq_true rfl) ⟨by omega, by omega⟩ dX12_coat_44 (fun _ _ h => False.elim h) (fun v9 σ' hp10 => ?_)
        obtain ⟨hp10, rfl⟩ := hp10
        cases (hp10 : _ = some (Value.int (nI (N 3))))
        show V g κ 5 (0) (0) (t, rO g ad N S F1 σ0) 47 [(0, .ref (ad (0))), (1, .int (nI (j3))), (2, .int (a2)), (3, .int (a3))] [.int (nI (N 3))]
        refine V_bipush (v := nI 6) X dX12_coat_47 (by decide) ?_
        refine V_icmpneN X (by omega) (by omega) (tgt := 58) dX12_coat_49 (by decide) (fun h11 => ?_) (fun h11 => ?_)
        · -- 49 true
          have tail : ∀ (t9 : Nat × Nat) (ad9 N9 : Nat → Nat) (F9 : Nat → Nat → Int32), rK g ad9 N9 → rI N9 F9 → rGrow ad ad9 N N9 t.1 → 1 ≤ N9 3 → (∀ (t' : Nat × Nat) (F' : Nat → Nat → Int32), rE (rAb 3 F9) F' → F' 0 0 = F9 0 0 → rI N9 F' → (qAdd g t ad N S σ0 (rAddR 3 6 32 (zin 0 3 (nI (j3)) ∧ zin 1 9 (a2) ∧ zin 1 99 (a3)) (fun fe => fe 0 = (nI (j3)) ∧ fe 1 = (a2) ∧ fe 2 = (a3) ∧ fe 3 = nI 0) N F)) (some (.int (nI (N9 3 - 1)))) (t', rO g ad9 N9 S F' σ0)) → V g κ  5 (2) (14) (t9, rO g ad9 N9 S F9 σ0) 94 [(4, .ref (t.1)), (0, .ref (ad (0))), (1, .int (nI (j3))), (2, .int (a2)), (3, .int (a3))] [.int (nI (1))] := by
            intro tz ad N F hK hI9 hg hn1 hP9
            rw [← hg.1]
            obtain ⟨⟨b0, b1, b2, b3, b4⟩, -⟩ := id hI9
            generalize h1e : t.1 = T9
            show V g κ 5 (2) (14) (tz, rO g ad N S F σ0) 94 [(4, .ref (T9)), (0, .ref (ad (0))), (1, .int (nI (j3))), (2, .int (a2)), (3, .int (a3))] [.int (nI (1))]
            refine V_pop X dX12_coat_94 rfl ?_
            refine V_aload_n X dX12_coat_95 1 rfl ?_
            refine R_getf X fl_X12_22 hK (0) (rlv (by omega)) rfl rfl dX12_coat_96 ?_
            refine V_callV (rest := []) X E.room ml_X12_42 in_Jx4a65c_size_8abf5 (ci := 3) rfl se_Jx4a65c_size_8abf5 (rO_list hK (i := 3) (by decide)) (by omega) (by decide) (r_size hK 3 (by decide)) rfl rfl (Nat.le_of_ble_eq_true rfl) ⟨by omega, by omega⟩ dX12_coat_99 (fun _ _ h => False.elim h) (fun v12 σ' hp13 => ?_)
            obtain ⟨hp13, rfl⟩ := hp13
            cases (hp13 : _ = some (Value.int (nI (N 3))))
            show V g κ 5 (2) (14) (tz, rO g ad N S F σ0) 102 [(4, .ref (T9)), (0, .ref (ad (0))), (1, .int (nI (j3))), (2, .int (a2)), (3, .int (a3))] [.int (nI (N 3))]
            refine V_iconst (v := nI 1) X dX12_coat_102 (by decide) ?_
            refine V_isubN X (by omega) dX12_coat_103 ?_
            exact V_iret X E (by omega) (by omega) (hP9 _ _ rE.rfl' rfl hI9) dX12_coat_104
          refine V.fr (fun hfr => ?_)
          have fT := rFresh (t := t) hK hfr (k := t.1) (Nat.le_refl _)
          have fD := rFresh (t := t) hK hfr (k := t.1 + 1) (by omega)
          have gT : g.2.1.size ≤ t.1 := (by have h0 := hK.2 0 (rlv (by omega)) (by decide); have h1 : ad 0 < t.1 := hfr _ _ (rO_at hK (rlv (by omega))); omega)
          refine V_new X E.room (ci := 11) (fs := [.int (nI 0), .int (nI 0), .int (nI 0), .int (nI 0)]) rfl zi_X7 tyX7 tyX7_ok cl_X12_124 mk_X7 nz_X7 (by intro j hj; match j, hj with | 0, _ => rfl | 1, _ => rfl | 2, _ => rfl | 3, _ => rfl | i + 4, hj => exact absurd hj (by omega)) (by omega) (by omega) dX12_coat_58 ?_
          refine V_dup X dX12_coat_61 rfl ?_
          refine V_callIN (rest := [.ref t.1]) X E.room ml_X12_126 in_X7_init rfl (by omega) (by decide) k_X7_init rfl rfl (Nat.le_of_ble_eq_true rfl) ⟨by omega, by omega⟩ dX12_coat_62 (fun _ _ h => False.elim h) (fun v9 σ' hp9 => ?_)
          obtain ⟨hp9, rfl⟩ := hp9
          cases (hp9 : _ = none)
          refine V_astore X [(4, .ref (t.1)), (0, .ref (ad (0))), (1, .int (nI (j3))), (2, .int (a2)), (3, .int (a3))] dX12_coat_65 (by decide) rfl ?_
          refine V_aload X dX12_coat_67 0 rfl ?_
          refine V_iload_n X dX12_coat_69 2 rfl ?_
          refine V_putf X fl_X12_127 zt_X7 zup_eq gT (Nat.le_of_ble_eq_true rfl) rfl rfl rfl rfl dX12_coat_70 ?_
          refine V_aload X dX12_coat_73 0 rfl ?_
          refine V_iload_n X dX12_coat_75 3 rfl ?_
          refine V_putf X fl_X12_128 zt_X7 zup_eq gT (Nat.le_of_ble_eq_true rfl) rfl rfl rfl rfl dX12_coat_76 ?_
          refine V_aload X dX12_coat_79 0 rfl ?_
          refine V_iload_n X dX12_coat_81 4 rfl ?_
          refine V_putf X fl_X12_129 zt_X7 zup_eq gT (Nat.le_of_ble_eq_true rfl) rfl rfl rfl rfl dX12_coat_82 ?_
          obtain ⟨fe, hfe⟩ : ∃ fe : Nat → Int32, fe = (fun z => match z with | 0 => nI (j3) | 1 => a2 | 2 => a3 | 3 => nI 0 | _ => nI 0) := ⟨_, rfl⟩
          have fe0 : fe 0 = nI (j3) := congrFun hfe 0
          have fe1 : fe 1 = a2 := congrFun hfe 1
          have fe2 : fe 2 = a3 := congrFun hfe 2
          have fe3 : fe 3 = nI 0 := congrFun hfe 3
          refine V.so (σ' := ((t.1 + 1, t.2 + 4), rO g ad N S F1 (zup σ0 t.1 (.inr (11, [.int (fe 0), .int (fe 1), .int (fe 2), .int (fe 3)]))))) (congrArg (Prod.mk _) ((zup_zup.trans (zup_zup.trans (zup_zup))).trans ((rO_zup hK fT.1).trans (by rw [fe0, fe1, fe2, fe3]; rfl)))) ?_
          refine V_aload_n X dX12_coat_85 1 rfl ?_
          refine R_getf X fl_X12_22 hK (0) (rlv (by omega)) rfl rfl dX12_coat_86 ?_
          refine V_aload X dX12_coat_89 0 rfl ?_
          have hv := (rO_out (S := S) (G := F1) (g := g) (σ0 := zup σ0 t.1 (.inr (11, [.int (fe 0), .int (fe 1), .int (fe 2), .int (fe 3)]))) fT.1).trans zup_eq
          have hl : rLive N 4 = true := rlv (by omega)
          have gL : g.2.1.size ≤ ad 4 := hK.2 4 hl (by decide)
          have hLE : ad 4 ≠ zEm g := by have h9 := hEm.lt; omega
          have hEv : zEm g ≠ t.1 := by have h9 := hEm.lt; omega
          have hb := And.intro b0 (And.intro b1 (And.intro b2 (And.intro b3 b4)))
          rcases Nat.eq_zero_or_pos (N 3) with h0N | h0N
          · -- the first
            refine V_callV (rest := []) X E.room ml_X12_66 in_Jx4a65c_add_9ea2d (ci := 3) rfl se_Jx4a65c_add_9ea2d (rO_list hK (i := 3) (by decide)) (by omega) (by decide) (k_add_0 (t := (t.1 + 1, t.2 + 4)) (rO_list0 hK h43 (i := 3) (by decide) h0N) gL hEm hLE hv rfl co_X7 (fT.1 4 hl) hEv) rfl rfl (Nat.le_of_ble_eq_true rfl) ⟨by omega, by omega⟩ dX12_coat_91 (fun _ _ h => False.elim h) (fun v8 σ' hp8 => ?_)
            obtain ⟨hp8, e8⟩ := hp8
            cases (hp8 : _ = some (Value.int (nI 1)))
            have e9 := congrArg Prod.fst e8
            have q8 := congrArg Prod.snd e8
            dsimp only at q8 e9
            have nLD : ad 4 ≠ t.1 + 1 := fD.1 4 hl
            obtain ⟨xt, xk, xg⟩ := r_ext3 (f := σ'.2) (σ0 := σ0) (G := F1) (a := t.1) (D := t.1 + 1) (md := F1 4 0 + nI 1) (fe := fe) hK hb (by omega) fT.1 gT (Or.inl ⟨h0N, fD.1, by omega, by omega⟩)
              ((congrFun q8 _).trans ((zup_ne nLD).trans (zup_eq.trans (by rw [h0N]))))
              ((congrFun q8 _).trans (zup_eq.trans (by rw [h0N, rEls_zero]; try rfl)))
              ((congrFun q8 _).trans ((zup_ne (by omega)).trans ((zup_ne (fun e => fT.1 4 hl e.symm)).trans hv)))
              (fun q h1 h2 h3 => (congrFun q8 _).trans ((zup_ne h2).trans ((zup_ne h1).trans ((congrFun (rO_zup hK fT.1).symm q).trans (zup_ne h3)))))
            refine V.so (Prod.ext (y := (_, _)) e9 xt) ?_
            have hg9 := xg t.1 (Nat.le_refl _) (fun _ => Nat.le_succ _)
            exact tail _ _ _ _ xk (r_gr3 hIF1 (by omega)) hg9 (by show 1 ≤ N 3 + 1; omega) (fun t' F' hJ h0 hI => ⟨_, rfl, t', _, _, F', rfl, xk, hI, hg9, Or.inr (Or.inr ⟨h0.trans (by rw [frow_ne (by omega), fset_other (by omega), hF1, fset_eq]), ⟨zin_ok (by assumption) (by first | decide | (have := Nat.pow_le_pow_right (n := 2) (by decide) b0; omega)) (by first | decide | (have := Nat.pow_le_pow_right (n := 2) (by decide) b0; omega)), zin_ok (by assumption) (by first | decide | (have := Nat.pow_le_pow_right (n := 2) (by decide) b0; omega)) (by first | decide | (have := Nat.pow_le_pow_right (n := 2) (by decide) b0; omega)), zin_ok (by assumption) (by first | decide | (have := Nat.pow_le_pow_right (n := 2) (by decide) b0; omega)) (by first | decide | (have := Nat.pow_le_pow_right (n := 2) (by decide) b0; omega))⟩, by omega, congrArg nI (show N 3 + 1 - 1 = N 3 by omega), rfl, _, fe, ⟨fe0, fe1, fe2, fe3⟩, ((((rE.rfl' : rE F F).set hF1 (by omega)).fs.fr).trans hJ).m⟩)⟩)
          · -- one more
            have hd : rLive N 9 = true := rlv (by omega)
            have gD : g.2.1.size ≤ ad 9 := hK.2 9 hd (by decide)
            have nLD : ad 4 ≠ ad 9 := fun e => absurd (hK.1 4 9 hl hd e) (by decide)
            refine V_callV (rest := []) X E.room ml_X12_66 in_Jx4a65c_add_9ea2d (ci := 3) rfl se_Jx4a65c_add_9ea2d (rO_list hK (i := 3) (by decide)) (by omega) (by decide) (k_add_n (t := (t.1 + 1, t.2 + 4)) (rO_listn hK (i := 3) (by decide) h0N) (rO_data hK (i := 3) (by decide) h0N) gL gD nLD (by omega) hv rfl co_X7 (fT.1 4 hl) (fT.1 9 hd)) rfl rfl (Nat.le_of_ble_eq_true rfl) ⟨by omega, by omega⟩ dX12_coat_91 (fun _ _ h => False.elim h) (fun v8 σ' hp8 => ?_)
            obtain ⟨hp8, e8⟩ := hp8
            cases (hp8 : _ = some (Value.int (nI 1)))
            have e9 := congrArg Prod.fst e8
            have q8 := congrArg Prod.snd e8
            dsimp only at q8 e9
            obtain ⟨xt, xk, xg⟩ := r_ext3 (f := σ'.2) (σ0 := σ0) (G := F1) (a := t.1) (D := ad 9) (md := F1 4 0 + nI 1) (fe := fe) hK hb (by omega) fT.1 gT (Or.inr ⟨h0N, rfl⟩)
              ((congrFun q8 _).trans ((zup_ne nLD).trans zup_eq))
              ((congrFun q8 _).trans (zup_eq.trans (by rw [nI_clamp (by omega)]; try rfl)))
              ((congrFun q8 _).trans ((zup_ne (fun e => fT.1 9 hd e.symm)).trans ((zup_ne (fun e => fT.1 4 hl e.symm)).trans hv)))
              (fun q h1 h2 h3 => (congrFun q8 _).trans ((zup_ne h2).trans ((zup_ne h1).trans ((congrFun (rO_zup hK fT.1).symm q).trans (zup_ne h3)))))
            refine V.so (Prod.ext (y := (_, _)) e9 xt) ?_
            have hg9 := xg t.1 (Nat.le_refl _) (fun z => absurd z (by omega))
            exact V.widen (by omega) (by omega) (tail _ _ _ _ xk (r_gr3 hIF1 (by omega)) hg9 (by show 1 ≤ N 3 + 1; omega) (fun t' F' hJ h0 hI => ⟨_, rfl, t', _, _, F', rfl, xk, hI, hg9, Or.inr (Or.inr ⟨h0.trans (by rw [frow_ne (by omega), fset_other (by omega), hF1, fset_eq]), ⟨zin_ok (by assumption) (by first | decide | (have := Nat.pow_le_pow_right (n := 2) (by decide) b0; omega)) (by first | decide | (have := Nat.pow_le_pow_right (n := 2) (by decide) b0; omega)), zin_ok (by assumption) (by first | decide | (have := Nat.pow_le_pow_right (n := 2) (by decide) b0; omega)) (by first | decide | (have := Nat.pow_le_pow_right (n := 2) (by decide) b0; omega)), zin_ok (by assumption) (by first | decide | (have := Nat.pow_le_pow_right (n := 2) (by decide) b0; omega)) (by first | decide | (have := Nat.pow_le_pow_right (n := 2) (by decide) b0; omega))⟩, by omega, congrArg nI (show N 3 + 1 - 1 = N 3 by omega), rfl, _, fe, ⟨fe0, fe1, fe2, fe3⟩, ((((rE.rfl' : rE F F).set hF1 (by omega)).fs.fr).trans hJ).m⟩)⟩))
        · -- 49 false
          refine V_aload_n X dX12_coat_52 0 rfl ?_
          refine V_iconst (v := nI 2) X dX12_coat_53 (by decide) ?_
          refine V_callV (rest := []) X E.room ml_X12_50 in_X12_refuse (ci := 16) rfl se_X12_refuse (R_recv hK (q := 0) (rlv (by omega)) rfl) (by omega) (by decide) (k_X12_refuse hK hIF1 (nI (2))) rfl rfl (Nat.le_of_ble_eq_true rfl) ⟨by omega, by omega⟩ dX12_coat_54 (fun _ _ h => False.elim h) (fun v54 σ' hp54 => ?_)
          obtain ⟨hp54, F14, rfl, hF14⟩ := hp54
          have hKF14 : rM N F F14 := (hJF1 : rM N F F1).set hF14 (by omega)
          have hIF14 := hIF1.st hF14 (by omega)
          cases (hp54 : _ = some (Value.int (nI (0))))
          show V g κ 5 (0) (0) (t, rO g ad N S F14 σ0) 57 [(0, .ref (ad (0))), (1, .int (nI (j3))), (2, .int (a2)), (3, .int (a3))] [.int (nI (0))]
          exact V_iret X E (by omega) (by omega) ⟨_, rfl, _, _, _, _, rfl, hK, hIF14, rGrow.rfl', Or.inr (Or.inl ⟨(by rw [hF14, fset_eq]), ⟨zin_ok (by assumption) (by first | decide | (have := Nat.pow_le_pow_right (n := 2) (by decide) b0; omega)) (by first | decide | (have := Nat.pow_le_pow_right (n := 2) (by decide) b0; omega)), zin_ok (by assumption) (by first | decide | (have := Nat.pow_le_pow_right (n := 2) (by decide) b0; omega)) (by first | decide | (have := Nat.pow_le_pow_right (n := 2) (by decide) b0; omega)), zin_ok (by assumption) (by first | decide | (have := Nat.pow_le_pow_right (n := 2) (by decide) b0; omega)) (by first | decide | (have := Nat.pow_le_pow_right (n := 2) (by decide) b0; omega))⟩, by omega, rfl, hKF14⟩)⟩ dX12_coat_57
      · -- no
        show V g κ 5 (0) (0) (t, rO g ad N S F1 σ0) 31 [(0, .ref (ad (0))), (1, .int (nI (j3))), (2, .int (a2)), (3, .int (a3))] [.int (nI (0))]
        refine V_ifneN X (by omega) (tgt := 40) dX12_coat_31 (by decide) (fun h15 => absurd h15 (by omega)) (fun h15 => ?_)
        refine V_aload_n X dX12_coat_34 0 rfl ?_
        refine V_iconst (v := nI 1) X dX12_coat_35 (by decide) ?_
        refine V_callV (rest := []) X E.room ml_X12_50 in_X12_refuse (ci := 16) rfl se_X12_refuse (R_recv hK (q := 0) (rlv (by omega)) rfl) (by omega) (by decide) (k_X12_refuse hK hIF1 (nI (1))) rfl rfl (Nat.le_of_ble_eq_true rfl) ⟨by omega, by omega⟩ dX12_coat_36 (fun _ _ h => False.elim h) (fun v36 σ' hp36 => ?_)
        obtain ⟨hp36, F16, rfl, hF16⟩ := hp36
        have hKF16 : rM N F F16 := (hJF1 : rM N F F1).set hF16 (by omega)
        have hIF16 := hIF1.st hF16 (by omega)
        cases (hp36 : _ = some (Value.int (nI (0))))
        show V g κ 5 (0) (0) (t, rO g ad N S F16 σ0) 39 [(0, .ref (ad (0))), (1, .int (nI (j3))), (2, .int (a2)), (3, .int (a3))] [.int (nI (0))]
        exact V_iret X E (by omega) (by omega) ⟨_, rfl, _, _, _, _, rfl, hK, hIF16, rGrow.rfl', Or.inl ⟨(by rw [hF16, fset_eq]), fun q => by first | exact absurd (zin_no (by first | decide | (have := Nat.pow_le_pow_right (n := 2) (by decide) b0; omega)) (by first | decide | (have := Nat.pow_le_pow_right (n := 2) (by decide) b0; omega)) q.1) (by assumption) | exact absurd (zin_no (by first | decide | (have := Nat.pow_le_pow_right (n := 2) (by decide) b0; omega)) (by first | decide | (have := Nat.pow_le_pow_right (n := 2) (by decide) b0; omega)) q.2.1) (by assumption) | exact absurd (zin_no (by first | decide | (have := Nat.pow_le_pow_right (n := 2) (by decide) b0; omega)) (by first | decide | (have := Nat.pow_le_pow_right (n := 2) (by decide) b0; omega)) q.2.2) (by assumption), rfl, hKF16⟩⟩ dX12_coat_39
    · -- no
      show V g κ 5 (0) (0) (t, rO g ad N S F1 σ0) 21 [(0, .ref (ad (0))), (1, .int (nI (j3))), (2, .int (a2)), (3, .int (a3))] [.int (nI (0))]
      refine V_ifeqN X (by omega) (tgt := 34) dX12_coat_21 (by decide) (fun h17 => ?_) (fun h17 => absurd h17 (by omega))
      refine V_aload_n X dX12_coat_34 0 rfl ?_
      refine V_iconst (v := nI 1) X dX12_coat_35 (by decide) ?_
      refine V_callV (rest := []) X E.room ml_X12_50 in_X12_refuse (ci := 16) rfl se_X12_refuse (R_recv hK (q := 0) (rlv (by omega)) rfl) (by omega) (by decide) (k_X12_refuse hK hIF1 (nI (1))) rfl rfl (Nat.le_of_ble_eq_true rfl) ⟨by omega, by omega⟩ dX12_coat_36 (fun _ _ h => False.elim h) (fun v36 σ' hp36 => ?_)
      obtain ⟨hp36, F18, rfl, hF18⟩ := hp36
      have hKF18 : rM N F F18 := (hJF1 : rM N F F1).set hF18 (by omega)
      have hIF18 := hIF1.st hF18 (by omega)
      cases (hp36 : _ = some (Value.int (nI (0))))
      show V g κ 5 (0) (0) (t, rO g ad N S F18 σ0) 39 [(0, .ref (ad (0))), (1, .int (nI (j3))), (2, .int (a2)), (3, .int (a3))] [.int (nI (0))]
      exact V_iret X E (by omega) (by omega) ⟨_, rfl, _, _, _, _, rfl, hK, hIF18, rGrow.rfl', Or.inl ⟨(by rw [hF18, fset_eq]), fun q => by first | exact absurd (zin_no (by first | decide | (have := Nat.pow_le_pow_right (n := 2) (by decide) b0; omega)) (by first | decide | (have := Nat.pow_le_pow_right (n := 2) (by decide) b0; omega)) q.1) (by assumption) | exact absurd (zin_no (by first | decide | (have := Nat.pow_le_pow_right (n := 2) (by decide) b0; omega)) (by first | decide | (have := Nat.pow_le_pow_right (n := 2) (by decide) b0; omega)) q.2.1) (by assumption) | exact absurd (zin_no (by first | decide | (have := Nat.pow_le_pow_right (n := 2) (by decide) b0; omega)) (by first | decide | (have := Nat.pow_le_pow_right (n := 2) (by decide) b0; omega)) q.2.2) (by assumption), rfl, hKF18⟩⟩ dX12_coat_39
  · -- no
    show V g κ 5 (0) (0) (t, rO g ad N S F1 σ0) 11 [(0, .ref (ad (0))), (1, .int (a1)), (2, .int (a2)), (3, .int (a3))] [.int (nI (0))]
    refine V_ifeqN X (by omega) (tgt := 34) dX12_coat_11 (by decide) (fun h19 => ?_) (fun h19 => absurd h19 (by omega))
    refine V_aload_n X dX12_coat_34 0 rfl ?_
    refine V_iconst (v := nI 1) X dX12_coat_35 (by decide) ?_
    refine V_callV (rest := []) X E.room ml_X12_50 in_X12_refuse (ci := 16) rfl se_X12_refuse (R_recv hK (q := 0) (rlv (by omega)) rfl) (by omega) (by decide) (k_X12_refuse hK hIF1 (nI (1))) rfl rfl (Nat.le_of_ble_eq_true rfl) ⟨by omega, by omega⟩ dX12_coat_36 (fun _ _ h => False.elim h) (fun v36 σ' hp36 => ?_)
    obtain ⟨hp36, F20, rfl, hF20⟩ := hp36
    have hKF20 : rM N F F20 := (hJF1 : rM N F F1).set hF20 (by omega)
    have hIF20 := hIF1.st hF20 (by omega)
    cases (hp36 : _ = some (Value.int (nI (0))))
    show V g κ 5 (0) (0) (t, rO g ad N S F20 σ0) 39 [(0, .ref (ad (0))), (1, .int (a1)), (2, .int (a2)), (3, .int (a3))] [.int (nI (0))]
    exact V_iret X E (by omega) (by omega) ⟨_, rfl, _, _, _, _, rfl, hK, hIF20, rGrow.rfl', Or.inl ⟨(by rw [hF20, fset_eq]), fun q => by first | exact absurd (zin_no (by first | decide | (have := Nat.pow_le_pow_right (n := 2) (by decide) b0; omega)) (by first | decide | (have := Nat.pow_le_pow_right (n := 2) (by decide) b0; omega)) q.1) (by assumption) | exact absurd (zin_no (by first | decide | (have := Nat.pow_le_pow_right (n := 2) (by decide) b0; omega)) (by first | decide | (have := Nat.pow_le_pow_right (n := 2) (by decide) b0; omega)) q.2.1) (by assumption) | exact absurd (zin_no (by first | decide | (have := Nat.pow_le_pow_right (n := 2) (by decide) b0; omega)) (by first | decide | (have := Nat.pow_le_pow_right (n := 2) (by decide) b0; omega)) q.2.2) (by assumption), rfl, hKF20⟩⟩ dX12_coat_39
set_option maxRecDepth 100000 in
set_option maxHeartbeats 4000000 in
theorem k_X12_town {g : zG} {t : Nat × Nat} {ad N : Nat → Nat} {S : Int64} {σ0 : Nat → Option va_E} {F : Nat → Nat → Int32} (hK : rK g ad N) (hI : rI N F)  (a1 : Int32) (a2 : Int32) (a3 : Int32) (h43 : ad 43 = zEm g) (hEm : zEmC g) : Ct g 16 yX12_town cX12_town 5 (some FieldType.int) 2 13 [.ref (ad (0)), .int (a1), .int (a2), .int (a3)] (t, rO g ad N S F σ0) (qAdd g t ad N S σ0 (rAddR 4 5 38 (zin 0 99 a1 ∧ zin 0 99 a2 ∧ zin 0 999 a3) (fun fe => fe 0 = a1 ∧ fe 1 = a2 ∧ fe 2 = a3) N F)) zNo := by
  refine Ct.of (lv := [(0, .ref (ad (0))), (1, .int (a1)), (2, .int (a2)), (3, .int (a3))]) (by decide) (Nat.le_of_ble_eq_true rfl) rfl ?_
  intro κ X E B _
  have X : zX g κ RX12 cX12_town 5 := X
  obtain ⟨b0, b1, b2, b3, b4⟩ := hI.bnd
  have hpw : 1 ≤ 2 ^ N 0 := Nat.one_le_two_pow
  refine V_aload_n X dX12_town_0 0 rfl ?_
  refine V_iconst (v := nI 0) X dX12_town_1 (by decide) ?_
  refine R_putf X fl_X12_38 zt_X12 hK (0) (rlv (by omega)) (by omega) rfl (Nat.le_of_ble_eq_true rfl) rfl rfl rfl rfl rfl dX12_town_2 (fun F1 hF1 => ?_)
  have hJF1 := (rM.rfl' : rM N F F).set hF1 (by omega)
  have hIF1 := hI.st hF1 (by omega)
  refine V_iload_n X dX12_town_5 1 rfl ?_
  refine V_iconst (v := nI 0) X dX12_town_6 (by decide) ?_
  refine V_bipush (v := nI 99) X dX12_town_7 (by decide) ?_
  refine V_callS (rest := []) X E.room ml_X12_46 st_X12_is (by omega) (by decide) (k_X12_is (σ := (t, rO g ad N S F1 σ0)) (a1) (nI (0)) (nI (99))) rfl rfl (Nat.le_of_ble_eq_true rfl) ⟨by omega, by omega⟩ dX12_town_9 (fun _ _ h => False.elim h) (fun v9 σ' hp9 => ?_)
  obtain ⟨hp9, rfl⟩ := hp9
  rcases hp9 with ⟨rfl, z2⟩ | ⟨rfl, z2⟩
  · -- yes
    obtain ⟨j3, ej3, -, uj3⟩ := zin_of (Int32.not_lt.mpr z2.1) z2.2 (by decide) (by decide)
    subst ej3
    show V g κ 5 (0) (0) (t, rO g ad N S F1 σ0) 12 [(0, .ref (ad (0))), (1, .int (nI (j3))), (2, .int (a2)), (3, .int (a3))] [.int (nI (1))]
    refine V_ifeqN X (by omega) (tgt := 36) dX12_town_12 (by decide) (fun h4 => absurd h4 (by omega)) (fun h4 => ?_)
    refine V_iload_n X dX12_town_15 2 rfl ?_
    refine V_iconst (v := nI 0) X dX12_town_16 (by decide) ?_
    refine V_bipush (v := nI 99) X dX12_town_17 (by decide) ?_
    refine V_callS (rest := []) X E.room ml_X12_46 st_X12_is (by omega) (by decide) (k_X12_is (σ := (t, rO g ad N S F1 σ0)) (a2) (nI (0)) (nI (99))) rfl rfl (Nat.le_of_ble_eq_true rfl) ⟨by omega, by omega⟩ dX12_town_19 (fun _ _ h => False.elim h) (fun v19 σ' hp19 => ?_)
    obtain ⟨hp19, rfl⟩ := hp19
    rcases hp19 with ⟨rfl, z5⟩ | ⟨rfl, z5⟩
    · -- yes
      obtain ⟨j6, ej6, -, uj6⟩ := zin_of (Int32.not_lt.mpr z5.1) z5.2 (by decide) (by decide)
      subst ej6
      show V g κ 5 (0) (0) (t, rO g ad N S F1 σ0) 22 [(0, .ref (ad (0))), (1, .int (nI (j3))), (2, .int (nI (j6))), (3, .int (a3))] [.int (nI (1))]
      refine V_ifeqN X (by omega) (tgt := 36) dX12_town_22 (by decide) (fun h7 => absurd h7 (by omega)) (fun h7 => ?_)
      refine V_iload_n X dX12_town_25 3 rfl ?_
      refine V_iconst (v := nI 0) X dX12_town_26 (by decide) ?_
      refine V_sipush (v := nI 999) X dX12_town_27 (by decide) ?_
      refine V_callS (rest := []) X E.room ml_X12_46 st_X12_is (by omega) (by decide) (k_X12_is (σ := (t, rO g ad N S F1 σ0)) (a3) (nI (0)) (nI (999))) rfl rfl (Nat.le_of_ble_eq_true rfl) ⟨by omega, by omega⟩ dX12_town_30 (fun _ _ h => False.elim h) (fun v30 σ' hp30 => ?_)
      obtain ⟨hp30, rfl⟩ := hp30
      rcases hp30 with ⟨rfl, z8⟩ | ⟨rfl, z8⟩
      · -- yes
        obtain ⟨j9, ej9, -, uj9⟩ := zin_of (Int32.not_lt.mpr z8.1) z8.2 (by decide) (by decide)
        subst ej9
        show V g κ 5 (0) (0) (t, rO g ad N S F1 σ0) 33 [(0, .ref (ad (0))), (1, .int (nI (j3))), (2, .int (nI (j6))), (3, .int (nI (j9)))] [.int (nI (1))]
        refine V_ifneN X (by omega) (tgt := 42) dX12_town_33 (by decide) (fun h10 => ?_) (fun h10 => absurd h10 (by omega))
        refine V_aload_n X dX12_town_42 0 rfl ?_
        refine R_getf X fl_X12_25 hK (0) (rlv (by omega)) rfl rfl dX12_town_43 ?_
        refine V_callV (rest := []) X E.room ml_X12_42 in_Jx4a65c_size_8abf5 (ci := 3) rfl se_Jx4a65c_size_8abf5 (rO_list hK (i := 4) (by decide)) (by omega) (by decide) (r_size hK 4 (by decide)) rfl rfl (Nat.le_of_ble_eq_true rfl) ⟨by omega, by omega⟩ dX12_town_46 (fun _ _ h => False.elim h) (fun v11 σ' hp12 => ?_)
        obtain ⟨hp12, rfl⟩ := hp12
        cases (hp12 : _ = some (Value.int (nI (N 4))))
        show V g κ 5 (0) (0) (t, rO g ad N S F1 σ0) 49 [(0, .ref (ad (0))), (1, .int (nI (j3))), (2, .int (nI (j6))), (3, .int (nI (j9)))] [.int (nI (N 4))]
        refine V_iconst (v := nI 5) X dX12_town_49 (by decide) ?_
        refine V_icmpneN X (by omega) (by omega) (tgt := 59) dX12_town_50 (by decide) (fun h13 => ?_) (fun h13 => ?_)
        · -- 50 true
          have tail : ∀ (t9 : Nat × Nat) (ad9 N9 : Nat → Nat) (F9 : Nat → Nat → Int32), rK g ad9 N9 → rI N9 F9 → rGrow ad ad9 N N9 t.1 → 1 ≤ N9 4 → (∀ (t' : Nat × Nat) (F' : Nat → Nat → Int32), rE (rAb 4 F9) F' → F' 0 0 = F9 0 0 → rI N9 F' → (qAdd g t ad N S σ0 (rAddR 4 5 38 (zin 0 99 (nI (j3)) ∧ zin 0 99 (nI (j6)) ∧ zin 0 999 (nI (j9))) (fun fe => fe 0 = (nI (j3)) ∧ fe 1 = (nI (j6)) ∧ fe 2 = (nI (j9))) N F)) (some (.int (nI (N9 4 - 1)))) (t', rO g ad9 N9 S F' σ0)) → V g κ  5 (2) (13) (t9, rO g ad9 N9 S F9 σ0) 95 [(4, .ref (t.1)), (0, .ref (ad (0))), (1, .int (nI (j3))), (2, .int (nI (j6))), (3, .int (nI (j9)))] [.int (nI (1))] := by
            intro tz ad N F hK hI9 hg hn1 hP9
            rw [← hg.1]
            obtain ⟨⟨b0, b1, b2, b3, b4⟩, -⟩ := id hI9
            generalize h1e : t.1 = T9
            show V g κ 5 (2) (13) (tz, rO g ad N S F σ0) 95 [(4, .ref (T9)), (0, .ref (ad (0))), (1, .int (nI (j3))), (2, .int (nI (j6))), (3, .int (nI (j9)))] [.int (nI (1))]
            refine V_pop X dX12_town_95 rfl ?_
            refine V_aload_n X dX12_town_96 1 rfl ?_
            refine R_getf X fl_X12_25 hK (0) (rlv (by omega)) rfl rfl dX12_town_97 ?_
            refine V_callV (rest := []) X E.room ml_X12_42 in_Jx4a65c_size_8abf5 (ci := 3) rfl se_Jx4a65c_size_8abf5 (rO_list hK (i := 4) (by decide)) (by omega) (by decide) (r_size hK 4 (by decide)) rfl rfl (Nat.le_of_ble_eq_true rfl) ⟨by omega, by omega⟩ dX12_town_100 (fun _ _ h => False.elim h) (fun v14 σ' hp15 => ?_)
            obtain ⟨hp15, rfl⟩ := hp15
            cases (hp15 : _ = some (Value.int (nI (N 4))))
            show V g κ 5 (2) (13) (tz, rO g ad N S F σ0) 103 [(4, .ref (T9)), (0, .ref (ad (0))), (1, .int (nI (j3))), (2, .int (nI (j6))), (3, .int (nI (j9)))] [.int (nI (N 4))]
            refine V_iconst (v := nI 1) X dX12_town_103 (by decide) ?_
            refine V_isubN X (by omega) dX12_town_104 ?_
            exact V_iret X E (by omega) (by omega) (hP9 _ _ rE.rfl' rfl hI9) dX12_town_105
          refine V.fr (fun hfr => ?_)
          have fT := rFresh (t := t) hK hfr (k := t.1) (Nat.le_refl _)
          have fD := rFresh (t := t) hK hfr (k := t.1 + 1) (by omega)
          have gT : g.2.1.size ≤ t.1 := (by have h0 := hK.2 0 (rlv (by omega)) (by decide); have h1 : ad 0 < t.1 := hfr _ _ (rO_at hK (rlv (by omega))); omega)
          refine V_new X E.room (ci := 15) (fs := [.int (nI 0), .int (nI 0), .int (nI 0)]) rfl zi_X11 tyX11 tyX11_ok cl_X12_147 mk_X11 nz_X11 (by intro j hj; match j, hj with | 0, _ => rfl | 1, _ => rfl | 2, _ => rfl | i + 3, hj => exact absurd hj (by omega)) (by omega) (by omega) dX12_town_59 ?_
          refine V_dup X dX12_town_62 rfl ?_
          refine V_callIN (rest := [.ref t.1]) X E.room ml_X12_149 in_X11_init rfl (by omega) (by decide) k_X11_init rfl rfl (Nat.le_of_ble_eq_true rfl) ⟨by omega, by omega⟩ dX12_town_63 (fun _ _ h => False.elim h) (fun v9 σ' hp9 => ?_)
          obtain ⟨hp9, rfl⟩ := hp9
          cases (hp9 : _ = none)
          refine V_astore X [(4, .ref (t.1)), (0, .ref (ad (0))), (1, .int (nI (j3))), (2, .int (nI (j6))), (3, .int (nI (j9)))] dX12_town_66 (by decide) rfl ?_
          refine V_aload X dX12_town_68 0 rfl ?_
          refine V_iload_n X dX12_town_70 2 rfl ?_
          refine V_putf X fl_X12_150 zt_X11 zup_eq gT (Nat.le_of_ble_eq_true rfl) rfl rfl rfl rfl dX12_town_71 ?_
          refine V_aload X dX12_town_74 0 rfl ?_
          refine V_iload_n X dX12_town_76 3 rfl ?_
          refine V_putf X fl_X12_153 zt_X11 zup_eq gT (Nat.le_of_ble_eq_true rfl) rfl rfl rfl rfl dX12_town_77 ?_
          refine V_aload X dX12_town_80 0 rfl ?_
          refine V_iload_n X dX12_town_82 4 rfl ?_
          refine V_putf X fl_X12_156 zt_X11 zup_eq gT (Nat.le_of_ble_eq_true rfl) rfl rfl rfl rfl dX12_town_83 ?_
          obtain ⟨fe, hfe⟩ : ∃ fe : Nat → Int32, fe = (fun z => match z with | 0 => nI (j3) | 1 => nI (j6) | 2 => nI (j9) | _ => nI 0) := ⟨_, rfl⟩
          have fe0 : fe 0 = nI (j3) := congrFun hfe 0
          have fe1 : fe 1 = nI (j6) := congrFun hfe 1
          have fe2 : fe 2 = nI (j9) := congrFun hfe 2
          refine V.so (σ' := ((t.1 + 1, t.2 + 3), rO g ad N S F1 (zup σ0 t.1 (.inr (15, [.int (fe 0), .int (fe 1), .int (fe 2)]))))) (congrArg (Prod.mk _) ((zup_zup.trans (zup_zup.trans (zup_zup))).trans ((rO_zup hK fT.1).trans (by rw [fe0, fe1, fe2]; rfl)))) ?_
          refine V_aload_n X dX12_town_86 1 rfl ?_
          refine R_getf X fl_X12_25 hK (0) (rlv (by omega)) rfl rfl dX12_town_87 ?_
          refine V_aload X dX12_town_90 0 rfl ?_
          have hv := (rO_out (S := S) (G := F1) (g := g) (σ0 := zup σ0 t.1 (.inr (15, [.int (fe 0), .int (fe 1), .int (fe 2)]))) fT.1).trans zup_eq
          have hl : rLive N 5 = true := rlv (by omega)
          have gL : g.2.1.size ≤ ad 5 := hK.2 5 hl (by decide)
          have hLE : ad 5 ≠ zEm g := by have h9 := hEm.lt; omega
          have hEv : zEm g ≠ t.1 := by have h9 := hEm.lt; omega
          have hb := And.intro b0 (And.intro b1 (And.intro b2 (And.intro b3 b4)))
          rcases Nat.eq_zero_or_pos (N 4) with h0N | h0N
          · -- the first
            refine V_callV (rest := []) X E.room ml_X12_66 in_Jx4a65c_add_9ea2d (ci := 3) rfl se_Jx4a65c_add_9ea2d (rO_list hK (i := 4) (by decide)) (by omega) (by decide) (k_add_0 (t := (t.1 + 1, t.2 + 3)) (rO_list0 hK h43 (i := 4) (by decide) h0N) gL hEm hLE hv rfl co_X11 (fT.1 5 hl) hEv) rfl rfl (Nat.le_of_ble_eq_true rfl) ⟨by omega, by omega⟩ dX12_town_92 (fun _ _ h => False.elim h) (fun v8 σ' hp8 => ?_)
            obtain ⟨hp8, e8⟩ := hp8
            cases (hp8 : _ = some (Value.int (nI 1)))
            have e9 := congrArg Prod.fst e8
            have q8 := congrArg Prod.snd e8
            dsimp only at q8 e9
            have nLD : ad 5 ≠ t.1 + 1 := fD.1 5 hl
            obtain ⟨xt, xk, xg⟩ := r_ext4 (f := σ'.2) (σ0 := σ0) (G := F1) (a := t.1) (D := t.1 + 1) (md := F1 5 0 + nI 1) (fe := fe) hK hb (by omega) fT.1 gT (Or.inl ⟨h0N, fD.1, by omega, by omega⟩)
              ((congrFun q8 _).trans ((zup_ne nLD).trans (zup_eq.trans (by rw [h0N]))))
              ((congrFun q8 _).trans (zup_eq.trans (by rw [h0N, rEls_zero]; try rfl)))
              ((congrFun q8 _).trans ((zup_ne (by omega)).trans ((zup_ne (fun e => fT.1 5 hl e.symm)).trans hv)))
              (fun q h1 h2 h3 => (congrFun q8 _).trans ((zup_ne h2).trans ((zup_ne h1).trans ((congrFun (rO_zup hK fT.1).symm q).trans (zup_ne h3)))))
            refine V.so (Prod.ext (y := (_, _)) e9 xt) ?_
            have hg9 := xg t.1 (Nat.le_refl _) (fun _ => Nat.le_succ _)
            exact tail _ _ _ _ xk (r_gr4 hIF1 (by omega)) hg9 (by show 1 ≤ N 4 + 1; omega) (fun t' F' hJ h0 hI => ⟨_, rfl, t', _, _, F', rfl, xk, hI, hg9, Or.inr (Or.inr ⟨h0.trans (by rw [frow_ne (by omega), fset_other (by omega), hF1, fset_eq]), ⟨zin_ok (by assumption) (by first | decide | (have := Nat.pow_le_pow_right (n := 2) (by decide) b0; omega)) (by first | decide | (have := Nat.pow_le_pow_right (n := 2) (by decide) b0; omega)), zin_ok (by assumption) (by first | decide | (have := Nat.pow_le_pow_right (n := 2) (by decide) b0; omega)) (by first | decide | (have := Nat.pow_le_pow_right (n := 2) (by decide) b0; omega)), zin_ok (by assumption) (by first | decide | (have := Nat.pow_le_pow_right (n := 2) (by decide) b0; omega)) (by first | decide | (have := Nat.pow_le_pow_right (n := 2) (by decide) b0; omega))⟩, by omega, congrArg nI (show N 4 + 1 - 1 = N 4 by omega), rfl, _, fe, ⟨fe0, fe1, fe2⟩, ((((rE.rfl' : rE F F).set hF1 (by omega)).fs.fr).trans hJ).m⟩)⟩)
          · -- one more
            have hd : rLive N 10 = true := rlv (by omega)
            have gD : g.2.1.size ≤ ad 10 := hK.2 10 hd (by decide)
            have nLD : ad 5 ≠ ad 10 := fun e => absurd (hK.1 5 10 hl hd e) (by decide)
            refine V_callV (rest := []) X E.room ml_X12_66 in_Jx4a65c_add_9ea2d (ci := 3) rfl se_Jx4a65c_add_9ea2d (rO_list hK (i := 4) (by decide)) (by omega) (by decide) (k_add_n (t := (t.1 + 1, t.2 + 3)) (rO_listn hK (i := 4) (by decide) h0N) (rO_data hK (i := 4) (by decide) h0N) gL gD nLD (by omega) hv rfl co_X11 (fT.1 5 hl) (fT.1 10 hd)) rfl rfl (Nat.le_of_ble_eq_true rfl) ⟨by omega, by omega⟩ dX12_town_92 (fun _ _ h => False.elim h) (fun v8 σ' hp8 => ?_)
            obtain ⟨hp8, e8⟩ := hp8
            cases (hp8 : _ = some (Value.int (nI 1)))
            have e9 := congrArg Prod.fst e8
            have q8 := congrArg Prod.snd e8
            dsimp only at q8 e9
            obtain ⟨xt, xk, xg⟩ := r_ext4 (f := σ'.2) (σ0 := σ0) (G := F1) (a := t.1) (D := ad 10) (md := F1 5 0 + nI 1) (fe := fe) hK hb (by omega) fT.1 gT (Or.inr ⟨h0N, rfl⟩)
              ((congrFun q8 _).trans ((zup_ne nLD).trans zup_eq))
              ((congrFun q8 _).trans (zup_eq.trans (by rw [nI_clamp (by omega)]; try rfl)))
              ((congrFun q8 _).trans ((zup_ne (fun e => fT.1 10 hd e.symm)).trans ((zup_ne (fun e => fT.1 5 hl e.symm)).trans hv)))
              (fun q h1 h2 h3 => (congrFun q8 _).trans ((zup_ne h2).trans ((zup_ne h1).trans ((congrFun (rO_zup hK fT.1).symm q).trans (zup_ne h3)))))
            refine V.so (Prod.ext (y := (_, _)) e9 xt) ?_
            have hg9 := xg t.1 (Nat.le_refl _) (fun z => absurd z (by omega))
            exact V.widen (by omega) (by omega) (tail _ _ _ _ xk (r_gr4 hIF1 (by omega)) hg9 (by show 1 ≤ N 4 + 1; omega) (fun t' F' hJ h0 hI => ⟨_, rfl, t', _, _, F', rfl, xk, hI, hg9, Or.inr (Or.inr ⟨h0.trans (by rw [frow_ne (by omega), fset_other (by omega), hF1, fset_eq]), ⟨zin_ok (by assumption) (by first | decide | (have := Nat.pow_le_pow_right (n := 2) (by decide) b0; omega)) (by first | decide | (have := Nat.pow_le_pow_right (n := 2) (by decide) b0; omega)), zin_ok (by assumption) (by first | decide | (have := Nat.pow_le_pow_right (n := 2) (by decide) b0; omega)) (by first | decide | (have := Nat.pow_le_pow_right (n := 2) (by decide) b0; omega)), zin_ok (by assumption) (by first | decide | (have := Nat.pow_le_pow_right (n := 2) (by decide) b0; omega)) (by first | decide | (have := Nat.pow_le_pow_right (n := 2) (by decide) b0; omega))⟩, by omega, congrArg nI (show N 4 + 1 - 1 = N 4 by omega), rfl, _, fe, ⟨fe0, fe1, fe2⟩, ((((rE.rfl' : rE F F).set hF1 (by omega)).fs.fr).trans hJ).m⟩)⟩))
        · -- 50 false
          refine V_aload_n X dX12_town_53 0 rfl ?_
          refine V_iconst (v := nI 2) X dX12_town_54 (by decide) ?_
          refine V_callV (rest := []) X E.room ml_X12_50 in_X12_refuse (ci := 16) rfl se_X12_refuse (R_recv hK (q := 0) (rlv (by omega)) rfl) (by omega) (by decide) (k_X12_refuse hK hIF1 (nI (2))) rfl rfl (Nat.le_of_ble_eq_true rfl) ⟨by omega, by omega⟩ dX12_town_55 (fun _ _ h => False.elim h) (fun v55 σ' hp55 => ?_)
          obtain ⟨hp55, F16, rfl, hF16⟩ := hp55
          have hKF16 : rM N F F16 := (hJF1 : rM N F F1).set hF16 (by omega)
          have hIF16 := hIF1.st hF16 (by omega)
          cases (hp55 : _ = some (Value.int (nI (0))))
          show V g κ 5 (0) (0) (t, rO g ad N S F16 σ0) 58 [(0, .ref (ad (0))), (1, .int (nI (j3))), (2, .int (nI (j6))), (3, .int (nI (j9)))] [.int (nI (0))]
          exact V_iret X E (by omega) (by omega) ⟨_, rfl, _, _, _, _, rfl, hK, hIF16, rGrow.rfl', Or.inr (Or.inl ⟨(by rw [hF16, fset_eq]), ⟨zin_ok (by assumption) (by first | decide | (have := Nat.pow_le_pow_right (n := 2) (by decide) b0; omega)) (by first | decide | (have := Nat.pow_le_pow_right (n := 2) (by decide) b0; omega)), zin_ok (by assumption) (by first | decide | (have := Nat.pow_le_pow_right (n := 2) (by decide) b0; omega)) (by first | decide | (have := Nat.pow_le_pow_right (n := 2) (by decide) b0; omega)), zin_ok (by assumption) (by first | decide | (have := Nat.pow_le_pow_right (n := 2) (by decide) b0; omega)) (by first | decide | (have := Nat.pow_le_pow_right (n := 2) (by decide) b0; omega))⟩, by omega, rfl, hKF16⟩)⟩ dX12_town_58
      · -- no
        show V g κ 5 (0) (0) (t, rO g ad N S F1 σ0) 33 [(0, .ref (ad (0))), (1, .int (nI (j3))), (2, .int (nI (j6))), (3, .int (a3))] [.int (nI (0))]
        refine V_ifneN X (by omega) (tgt := 42) dX12_town_33 (by decide) (fun h17 => absurd h17 (by omega)) (fun h17 => ?_)
        refine V_aload_n X dX12_town_36 0 rfl ?_
        refine V_iconst (v := nI 1) X dX12_town_37 (by decide) ?_
        refine V_callV (rest := []) X E.room ml_X12_50 in_X12_refuse (ci := 16) rfl se_X12_refuse (R_recv hK (q := 0) (rlv (by omega)) rfl) (by omega) (by decide) (k_X12_refuse hK hIF1 (nI (1))) rfl rfl (Nat.le_of_ble_eq_true rfl) ⟨by omega, by omega⟩ dX12_town_38 (fun _ _ h => False.elim h) (fun v38 σ' hp38 => ?_)
        obtain ⟨hp38, F18, rfl, hF18⟩ := hp38
        have hKF18 : rM N F F18 := (hJF1 : rM N F F1).set hF18 (by omega)
        have hIF18 := hIF1.st hF18 (by omega)
        cases (hp38 : _ = some (Value.int (nI (0))))
        show V g κ 5 (0) (0) (t, rO g ad N S F18 σ0) 41 [(0, .ref (ad (0))), (1, .int (nI (j3))), (2, .int (nI (j6))), (3, .int (a3))] [.int (nI (0))]
        exact V_iret X E (by omega) (by omega) ⟨_, rfl, _, _, _, _, rfl, hK, hIF18, rGrow.rfl', Or.inl ⟨(by rw [hF18, fset_eq]), fun q => by first | exact absurd (zin_no (by first | decide | (have := Nat.pow_le_pow_right (n := 2) (by decide) b0; omega)) (by first | decide | (have := Nat.pow_le_pow_right (n := 2) (by decide) b0; omega)) q.1) (by assumption) | exact absurd (zin_no (by first | decide | (have := Nat.pow_le_pow_right (n := 2) (by decide) b0; omega)) (by first | decide | (have := Nat.pow_le_pow_right (n := 2) (by decide) b0; omega)) q.2.1) (by assumption) | exact absurd (zin_no (by first | decide | (have := Nat.pow_le_pow_right (n := 2) (by decide) b0; omega)) (by first | decide | (have := Nat.pow_le_pow_right (n := 2) (by decide) b0; omega)) q.2.2) (by assumption), rfl, hKF18⟩⟩ dX12_town_41
    · -- no
      show V g κ 5 (0) (0) (t, rO g ad N S F1 σ0) 22 [(0, .ref (ad (0))), (1, .int (nI (j3))), (2, .int (a2)), (3, .int (a3))] [.int (nI (0))]
      refine V_ifeqN X (by omega) (tgt := 36) dX12_town_22 (by decide) (fun h19 => ?_) (fun h19 => absurd h19 (by omega))
      refine V_aload_n X dX12_town_36 0 rfl ?_
      refine V_iconst (v := nI 1) X dX12_town_37 (by decide) ?_
      refine V_callV (rest := []) X E.room ml_X12_50 in_X12_refuse (ci := 16) rfl se_X12_refuse (R_recv hK (q := 0) (rlv (by omega)) rfl) (by omega) (by decide) (k_X12_refuse hK hIF1 (nI (1))) rfl rfl (Nat.le_of_ble_eq_true rfl) ⟨by omega, by omega⟩ dX12_town_38 (fun _ _ h => False.elim h) (fun v38 σ' hp38 => ?_)
      obtain ⟨hp38, F20, rfl, hF20⟩ := hp38
      have hKF20 : rM N F F20 := (hJF1 : rM N F F1).set hF20 (by omega)
      have hIF20 := hIF1.st hF20 (by omega)
      cases (hp38 : _ = some (Value.int (nI (0))))
      show V g κ 5 (0) (0) (t, rO g ad N S F20 σ0) 41 [(0, .ref (ad (0))), (1, .int (nI (j3))), (2, .int (a2)), (3, .int (a3))] [.int (nI (0))]
      exact V_iret X E (by omega) (by omega) ⟨_, rfl, _, _, _, _, rfl, hK, hIF20, rGrow.rfl', Or.inl ⟨(by rw [hF20, fset_eq]), fun q => by first | exact absurd (zin_no (by first | decide | (have := Nat.pow_le_pow_right (n := 2) (by decide) b0; omega)) (by first | decide | (have := Nat.pow_le_pow_right (n := 2) (by decide) b0; omega)) q.1) (by assumption) | exact absurd (zin_no (by first | decide | (have := Nat.pow_le_pow_right (n := 2) (by decide) b0; omega)) (by first | decide | (have := Nat.pow_le_pow_right (n := 2) (by decide) b0; omega)) q.2.1) (by assumption) | exact absurd (zin_no (by first | decide | (have := Nat.pow_le_pow_right (n := 2) (by decide) b0; omega)) (by first | decide | (have := Nat.pow_le_pow_right (n := 2) (by decide) b0; omega)) q.2.2) (by assumption), rfl, hKF20⟩⟩ dX12_town_41
  · -- no
    show V g κ 5 (0) (0) (t, rO g ad N S F1 σ0) 12 [(0, .ref (ad (0))), (1, .int (a1)), (2, .int (a2)), (3, .int (a3))] [.int (nI (0))]
    refine V_ifeqN X (by omega) (tgt := 36) dX12_town_12 (by decide) (fun h21 => ?_) (fun h21 => absurd h21 (by omega))
    refine V_aload_n X dX12_town_36 0 rfl ?_
    refine V_iconst (v := nI 1) X dX12_town_37 (by decide) ?_
    refine V_callV (rest := []) X E.room ml_X12_50 in_X12_refuse (ci := 16) rfl se_X12_refuse (R_recv hK (q := 0) (rlv (by omega)) rfl) (by omega) (by decide) (k_X12_refuse hK hIF1 (nI (1))) rfl rfl (Nat.le_of_ble_eq_true rfl) ⟨by omega, by omega⟩ dX12_town_38 (fun _ _ h => False.elim h) (fun v38 σ' hp38 => ?_)
    obtain ⟨hp38, F22, rfl, hF22⟩ := hp38
    have hKF22 : rM N F F22 := (hJF1 : rM N F F1).set hF22 (by omega)
    have hIF22 := hIF1.st hF22 (by omega)
    cases (hp38 : _ = some (Value.int (nI (0))))
    show V g κ 5 (0) (0) (t, rO g ad N S F22 σ0) 41 [(0, .ref (ad (0))), (1, .int (a1)), (2, .int (a2)), (3, .int (a3))] [.int (nI (0))]
    exact V_iret X E (by omega) (by omega) ⟨_, rfl, _, _, _, _, rfl, hK, hIF22, rGrow.rfl', Or.inl ⟨(by rw [hF22, fset_eq]), fun q => by first | exact absurd (zin_no (by first | decide | (have := Nat.pow_le_pow_right (n := 2) (by decide) b0; omega)) (by first | decide | (have := Nat.pow_le_pow_right (n := 2) (by decide) b0; omega)) q.1) (by assumption) | exact absurd (zin_no (by first | decide | (have := Nat.pow_le_pow_right (n := 2) (by decide) b0; omega)) (by first | decide | (have := Nat.pow_le_pow_right (n := 2) (by decide) b0; omega)) q.2.1) (by assumption) | exact absurd (zin_no (by first | decide | (have := Nat.pow_le_pow_right (n := 2) (by decide) b0; omega)) (by first | decide | (have := Nat.pow_le_pow_right (n := 2) (by decide) b0; omega)) q.2.2) (by assumption), rfl, hKF22⟩⟩ dX12_town_41
