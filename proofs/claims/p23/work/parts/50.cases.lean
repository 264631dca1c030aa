/-! ===== the law's cases ===== -/
set_option maxRecDepth 100000 in
set_option maxHeartbeats 4000000 in
theorem lc_0 {g : zG} {κ : zC} {X0 Oa b L : Nat} {xs : Nat → Int32} (Cx : zCx g κ X0 Oa b L xs) {M : Nat} {B0 : Nat → Option va_E} {k n i : Nat} (hi : i + 4 ≤ L) (hk : k + 410 ≤ 823735) (hn : n + 2050 ≤ 6624900) (done : ∀ (t : Nat × Nat) (ad N : Nat → Nat) (S : Int64) (G F : Nat → Nat → Int32) (m : Int64), zLI g X0 Oa M ad N G F → V g κ 7 (k + 410) (n + 2050) (t, zW g X0 F ad N S G B0 Oa m) 1049 [(4, .int (nI i)), (3, .ref Oa), (2, .ref M), (1, .ref X0), (0, .ref b)] []) {t : Nat × Nat} {ad N : Nat → Nat} {S : Int64} {G F : Nat → Nat → Int32} {m : Int64} (I : zLI g X0 Oa M ad N G F) : V g κ 7 k n (t, zW g X0 F ad N S G B0 Oa m) 152 [(4, .int (nI i)), (3, .ref Oa), (2, .ref M), (1, .ref X0), (0, .ref b)] [] := by
  obtain ⟨X, Hh, hXs, hb, hL, hG, hEm, hX, hO, gO⟩ := Cx
  obtain ⟨hK, hd, h43, hIr, hR, rfl⟩ := I
  refine V_aload_n X dL_law_152 3 rfl ?_
  refine V_aload_n X dL_law_153 4 rfl ?_
  refine V_iload X dL_law_154 0 rfl ?_
  refine V_iconst (v := nI 1) X dL_law_156 (by decide) ?_
  refine V_iaddN X dL_law_157 ?_
  refine V_sld X hXs hb (vp_in_nI (by omega) (by omega)) dL_law_158 (V.topi (fun a1 ea1 => ?_))
  refine V_aload_n X dL_law_159 4 rfl ?_
  refine V_iload X dL_law_160 0 rfl ?_
  refine V_iconst (v := nI 2) X dL_law_162 (by decide) ?_
  refine V_iaddN X dL_law_163 ?_
  refine V_sld X hXs hb (vp_in_nI (by omega) (by omega)) dL_law_164 (V.topi (fun a2 ea2 => ?_))
  refine V_aload_n X dL_law_165 4 rfl ?_
  refine V_iload X dL_law_166 0 rfl ?_
  refine V_iconst (v := nI 3) X dL_law_168 (by decide) ?_
  refine V_iaddN X dL_law_169 ?_
  refine V_sld X hXs hb (vp_in_nI (by omega) (by omega)) dL_law_170 (V.topi (fun a3 ea3 => ?_))
  refine V_aload_n X dL_law_171 1 rfl ?_
  refine V.so (σ' := (t, cW g X0 F (zup (rO g ad N S G B0) Oa (.inr (10, [.long m]))))) (congrArg (Prod.mk _) (zW_c hK (fun k hk => (hd k hk).2))) ?_
  refine V_callSX (rest := []) X Hh mw_L_part st_L_part (by decide) (by decide) (k_L_part hX hG hO gO hR.1 a1 a2 a3 (hR.bd hIr) hR.2.2.2.1) rfl rfl (Nat.le_of_ble_eq_true rfl) ⟨by omega, by omega⟩ dL_law_172 (fun v9 σ' hp9 => ?_)
  obtain ⟨x4, rfl, t5, F6, m7, rfl, hc8⟩ := hp9
  show V g κ 7 (k + 1) (n + 6) (t5, cW g X0 F6 (zup (rO g ad N S G B0) Oa (.inr (10, [.long m7])))) 175 [(4, .int (nI i)), (3, .ref Oa), (2, .ref (ad 0)), (1, .ref X0), (0, .ref b)] [.int x4]
  refine V_istore X [(5, .int x4), (4, .int (nI i)), (3, .ref Oa), (2, .ref (ad 0)), (1, .ref X0), (0, .ref b)] dL_law_175 (by decide) rfl ?_
  refine V_aload_n X dL_law_177 3 rfl ?_
  refine V_aload_n X dL_law_178 5 rfl ?_
  refine V_iload X dL_law_179 1 rfl ?_
  refine V_iconst (v := nI 1) X dL_law_181 (by decide) ?_
  refine V_iaddN X dL_law_182 ?_
  refine V_sld X hXs hb (vp_in_nI (by omega) (by omega)) dL_law_183 (V.topi (fun a9 ea9 => ?_))
  rw [ea9.trans ea1.symm]
  refine V_aload_n X dL_law_184 5 rfl ?_
  refine V_iload X dL_law_185 1 rfl ?_
  refine V_iconst (v := nI 2) X dL_law_187 (by decide) ?_
  refine V_iaddN X dL_law_188 ?_
  refine V_sld X hXs hb (vp_in_nI (by omega) (by omega)) dL_law_189 (V.topi (fun a10 ea10 => ?_))
  rw [ea10.trans ea2.symm]
  refine V_aload_n X dL_law_190 5 rfl ?_
  refine V_iload X dL_law_191 1 rfl ?_
  refine V_iconst (v := nI 3) X dL_law_193 (by decide) ?_
  refine V_iaddN X dL_law_194 ?_
  refine V_sld X hXs hb (vp_in_nI (by omega) (by omega)) dL_law_195 (V.topi (fun a11 ea11 => ?_))
  rw [ea11.trans ea3.symm]
  refine V.fr (fun hfr => ?_)
  have hf : X0 + 61 ≤ t5.1 ∧ Oa < t5.1 := zW_fr hO hfr
  obtain ⟨hf1, hf2⟩ := hf
  refine V.so (σ' := (t5, rO g ad N S G (cW g X0 F6 (zup B0 Oa (.inr (10, [.long m7])))))) (congrArg (Prod.mk _) ((zW_c hK (fun k hk => (hd k hk).2)).symm.trans (zW_r hK hd))) ?_
  refine V_callV (rest := []) X Hh ml_L_95 in_X12_part (ci := 16) rfl se_X12_part (R_recv hK (q := 0) (rlv (by omega)) rfl) (by decide) (by decide) (k_X12_part hK hIr a1 a2 a3 h43 hEm) rfl rfl (Nat.le_of_ble_eq_true rfl) ⟨by omega, by omega⟩ dL_law_196 (fun _ _ h => False.elim h) (fun v8 σ' hp8 => ?_)
  obtain ⟨x12, rfl, t13, ad20, N21, G14, rfl, hK22, hI16, hg23, hM15⟩ := hp8
  obtain ⟨hR17, hx18, hv19⟩ := ab_part hR hc8 hM15
  have hd24 : ∀ k, rLive N21 k = true → (ad20 k < X0 ∨ X0 + 61 ≤ ad20 k) ∧ ad20 k ≠ Oa := fun k hk => by
    rcases hg23.2.2 k hk with ⟨j, hj, e⟩ | h
    · rw [e]; exact hd j hj
    · exact ⟨Or.inr (by omega), by omega⟩
  refine V.so (σ' := (t13, zW g X0 F6 ad20 N21 S G14 B0 Oa m7)) (congrArg (Prod.mk _) (zW_r hK22 hd24).symm) ?_
  show V g κ 7 (k + 3) (n + 19) (t13, zW g X0 F6 ad20 N21 S G14 B0 Oa m7) 199 [(5, .int x4), (4, .int (nI i)), (3, .ref Oa), (2, .ref (ad 0)), (1, .ref X0), (0, .ref b)] [.int x12]
  refine V_istore X [(6, .int x12), (5, .int x4), (4, .int (nI i)), (3, .ref Oa), (2, .ref (ad 0)), (1, .ref X0), (0, .ref b)] dL_law_199 (by decide) rfl ?_
  refine V_goto (tgt := 1049) X dL_law_201 (by decide) ?_
  exact V.sub [2, 3, 4, 5, 6] rfl (V.widen (by omega) (by omega) (done t13 ad20 N21 S G14 F6 m7 ⟨hK22, hd24, (hg23.2.1.trans h43), hI16, hR17, hg23.1⟩))
set_option maxRecDepth 100000 in
set_option maxHeartbeats 4000000 in
theorem lc_1 {g : zG} {κ : zC} {X0 Oa b L : Nat} {xs : Nat → Int32} (Cx : zCx g κ X0 Oa b L xs) {M : Nat} {B0 : Nat → Option va_E} {k n i : Nat} (hi : i + 4 ≤ L) (hk : k + 410 ≤ 823735) (hn : n + 2050 ≤ 6624900) (done : ∀ (t : Nat × Nat) (ad N : Nat → Nat) (S : Int64) (G F : Nat → Nat → Int32) (m : Int64), zLI g X0 Oa M ad N G F → V g κ 7 (k + 410) (n + 2050) (t, zW g X0 F ad N S G B0 Oa m) 1049 [(4, .int (nI i)), (3, .ref Oa), (2, .ref M), (1, .ref X0), (0, .ref b)] []) {t : Nat × Nat} {ad N : Nat → Nat} {S : Int64} {G F : Nat → Nat → Int32} {m : Int64} (I : zLI g X0 Oa M ad N G F) : V g κ 7 k n (t, zW g X0 F ad N S G B0 Oa m) 204 [(4, .int (nI i)), (3, .ref Oa), (2, .ref M), (1, .ref X0), (0, .ref b)] [] := by
  obtain ⟨X, Hh, hXs, hb, hL, hG, hEm, hX, hO, gO⟩ := Cx
  obtain ⟨hK, hd, h43, hIr, hR, rfl⟩ := I
  refine V_aload_n X dL_law_204 3 rfl ?_
  refine V_aload_n X dL_law_205 4 rfl ?_
  refine V_iload X dL_law_206 0 rfl ?_
  refine V_iconst (v := nI 1) X dL_law_208 (by decide) ?_
  refine V_iaddN X dL_law_209 ?_
  refine V_sld X hXs hb (vp_in_nI (by omega) (by omega)) dL_law_210 (V.topi (fun a1 ea1 => ?_))
  refine V_aload_n X dL_law_211 4 rfl ?_
  refine V_iload X dL_law_212 0 rfl ?_
  refine V_iconst (v := nI 2) X dL_law_214 (by decide) ?_
  refine V_iaddN X dL_law_215 ?_
  refine V_sld X hXs hb (vp_in_nI (by omega) (by omega)) dL_law_216 (V.topi (fun a2 ea2 => ?_))
  refine V_aload_n X dL_law_217 4 rfl ?_
  refine V_iload X dL_law_218 0 rfl ?_
  refine V_iconst (v := nI 3) X dL_law_220 (by decide) ?_
  refine V_iaddN X dL_law_221 ?_
  refine V_sld X hXs hb (vp_in_nI (by omega) (by omega)) dL_law_222 (V.topi (fun a3 ea3 => ?_))
  refine V_aload_n X dL_law_223 1 rfl ?_
  refine V.so (σ' := (t, cW g X0 F (zup (rO g ad N S G B0) Oa (.inr (10, [.long m]))))) (congrArg (Prod.mk _) (zW_c hK (fun k hk => (hd k hk).2))) ?_
  refine V_callSX (rest := []) X Hh mw_L_player st_L_player (by decide) (by decide) (k_L_player hX hG hO gO hR.1 a1 a2 a3 (hR.bd hIr) hR.2.2.2.1) rfl rfl (Nat.le_of_ble_eq_true rfl) ⟨by omega, by omega⟩ dL_law_224 (fun v9 σ' hp9 => ?_)
  obtain ⟨x4, rfl, t5, F6, m7, rfl, hc8⟩ := hp9
  show V g κ 7 (k + 1) (n + 6) (t5, cW g X0 F6 (zup (rO g ad N S G B0) Oa (.inr (10, [.long m7])))) 227 [(4, .int (nI i)), (3, .ref Oa), (2, .ref (ad 0)), (1, .ref X0), (0, .ref b)] [.int x4]
  refine V_istore X [(5, .int x4), (4, .int (nI i)), (3, .ref Oa), (2, .ref (ad 0)), (1, .ref X0), (0, .ref b)] dL_law_227 (by decide) rfl ?_
  refine V_aload_n X dL_law_229 3 rfl ?_
  refine V_aload_n X dL_law_230 5 rfl ?_
  refine V_iload X dL_law_231 1 rfl ?_
  refine V_iconst (v := nI 1) X dL_law_233 (by decide) ?_
  refine V_iaddN X dL_law_234 ?_
  refine V_sld X hXs hb (vp_in_nI (by omega) (by omega)) dL_law_235 (V.topi (fun a9 ea9 => ?_))
  rw [ea9.trans ea1.symm]
  refine V_aload_n X dL_law_236 5 rfl ?_
  refine V_iload X dL_law_237 1 rfl ?_
  refine V_iconst (v := nI 2) X dL_law_239 (by decide) ?_
  refine V_iaddN X dL_law_240 ?_
  refine V_sld X hXs hb (vp_in_nI (by omega) (by omega)) dL_law_241 (V.topi (fun a10 ea10 => ?_))
  rw [ea10.trans ea2.symm]
  refine V_aload_n X dL_law_242 5 rfl ?_
  refine V_iload X dL_law_243 1 rfl ?_
  refine V_iconst (v := nI 3) X dL_law_245 (by decide) ?_
  refine V_iaddN X dL_law_246 ?_
  refine V_sld X hXs hb (vp_in_nI (by omega) (by omega)) dL_law_247 (V.topi (fun a11 ea11 => ?_))
  rw [ea11.trans ea3.symm]
  refine V.fr (fun hfr => ?_)
  have hf : X0 + 61 ≤ t5.1 ∧ Oa < t5.1 := zW_fr hO hfr
  obtain ⟨hf1, hf2⟩ := hf
  refine V.so (σ' := (t5, rO g ad N S G (cW g X0 F6 (zup B0 Oa (.inr (10, [.long m7])))))) (congrArg (Prod.mk _) ((zW_c hK (fun k hk => (hd k hk).2)).symm.trans (zW_r hK hd))) ?_
  refine V_callV (rest := []) X Hh ml_L_98 in_X12_player (ci := 16) rfl se_X12_player (R_recv hK (q := 0) (rlv (by omega)) rfl) (by decide) (by decide) (k_X12_player hK hIr a1 a2 a3 h43 hEm) rfl rfl (Nat.le_of_ble_eq_true rfl) ⟨by omega, by omega⟩ dL_law_248 (fun _ _ h => False.elim h) (fun v8 σ' hp8 => ?_)
  obtain ⟨x12, rfl, t13, ad20, N21, G14, rfl, hK22, hI16, hg23, hM15⟩ := hp8
  obtain ⟨hR17, hx18, hv19⟩ := ab_player hR hc8 hM15
  have hd24 : ∀ k, rLive N21 k = true → (ad20 k < X0 ∨ X0 + 61 ≤ ad20 k) ∧ ad20 k ≠ Oa := fun k hk => by
    rcases hg23.2.2 k hk with ⟨j, hj, e⟩ | h
    · rw [e]; exact hd j hj
    · exact ⟨Or.inr (by omega), by omega⟩
  refine V.so (σ' := (t13, zW g X0 F6 ad20 N21 S G14 B0 Oa m7)) (congrArg (Prod.mk _) (zW_r hK22 hd24).symm) ?_
  show V g κ 7 (k + 3) (n + 21) (t13, zW g X0 F6 ad20 N21 S G14 B0 Oa m7) 251 [(5, .int x4), (4, .int (nI i)), (3, .ref Oa), (2, .ref (ad 0)), (1, .ref X0), (0, .ref b)] [.int x12]
  refine V_istore X [(6, .int x12), (5, .int x4), (4, .int (nI i)), (3, .ref Oa), (2, .ref (ad 0)), (1, .ref X0), (0, .ref b)] dL_law_251 (by decide) rfl ?_
  refine V_goto (tgt := 1049) X dL_law_253 (by decide) ?_
  exact V.sub [2, 3, 4, 5, 6] rfl (V.widen (by omega) (by omega) (done t13 ad20 N21 S G14 F6 m7 ⟨hK22, hd24, (hg23.2.1.trans h43), hI16, hR17, hg23.1⟩))
set_option maxRecDepth 100000 in
set_option maxHeartbeats 4000000 in
theorem lc_2 {g : zG} {κ : zC} {X0 Oa b L : Nat} {xs : Nat → Int32} (Cx : zCx g κ X0 Oa b L xs) {M : Nat} {B0 : Nat → Option va_E} {k n i : Nat} (hi : i + 4 ≤ L) (hk : k + 410 ≤ 823735) (hn : n + 2050 ≤ 6624900) (done : ∀ (t : Nat × Nat) (ad N : Nat → Nat) (S : Int64) (G F : Nat → Nat → Int32) (m : Int64), zLI g X0 Oa M ad N G F → V g κ 7 (k + 410) (n + 2050) (t, zW g X0 F ad N S G B0 Oa m) 1049 [(4, .int (nI i)), (3, .ref Oa), (2, .ref M), (1, .ref X0), (0, .ref b)] []) {t : Nat × Nat} {ad N : Nat → Nat} {S : Int64} {G F : Nat → Nat → Int32} {m : Int64} (I : zLI g X0 Oa M ad N G F) : V g κ 7 k n (t, zW g X0 F ad N S G B0 Oa m) 256 [(4, .int (nI i)), (3, .ref Oa), (2, .ref M), (1, .ref X0), (0, .ref b)] [] := by
  obtain ⟨X, Hh, hXs, hb, hL, hG, hEm, hX, hO, gO⟩ := Cx
  obtain ⟨hK, hd, h43, hIr, hR, rfl⟩ := I
  refine V_aload_n X dL_law_256 3 rfl ?_
  refine V_aload_n X dL_law_257 4 rfl ?_
  refine V_iload X dL_law_258 0 rfl ?_
  refine V_iconst (v := nI 1) X dL_law_260 (by decide) ?_
  refine V_iaddN X dL_law_261 ?_
  refine V_sld X hXs hb (vp_in_nI (by omega) (by omega)) dL_law_262 (V.topi (fun a1 ea1 => ?_))
  refine V_aload_n X dL_law_263 4 rfl ?_
  refine V_iload X dL_law_264 0 rfl ?_
  refine V_iconst (v := nI 2) X dL_law_266 (by decide) ?_
  refine V_iaddN X dL_law_267 ?_
  refine V_sld X hXs hb (vp_in_nI (by omega) (by omega)) dL_law_268 (V.topi (fun a2 ea2 => ?_))
  refine V_aload_n X dL_law_269 1 rfl ?_
  refine V.so (σ' := (t, cW g X0 F (zup (rO g ad N S G B0) Oa (.inr (10, [.long m]))))) (congrArg (Prod.mk _) (zW_c hK (fun k hk => (hd k hk).2))) ?_
  refine V_callSX (rest := []) X Hh mw_L_scene st_L_scene (by decide) (by decide) (k_L_scene hX hG hO gO hR.1 a1 a2 (hR.bd hIr) hR.2.2.2.1) rfl rfl (Nat.le_of_ble_eq_true rfl) ⟨by omega, by omega⟩ dL_law_270 (fun v9 σ' hp9 => ?_)
  obtain ⟨x3, rfl, t4, F5, m6, rfl, hc7⟩ := hp9
  show V g κ 7 (k + 1) (n + 6) (t4, cW g X0 F5 (zup (rO g ad N S G B0) Oa (.inr (10, [.long m6])))) 273 [(4, .int (nI i)), (3, .ref Oa), (2, .ref (ad 0)), (1, .ref X0), (0, .ref b)] [.int x3]
  refine V_istore X [(5, .int x3), (4, .int (nI i)), (3, .ref Oa), (2, .ref (ad 0)), (1, .ref X0), (0, .ref b)] dL_law_273 (by decide) rfl ?_
  refine V_aload_n X dL_law_275 3 rfl ?_
  refine V_aload_n X dL_law_276 5 rfl ?_
  refine V_iload X dL_law_277 1 rfl ?_
  refine V_iconst (v := nI 1) X dL_law_279 (by decide) ?_
  refine V_iaddN X dL_law_280 ?_
  refine V_sld X hXs hb (vp_in_nI (by omega) (by omega)) dL_law_281 (V.topi (fun a8 ea8 => ?_))
  rw [ea8.trans ea1.symm]
  refine V_aload_n X dL_law_282 5 rfl ?_
  refine V_iload X dL_law_283 1 rfl ?_
  refine V_iconst (v := nI 2) X dL_law_285 (by decide) ?_
  refine V_iaddN X dL_law_286 ?_
  refine V_sld X hXs hb (vp_in_nI (by omega) (by omega)) dL_law_287 (V.topi (fun a9 ea9 => ?_))
  rw [ea9.trans ea2.symm]
  refine V.fr (fun hfr => ?_)
  have hf : X0 + 61 ≤ t4.1 ∧ Oa < t4.1 := zW_fr hO hfr
  obtain ⟨hf1, hf2⟩ := hf
  refine V.so (σ' := (t4, rO g ad N S G (cW g X0 F5 (zup B0 Oa (.inr (10, [.long m6])))))) (congrArg (Prod.mk _) ((zW_c hK (fun k hk => (hd k hk).2)).symm.trans (zW_r hK hd))) ?_
  refine V_callV (rest := []) X Hh ml_L_102 in_X12_scene (ci := 16) rfl se_X12_scene (R_recv hK (q := 0) (rlv (by omega)) rfl) (by decide) (by decide) (k_X12_scene hK hIr a1 a2 h43 hEm) rfl rfl (Nat.le_of_ble_eq_true rfl) ⟨by omega, by omega⟩ dL_law_288 (fun _ _ h => False.elim h) (fun v8 σ' hp8 => ?_)
  obtain ⟨x10, rfl, t11, ad18, N19, G12, rfl, hK20, hI14, hg21, hM13⟩ := hp8
  obtain ⟨hR15, hx16, hv17⟩ := ab_scene hR hc7 hM13
  have hd22 : ∀ k, rLive N19 k = true → (ad18 k < X0 ∨ X0 + 61 ≤ ad18 k) ∧ ad18 k ≠ Oa := fun k hk => by
    rcases hg21.2.2 k hk with ⟨j, hj, e⟩ | h
    · rw [e]; exact hd j hj
    · exact ⟨Or.inr (by omega), by omega⟩
  refine V.so (σ' := (t11, zW g X0 F5 ad18 N19 S G12 B0 Oa m6)) (congrArg (Prod.mk _) (zW_r hK20 hd22).symm) ?_
  show V g κ 7 (k + 3) (n + 18) (t11, zW g X0 F5 ad18 N19 S G12 B0 Oa m6) 291 [(5, .int x3), (4, .int (nI i)), (3, .ref Oa), (2, .ref (ad 0)), (1, .ref X0), (0, .ref b)] [.int x10]
  refine V_istore X [(6, .int x10), (5, .int x3), (4, .int (nI i)), (3, .ref Oa), (2, .ref (ad 0)), (1, .ref X0), (0, .ref b)] dL_law_291 (by decide) rfl ?_
  refine V_goto (tgt := 1049) X dL_law_293 (by decide) ?_
  exact V.sub [2, 3, 4, 5, 6] rfl (V.widen (by omega) (by omega) (done t11 ad18 N19 S G12 F5 m6 ⟨hK20, hd22, (hg21.2.1.trans h43), hI14, hR15, hg21.1⟩))
set_option maxRecDepth 100000 in
set_option maxHeartbeats 4000000 in
theorem lc_3 {g : zG} {κ : zC} {X0 Oa b L : Nat} {xs : Nat → Int32} (Cx : zCx g κ X0 Oa b L xs) {M : Nat} {B0 : Nat → Option va_E} {k n i : Nat} (hi : i + 4 ≤ L) (hk : k + 410 ≤ 823735) (hn : n + 2050 ≤ 6624900) (done : ∀ (t : Nat × Nat) (ad N : Nat → Nat) (S : Int64) (G F : Nat → Nat → Int32) (m : Int64), zLI g X0 Oa M ad N G F → V g κ 7 (k + 410) (n + 2050) (t, zW g X0 F ad N S G B0 Oa m) 1049 [(4, .int (nI i)), (3, .ref Oa), (2, .ref M), (1, .ref X0), (0, .ref b)] []) {t : Nat × Nat} {ad N : Nat → Nat} {S : Int64} {G F : Nat → Nat → Int32} {m : Int64} (I : zLI g X0 Oa M ad N G F) : V g κ 7 k n (t, zW g X0 F ad N S G B0 Oa m) 296 [(4, .int (nI i)), (3, .ref Oa), (2, .ref M), (1, .ref X0), (0, .ref b)] [] := by
  obtain ⟨X, Hh, hXs, hb, hL, hG, hEm, hX, hO, gO⟩ := Cx
  obtain ⟨hK, hd, h43, hIr, hR, rfl⟩ := I
  refine V_aload_n X dL_law_296 3 rfl ?_
  refine V_aload_n X dL_law_297 4 rfl ?_
  refine V_iload X dL_law_298 0 rfl ?_
  refine V_iconst (v := nI 1) X dL_law_300 (by decide) ?_
  refine V_iaddN X dL_law_301 ?_
  refine V_sld X hXs hb (vp_in_nI (by omega) (by omega)) dL_law_302 (V.topi (fun a1 ea1 => ?_))
  refine V_aload_n X dL_law_303 4 rfl ?_
  refine V_iload X dL_law_304 0 rfl ?_
  refine V_iconst (v := nI 2) X dL_law_306 (by decide) ?_
  refine V_iaddN X dL_law_307 ?_
  refine V_sld X hXs hb (vp_in_nI (by omega) (by omega)) dL_law_308 (V.topi (fun a2 ea2 => ?_))
  refine V_aload_n X dL_law_309 1 rfl ?_
  refine V.so (σ' := (t, cW g X0 F (zup (rO g ad N S G B0) Oa (.inr (10, [.long m]))))) (congrArg (Prod.mk _) (zW_c hK (fun k hk => (hd k hk).2))) ?_
  refine V_callSX (rest := []) X Hh mw_L_pause st_L_pause (by decide) (by decide) (k_L_pause hX hG hO gO hR.1 a1 a2 (hR.bd hIr) hR.2.2.2.1) rfl rfl (Nat.le_of_ble_eq_true rfl) ⟨by omega, by omega⟩ dL_law_310 (fun v9 σ' hp9 => ?_)
  obtain ⟨x3, rfl, t4, F5, m6, rfl, hc7⟩ := hp9
  show V g κ 7 (k + 1) (n + 6) (t4, cW g X0 F5 (zup (rO g ad N S G B0) Oa (.inr (10, [.long m6])))) 313 [(4, .int (nI i)), (3, .ref Oa), (2, .ref (ad 0)), (1, .ref X0), (0, .ref b)] [.int x3]
  refine V_istore X [(5, .int x3), (4, .int (nI i)), (3, .ref Oa), (2, .ref (ad 0)), (1, .ref X0), (0, .ref b)] dL_law_313 (by decide) rfl ?_
  refine V_aload_n X dL_law_315 3 rfl ?_
  refine V_aload_n X dL_law_316 5 rfl ?_
  refine V_iload X dL_law_317 1 rfl ?_
  refine V_iconst (v := nI 1) X dL_law_319 (by decide) ?_
  refine V_iaddN X dL_law_320 ?_
  refine V_sld X hXs hb (vp_in_nI (by omega) (by omega)) dL_law_321 (V.topi (fun a8 ea8 => ?_))
  rw [ea8.trans ea1.symm]
  refine V_aload_n X dL_law_322 5 rfl ?_
  refine V_iload X dL_law_323 1 rfl ?_
  refine V_iconst (v := nI 2) X dL_law_325 (by decide) ?_
  refine V_iaddN X dL_law_326 ?_
  refine V_sld X hXs hb (vp_in_nI (by omega) (by omega)) dL_law_327 (V.topi (fun a9 ea9 => ?_))
  rw [ea9.trans ea2.symm]
  refine V.fr (fun hfr => ?_)
  have hf : X0 + 61 ≤ t4.1 ∧ Oa < t4.1 := zW_fr hO hfr
  obtain ⟨hf1, hf2⟩ := hf
  refine V.so (σ' := (t4, rO g ad N S G (cW g X0 F5 (zup B0 Oa (.inr (10, [.long m6])))))) (congrArg (Prod.mk _) ((zW_c hK (fun k hk => (hd k hk).2)).symm.trans (zW_r hK hd))) ?_
  refine V_callV (rest := []) X Hh ml_L_105 in_X12_pause (ci := 16) rfl se_X12_pause (R_recv hK (q := 0) (rlv (by omega)) rfl) (by decide) (by decide) (k_X12_pause hK hIr a1 a2) rfl rfl (Nat.le_of_ble_eq_true rfl) ⟨by omega, by omega⟩ dL_law_328 (fun _ _ h => False.elim h) (fun v8 σ' hp8 => ?_)
  obtain ⟨x10, rfl, t11, G12, rfl, hI14, hM13⟩ := hp8
  obtain ⟨hR15, hx16, hv17⟩ := ab_pause hR hc7 hM13
  refine V.so (σ' := (t11, zW g X0 F5 ad N S G12 B0 Oa m6)) (congrArg (Prod.mk _) (zW_r hK hd).symm) ?_
  show V g κ 7 (k + 1) (n + 6) (t11, zW g X0 F5 ad N S G12 B0 Oa m6) 331 [(5, .int x3), (4, .int (nI i)), (3, .ref Oa), (2, .ref (ad 0)), (1, .ref X0), (0, .ref b)] [.int x10]
  refine V_istore X [(6, .int x10), (5, .int x3), (4, .int (nI i)), (3, .ref Oa), (2, .ref (ad 0)), (1, .ref X0), (0, .ref b)] dL_law_331 (by decide) rfl ?_
  refine V_goto (tgt := 1049) X dL_law_333 (by decide) ?_
  exact V.sub [2, 3, 4, 5, 6] rfl (V.widen (by omega) (by omega) (done t11 ad N S G12 F5 m6 ⟨hK, hd, h43, hI14, hR15, rfl⟩))
set_option maxRecDepth 100000 in
set_option maxHeartbeats 4000000 in
theorem lc_4 {g : zG} {κ : zC} {X0 Oa b L : Nat} {xs : Nat → Int32} (Cx : zCx g κ X0 Oa b L xs) {M : Nat} {B0 : Nat → Option va_E} {k n i : Nat} (hi : i + 4 ≤ L) (hk : k + 410 ≤ 823735) (hn : n + 2050 ≤ 6624900) (done : ∀ (t : Nat × Nat) (ad N : Nat → Nat) (S : Int64) (G F : Nat → Nat → Int32) (m : Int64), zLI g X0 Oa M ad N G F → V g κ 7 (k + 410) (n + 2050) (t, zW g X0 F ad N S G B0 Oa m) 1049 [(4, .int (nI i)), (3, .ref Oa), (2, .ref M), (1, .ref X0), (0, .ref b)] []) {t : Nat × Nat} {ad N : Nat → Nat} {S : Int64} {G F : Nat → Nat → Int32} {m : Int64} (I : zLI g X0 Oa M ad N G F) : V g κ 7 k n (t, zW g X0 F ad N S G B0 Oa m) 336 [(4, .int (nI i)), (3, .ref Oa), (2, .ref M), (1, .ref X0), (0, .ref b)] [] := by
  obtain ⟨X, Hh, hXs, hb, hL, hG, hEm, hX, hO, gO⟩ := Cx
  obtain ⟨hK, hd, h43, hIr, hR, rfl⟩ := I
  refine V_aload_n X dL_law_336 3 rfl ?_
  refine V_aload_n X dL_law_337 4 rfl ?_
  refine V_iload X dL_law_338 0 rfl ?_
  refine V_iconst (v := nI 1) X dL_law_340 (by decide) ?_
  refine V_iaddN X dL_law_341 ?_
  refine V_sld X hXs hb (vp_in_nI (by omega) (by omega)) dL_law_342 (V.topi (fun a1 ea1 => ?_))
  refine V_aload_n X dL_law_343 4 rfl ?_
  refine V_iload X dL_law_344 0 rfl ?_
  refine V_iconst (v := nI 2) X dL_law_346 (by decide) ?_
  refine V_iaddN X dL_law_347 ?_
  refine V_sld X hXs hb (vp_in_nI (by omega) (by omega)) dL_law_348 (V.topi (fun a2 ea2 => ?_))
  have b3 : ∀ b9 : Int32, ((b9 = 0 ∧ a2 = 0) ∨ (b9 = 1 ∧ ¬ a2 = 0)) → V g κ 7 (k + 0) (n + 0) (t, zW g X0 F ad N S G B0 Oa m) 357 [(4, .int (nI i)), (3, .ref Oa), (2, .ref (ad 0)), (1, .ref X0), (0, .ref b)] [.int b9, .int a1, .ref X0] := by
    intro b4 hb5
    refine V_aload_n X dL_law_357 1 rfl ?_
    refine V.so (σ' := (t, cW g X0 F (zup (rO g ad N S G B0) Oa (.inr (10, [.long m]))))) (congrArg (Prod.mk _) (zW_c hK (fun k hk => (hd k hk).2))) ?_
    refine V_callSX (rest := []) X Hh mw_L_sick st_L_sick (by decide) (by decide) (k_L_sick hX hG hO gO hR.1 a1 b4 (hR.bd hIr) hR.2.2.2.1) rfl rfl (Nat.le_of_ble_eq_true rfl) ⟨by omega, by omega⟩ dL_law_358 (fun v9 σ' hp9 => ?_)
    obtain ⟨x6, rfl, t7, F8, m9, rfl, hc10⟩ := hp9
    show V g κ 7 (k + 1) (n + 6) (t7, cW g X0 F8 (zup (rO g ad N S G B0) Oa (.inr (10, [.long m9])))) 361 [(4, .int (nI i)), (3, .ref Oa), (2, .ref (ad 0)), (1, .ref X0), (0, .ref b)] [.int x6]
    refine V_istore X [(5, .int x6), (4, .int (nI i)), (3, .ref Oa), (2, .ref (ad 0)), (1, .ref X0), (0, .ref b)] dL_law_361 (by decide) rfl ?_
    refine V_aload_n X dL_law_363 3 rfl ?_
    refine V_aload_n X dL_law_364 5 rfl ?_
    refine V_iload X dL_law_365 1 rfl ?_
    refine V_iconst (v := nI 1) X dL_law_367 (by decide) ?_
    refine V_iaddN X dL_law_368 ?_
    refine V_sld X hXs hb (vp_in_nI (by omega) (by omega)) dL_law_369 (V.topi (fun a11 ea11 => ?_))
    rw [ea11.trans ea1.symm]
    refine V_aload_n X dL_law_370 5 rfl ?_
    refine V_iload X dL_law_371 1 rfl ?_
    refine V_iconst (v := nI 2) X dL_law_373 (by decide) ?_
    refine V_iaddN X dL_law_374 ?_
    refine V_sld X hXs hb (vp_in_nI (by omega) (by omega)) dL_law_375 (V.topi (fun a12 ea12 => ?_))
    rw [ea12.trans ea2.symm]
    have b13 : ∀ b9 : Int32, ((b9 = 0 ∧ a2 = 0) ∨ (b9 = 1 ∧ ¬ a2 = 0)) → V g κ 7 (k + 1) (n + 6) (t7, cW g X0 F8 (zup (rO g ad N S G B0) Oa (.inr (10, [.long m9])))) 384 [(5, .int x6), (4, .int (nI i)), (3, .ref Oa), (2, .ref (ad 0)), (1, .ref X0), (0, .ref b)] [.int b9, .int a1, .ref (ad 0)] := by
      intro b14 hb15
      rw [zb_eq hb15 hb5]
      refine V.fr (fun hfr => ?_)
      have hf : X0 + 61 ≤ t7.1 ∧ Oa < t7.1 := zW_fr hO hfr
      obtain ⟨hf1, hf2⟩ := hf
      refine V.so (σ' := (t7, rO g ad N S G (cW g X0 F8 (zup B0 Oa (.inr (10, [.long m9])))))) (congrArg (Prod.mk _) ((zW_c hK (fun k hk => (hd k hk).2)).symm.trans (zW_r hK hd))) ?_
      refine V_callV (rest := []) X Hh ml_L_109 in_X12_sick (ci := 16) rfl se_X12_sick (R_recv hK (q := 0) (rlv (by omega)) rfl) (by decide) (by decide) (k_X12_sick hK hIr a1 b4 (hb5.imp And.left And.left)) rfl rfl (Nat.le_of_ble_eq_true rfl) ⟨by omega, by omega⟩ dL_law_384 (fun _ _ h => False.elim h) (fun v8 σ' hp8 => ?_)
      obtain ⟨x16, rfl, t17, G18, rfl, hI20, hM19⟩ := hp8
      obtain ⟨hR21, hx22, hv23⟩ := ab_sick hR (hb5.imp And.left And.left) hI20 hc10 hM19
      refine V.so (σ' := (t17, zW g X0 F8 ad N S G18 B0 Oa m9)) (congrArg (Prod.mk _) (zW_r hK hd).symm) ?_
      show V g κ 7 (k + 2) (n + 10) (t17, zW g X0 F8 ad N S G18 B0 Oa m9) 387 [(5, .int x6), (4, .int (nI i)), (3, .ref Oa), (2, .ref (ad 0)), (1, .ref X0), (0, .ref b)] [.int x16]
      refine V_istore X [(6, .int x16), (5, .int x6), (4, .int (nI i)), (3, .ref Oa), (2, .ref (ad 0)), (1, .ref X0), (0, .ref b)] dL_law_387 (by decide) rfl ?_
      refine V_goto (tgt := 1049) X dL_law_389 (by decide) ?_
      exact V.sub [2, 3, 4, 5, 6] rfl (V.widen (by omega) (by omega) (done t17 ad N S G18 F8 m9 ⟨hK, hd, h43, hI20, hR21, rfl⟩))
    refine V_ifeq X (tgt := 383) dL_law_376 (by decide) (fun h => ?_) (fun h => ?_)
    · refine V_iconst (v := nI 0) X dL_law_383 (by decide) ?_
      exact b13 _ (Or.inl ⟨rfl, h⟩)
    · refine V_iconst (v := nI 1) X dL_law_379 (by decide) ?_
      refine V_goto (tgt := 384) X dL_law_380 (by decide) ?_
      exact b13 _ (Or.inr ⟨rfl, h⟩)
  refine V_ifeq X (tgt := 356) dL_law_349 (by decide) (fun h => ?_) (fun h => ?_)
  · refine V_iconst (v := nI 0) X dL_law_356 (by decide) ?_
    exact b3 _ (Or.inl ⟨rfl, h⟩)
  · refine V_iconst (v := nI 1) X dL_law_352 (by decide) ?_
    refine V_goto (tgt := 357) X dL_law_353 (by decide) ?_
    exact b3 _ (Or.inr ⟨rfl, h⟩)
set_option maxRecDepth 100000 in
set_option maxHeartbeats 4000000 in
theorem lc_5 {g : zG} {κ : zC} {X0 Oa b L : Nat} {xs : Nat → Int32} (Cx : zCx g κ X0 Oa b L xs) {M : Nat} {B0 : Nat → Option va_E} {k n i : Nat} (hi : i + 4 ≤ L) (hk : k + 410 ≤ 823735) (hn : n + 2050 ≤ 6624900) (done : ∀ (t : Nat × Nat) (ad N : Nat → Nat) (S : Int64) (G F : Nat → Nat → Int32) (m : Int64), zLI g X0 Oa M ad N G F → V g κ 7 (k + 410) (n + 2050) (t, zW g X0 F ad N S G B0 Oa m) 1049 [(4, .int (nI i)), (3, .ref Oa), (2, .ref M), (1, .ref X0), (0, .ref b)] []) {t : Nat × Nat} {ad N : Nat → Nat} {S : Int64} {G F : Nat → Nat → Int32} {m : Int64} (I : zLI g X0 Oa M ad N G F) : V g κ 7 k n (t, zW g X0 F ad N S G B0 Oa m) 392 [(4, .int (nI i)), (3, .ref Oa), (2, .ref M), (1, .ref X0), (0, .ref b)] [] := by
  obtain ⟨X, Hh, hXs, hb, hL, hG, hEm, hX, hO, gO⟩ := Cx
  obtain ⟨hK, hd, h43, hIr, hR, rfl⟩ := I
  refine V_aload_n X dL_law_392 3 rfl ?_
  refine V_aload_n X dL_law_393 4 rfl ?_
  refine V_iload X dL_law_394 0 rfl ?_
  refine V_iconst (v := nI 1) X dL_law_396 (by decide) ?_
  refine V_iaddN X dL_law_397 ?_
  refine V_sld X hXs hb (vp_in_nI (by omega) (by omega)) dL_law_398 (V.topi (fun a1 ea1 => ?_))
  refine V_aload_n X dL_law_399 4 rfl ?_
  refine V_iload X dL_law_400 0 rfl ?_
  refine V_iconst (v := nI 2) X dL_law_402 (by decide) ?_
  refine V_iaddN X dL_law_403 ?_
  refine V_sld X hXs hb (vp_in_nI (by omega) (by omega)) dL_law_404 (V.topi (fun a2 ea2 => ?_))
  refine V_aload_n X dL_law_405 4 rfl ?_
  refine V_iload X dL_law_406 0 rfl ?_
  refine V_iconst (v := nI 3) X dL_law_408 (by decide) ?_
  refine V_iaddN X dL_law_409 ?_
  refine V_sld X hXs hb (vp_in_nI (by omega) (by omega)) dL_law_410 (V.topi (fun a3 ea3 => ?_))
  refine V_aload_n X dL_law_411 1 rfl ?_
  refine V.so (σ' := (t, cW g X0 F (zup (rO g ad N S G B0) Oa (.inr (10, [.long m]))))) (congrArg (Prod.mk _) (zW_c hK (fun k hk => (hd k hk).2))) ?_
  refine V_callSX (rest := []) X Hh mw_L_coat st_L_coat (by decide) (by decide) (k_L_coat hX hG hO gO hR.1 a1 a2 a3 (hR.bd hIr) hR.2.2.2.1) rfl rfl (Nat.le_of_ble_eq_true rfl) ⟨by omega, by omega⟩ dL_law_412 (fun v9 σ' hp9 => ?_)
  obtain ⟨x4, rfl, t5, F6, m7, rfl, hc8⟩ := hp9
  show V g κ 7 (k + 1) (n + 6) (t5, cW g X0 F6 (zup (rO g ad N S G B0) Oa (.inr (10, [.long m7])))) 415 [(4, .int (nI i)), (3, .ref Oa), (2, .ref (ad 0)), (1, .ref X0), (0, .ref b)] [.int x4]
  refine V_istore X [(5, .int x4), (4, .int (nI i)), (3, .ref Oa), (2, .ref (ad 0)), (1, .ref X0), (0, .ref b)] dL_law_415 (by decide) rfl ?_
  refine V_aload_n X dL_law_417 3 rfl ?_
  refine V_aload_n X dL_law_418 5 rfl ?_
  refine V_iload X dL_law_419 1 rfl ?_
  refine V_iconst (v := nI 1) X dL_law_421 (by decide) ?_
  refine V_iaddN X dL_law_422 ?_
  refine V_sld X hXs hb (vp_in_nI (by omega) (by omega)) dL_law_423 (V.topi (fun a9 ea9 => ?_))
  rw [ea9.trans ea1.symm]
  refine V_aload_n X dL_law_424 5 rfl ?_
  refine V_iload X dL_law_425 1 rfl ?_
  refine V_iconst (v := nI 2) X dL_law_427 (by decide) ?_
  refine V_iaddN X dL_law_428 ?_
  refine V_sld X hXs hb (vp_in_nI (by omega) (by omega)) dL_law_429 (V.topi (fun a10 ea10 => ?_))
  rw [ea10.trans ea2.symm]
  refine V_aload_n X dL_law_430 5 rfl ?_
  refine V_iload X dL_law_431 1 rfl ?_
  refine V_iconst (v := nI 3) X dL_law_433 (by decide) ?_
  refine V_iaddN X dL_law_434 ?_
  refine V_sld X hXs hb (vp_in_nI (by omega) (by omega)) dL_law_435 (V.topi (fun a11 ea11 => ?_))
  rw [ea11.trans ea3.symm]
  refine V.fr (fun hfr => ?_)
  have hf : X0 + 61 ≤ t5.1 ∧ Oa < t5.1 := zW_fr hO hfr
  obtain ⟨hf1, hf2⟩ := hf
  refine V.so (σ' := (t5, rO g ad N S G (cW g X0 F6 (zup B0 Oa (.inr (10, [.long m7])))))) (congrArg (Prod.mk _) ((zW_c hK (fun k hk => (hd k hk).2)).symm.trans (zW_r hK hd))) ?_
  refine V_callV (rest := []) X Hh ml_L_112 in_X12_coat (ci := 16) rfl se_X12_coat (R_recv hK (q := 0) (rlv (by omega)) rfl) (by decide) (by decide) (k_X12_coat hK hIr a1 a2 a3 h43 hEm) rfl rfl (Nat.le_of_ble_eq_true rfl) ⟨by omega, by omega⟩ dL_law_436 (fun _ _ h => False.elim h) (fun v8 σ' hp8 => ?_)
  obtain ⟨x12, rfl, t13, ad20, N21, G14, rfl, hK22, hI16, hg23, hM15⟩ := hp8
  obtain ⟨hR17, hx18, hv19⟩ := ab_coat hR hc8 hM15
  have hd24 : ∀ k, rLive N21 k = true → (ad20 k < X0 ∨ X0 + 61 ≤ ad20 k) ∧ ad20 k ≠ Oa := fun k hk => by
    rcases hg23.2.2 k hk with ⟨j, hj, e⟩ | h
    · rw [e]; exact hd j hj
    · exact ⟨Or.inr (by omega), by omega⟩
  refine V.so (σ' := (t13, zW g X0 F6 ad20 N21 S G14 B0 Oa m7)) (congrArg (Prod.mk _) (zW_r hK22 hd24).symm) ?_
  show V g κ 7 (k + 3) (n + 20) (t13, zW g X0 F6 ad20 N21 S G14 B0 Oa m7) 439 [(5, .int x4), (4, .int (nI i)), (3, .ref Oa), (2, .ref (ad 0)), (1, .ref X0), (0, .ref b)] [.int x12]
  refine V_istore X [(6, .int x12), (5, .int x4), (4, .int (nI i)), (3, .ref Oa), (2, .ref (ad 0)), (1, .ref X0), (0, .ref b)] dL_law_439 (by decide) rfl ?_
  refine V_goto (tgt := 1049) X dL_law_441 (by decide) ?_
  exact V.sub [2, 3, 4, 5, 6] rfl (V.widen (by omega) (by omega) (done t13 ad20 N21 S G14 F6 m7 ⟨hK22, hd24, (hg23.2.1.trans h43), hI16, hR17, hg23.1⟩))
set_option maxRecDepth 100000 in
set_option maxHeartbeats 4000000 in
theorem lc_6 {g : zG} {κ : zC} {X0 Oa b L : Nat} {xs : Nat → Int32} (Cx : zCx g κ X0 Oa b L xs) {M : Nat} {B0 : Nat → Option va_E} {k n i : Nat} (hi : i + 4 ≤ L) (hk : k + 410 ≤ 823735) (hn : n + 2050 ≤ 6624900) (done : ∀ (t : Nat × Nat) (ad N : Nat → Nat) (S : Int64) (G F : Nat → Nat → Int32) (m : Int64), zLI g X0 Oa M ad N G F → V g κ 7 (k + 410) (n + 2050) (t, zW g X0 F ad N S G B0 Oa m) 1049 [(4, .int (nI i)), (3, .ref Oa), (2, .ref M), (1, .ref X0), (0, .ref b)] []) {t : Nat × Nat} {ad N : Nat → Nat} {S : Int64} {G F : Nat → Nat → Int32} {m : Int64} (I : zLI g X0 Oa M ad N G F) : V g κ 7 k n (t, zW g X0 F ad N S G B0 Oa m) 444 [(4, .int (nI i)), (3, .ref Oa), (2, .ref M), (1, .ref X0), (0, .ref b)] [] := by
  obtain ⟨X, Hh, hXs, hb, hL, hG, hEm, hX, hO, gO⟩ := Cx
  obtain ⟨hK, hd, h43, hIr, hR, rfl⟩ := I
  refine V_aload_n X dL_law_444 3 rfl ?_
  refine V_aload_n X dL_law_445 4 rfl ?_
  refine V_iload X dL_law_446 0 rfl ?_
  refine V_iconst (v := nI 1) X dL_law_448 (by decide) ?_
  refine V_iaddN X dL_law_449 ?_
  refine V_sld X hXs hb (vp_in_nI (by omega) (by omega)) dL_law_450 (V.topi (fun a1 ea1 => ?_))
  refine V_aload_n X dL_law_451 4 rfl ?_
  refine V_iload X dL_law_452 0 rfl ?_
  refine V_iconst (v := nI 2) X dL_law_454 (by decide) ?_
  refine V_iaddN X dL_law_455 ?_
  refine V_sld X hXs hb (vp_in_nI (by omega) (by omega)) dL_law_456 (V.topi (fun a2 ea2 => ?_))
  refine V_aload_n X dL_law_457 1 rfl ?_
  refine V.so (σ' := (t, cW g X0 F (zup (rO g ad N S G B0) Oa (.inr (10, [.long m]))))) (congrArg (Prod.mk _) (zW_c hK (fun k hk => (hd k hk).2))) ?_
  refine V_callSX (rest := []) X Hh mw_L_pawn st_L_pawn (by decide) (by decide) (k_L_pawn hX hG hO gO hR.1 a1 a2 (hR.bd hIr) hR.2.2.2.1) rfl rfl (Nat.le_of_ble_eq_true rfl) ⟨by omega, by omega⟩ dL_law_458 (fun v9 σ' hp9 => ?_)
  obtain ⟨x3, rfl, t4, F5, m6, rfl, hc7⟩ := hp9
  show V g κ 7 (k + 1) (n + 6) (t4, cW g X0 F5 (zup (rO g ad N S G B0) Oa (.inr (10, [.long m6])))) 461 [(4, .int (nI i)), (3, .ref Oa), (2, .ref (ad 0)), (1, .ref X0), (0, .ref b)] [.int x3]
  refine V_istore X [(5, .int x3), (4, .int (nI i)), (3, .ref Oa), (2, .ref (ad 0)), (1, .ref X0), (0, .ref b)] dL_law_461 (by decide) rfl ?_
  refine V_aload_n X dL_law_463 3 rfl ?_
  refine V_aload_n X dL_law_464 5 rfl ?_
  refine V_iload X dL_law_465 1 rfl ?_
  refine V_iconst (v := nI 1) X dL_law_467 (by decide) ?_
  refine V_iaddN X dL_law_468 ?_
  refine V_sld X hXs hb (vp_in_nI (by omega) (by omega)) dL_law_469 (V.topi (fun a8 ea8 => ?_))
  rw [ea8.trans ea1.symm]
  refine V_aload_n X dL_law_470 5 rfl ?_
  refine V_iload X dL_law_471 1 rfl ?_
  refine V_iconst (v := nI 2) X dL_law_473 (by decide) ?_
  refine V_iaddN X dL_law_474 ?_
  refine V_sld X hXs hb (vp_in_nI (by omega) (by omega)) dL_law_475 (V.topi (fun a9 ea9 => ?_))
  rw [ea9.trans ea2.symm]
  refine V.fr (fun hfr => ?_)
  have hf : X0 + 61 ≤ t4.1 ∧ Oa < t4.1 := zW_fr hO hfr
  obtain ⟨hf1, hf2⟩ := hf
  refine V.so (σ' := (t4, rO g ad N S G (cW g X0 F5 (zup B0 Oa (.inr (10, [.long m6])))))) (congrArg (Prod.mk _) ((zW_c hK (fun k hk => (hd k hk).2)).symm.trans (zW_r hK hd))) ?_
  refine V_callV (rest := []) X Hh ml_L_115 in_X12_pawn (ci := 16) rfl se_X12_pawn (R_recv hK (q := 0) (rlv (by omega)) rfl) (by decide) (by decide) (k_X12_pawn hK hIr a1 a2) rfl rfl (Nat.le_of_ble_eq_true rfl) ⟨by omega, by omega⟩ dL_law_476 (fun _ _ h => False.elim h) (fun v8 σ' hp8 => ?_)
  obtain ⟨x10, rfl, t11, G12, rfl, hI14, hM13⟩ := hp8
  obtain ⟨hR15, hx16, hv17⟩ := ab_pawn hR hIr hc7 hM13
  refine V.so (σ' := (t11, zW g X0 F5 ad N S G12 B0 Oa m6)) (congrArg (Prod.mk _) (zW_r hK hd).symm) ?_
  show V g κ 7 (k + 1) (n + 6) (t11, zW g X0 F5 ad N S G12 B0 Oa m6) 479 [(5, .int x3), (4, .int (nI i)), (3, .ref Oa), (2, .ref (ad 0)), (1, .ref X0), (0, .ref b)] [.int x10]
  refine V_istore X [(6, .int x10), (5, .int x3), (4, .int (nI i)), (3, .ref Oa), (2, .ref (ad 0)), (1, .ref X0), (0, .ref b)] dL_law_479 (by decide) rfl ?_
  refine V_goto (tgt := 1049) X dL_law_481 (by decide) ?_
  exact V.sub [2, 3, 4, 5, 6] rfl (V.widen (by omega) (by omega) (done t11 ad N S G12 F5 m6 ⟨hK, hd, h43, hI14, hR15, rfl⟩))
set_option maxRecDepth 100000 in
set_option maxHeartbeats 4000000 in
theorem lc_7 {g : zG} {κ : zC} {X0 Oa b L : Nat} {xs : Nat → Int32} (Cx : zCx g κ X0 Oa b L xs) {M : Nat} {B0 : Nat → Option va_E} {k n i : Nat} (hi : i + 4 ≤ L) (hk : k + 410 ≤ 823735) (hn : n + 2050 ≤ 6624900) (done : ∀ (t : Nat × Nat) (ad N : Nat → Nat) (S : Int64) (G F : Nat → Nat → Int32) (m : Int64), zLI g X0 Oa M ad N G F → V g κ 7 (k + 410) (n + 2050) (t, zW g X0 F ad N S G B0 Oa m) 1049 [(4, .int (nI i)), (3, .ref Oa), (2, .ref M), (1, .ref X0), (0, .ref b)] []) {t : Nat × Nat} {ad N : Nat → Nat} {S : Int64} {G F : Nat → Nat → Int32} {m : Int64} (I : zLI g X0 Oa M ad N G F) : V g κ 7 k n (t, zW g X0 F ad N S G B0 Oa m) 484 [(4, .int (nI i)), (3, .ref Oa), (2, .ref M), (1, .ref X0), (0, .ref b)] [] := by
  obtain ⟨X, Hh, hXs, hb, hL, hG, hEm, hX, hO, gO⟩ := Cx
  obtain ⟨hK, hd, h43, hIr, hR, rfl⟩ := I
  refine V_aload_n X dL_law_484 3 rfl ?_
  refine V_aload_n X dL_law_485 4 rfl ?_
  refine V_iload X dL_law_486 0 rfl ?_
  refine V_iconst (v := nI 1) X dL_law_488 (by decide) ?_
  refine V_iaddN X dL_law_489 ?_
  refine V_sld X hXs hb (vp_in_nI (by omega) (by omega)) dL_law_490 (V.topi (fun a1 ea1 => ?_))
  refine V_aload_n X dL_law_491 4 rfl ?_
  refine V_iload X dL_law_492 0 rfl ?_
  refine V_iconst (v := nI 2) X dL_law_494 (by decide) ?_
  refine V_iaddN X dL_law_495 ?_
  refine V_sld X hXs hb (vp_in_nI (by omega) (by omega)) dL_law_496 (V.topi (fun a2 ea2 => ?_))
  refine V_aload_n X dL_law_497 1 rfl ?_
  refine V.so (σ' := (t, cW g X0 F (zup (rO g ad N S G B0) Oa (.inr (10, [.long m]))))) (congrArg (Prod.mk _) (zW_c hK (fun k hk => (hd k hk).2))) ?_
  refine V_callSX (rest := []) X Hh mw_L_redeem st_L_redeem (by decide) (by decide) (k_L_redeem hX hG hO gO hR.1 a1 a2 (hR.bd hIr) hR.2.2.2.1) rfl rfl (Nat.le_of_ble_eq_true rfl) ⟨by omega, by omega⟩ dL_law_498 (fun v9 σ' hp9 => ?_)
  obtain ⟨x3, rfl, t4, F5, m6, rfl, hc7⟩ := hp9
  show V g κ 7 (k + 1) (n + 6) (t4, cW g X0 F5 (zup (rO g ad N S G B0) Oa (.inr (10, [.long m6])))) 501 [(4, .int (nI i)), (3, .ref Oa), (2, .ref (ad 0)), (1, .ref X0), (0, .ref b)] [.int x3]
  refine V_istore X [(5, .int x3), (4, .int (nI i)), (3, .ref Oa), (2, .ref (ad 0)), (1, .ref X0), (0, .ref b)] dL_law_501 (by decide) rfl ?_
  refine V_aload_n X dL_law_503 3 rfl ?_
  refine V_aload_n X dL_law_504 5 rfl ?_
  refine V_iload X dL_law_505 1 rfl ?_
  refine V_iconst (v := nI 1) X dL_law_507 (by decide) ?_
  refine V_iaddN X dL_law_508 ?_
  refine V_sld X hXs hb (vp_in_nI (by omega) (by omega)) dL_law_509 (V.topi (fun a8 ea8 => ?_))
  rw [ea8.trans ea1.symm]
  refine V_aload_n X dL_law_510 5 rfl ?_
  refine V_iload X dL_law_511 1 rfl ?_
  refine V_iconst (v := nI 2) X dL_law_513 (by decide) ?_
  refine V_iaddN X dL_law_514 ?_
  refine V_sld X hXs hb (vp_in_nI (by omega) (by omega)) dL_law_515 (V.topi (fun a9 ea9 => ?_))
  rw [ea9.trans ea2.symm]
  refine V.fr (fun hfr => ?_)
  have hf : X0 + 61 ≤ t4.1 ∧ Oa < t4.1 := zW_fr hO hfr
  obtain ⟨hf1, hf2⟩ := hf
  refine V.so (σ' := (t4, rO g ad N S G (cW g X0 F5 (zup B0 Oa (.inr (10, [.long m6])))))) (congrArg (Prod.mk _) ((zW_c hK (fun k hk => (hd k hk).2)).symm.trans (zW_r hK hd))) ?_
  refine V_callV (rest := []) X Hh ml_L_118 in_X12_redeem (ci := 16) rfl se_X12_redeem (R_recv hK (q := 0) (rlv (by omega)) rfl) (by decide) (by decide) (k_X12_redeem hK hIr a1 a2) rfl rfl (Nat.le_of_ble_eq_true rfl) ⟨by omega, by omega⟩ dL_law_516 (fun _ _ h => False.elim h) (fun v8 σ' hp8 => ?_)
  obtain ⟨x10, rfl, t11, G12, rfl, hI14, hM13⟩ := hp8
  obtain ⟨hR15, hx16, hv17⟩ := ab_redeem hR hIr hc7 hM13
  refine V.so (σ' := (t11, zW g X0 F5 ad N S G12 B0 Oa m6)) (congrArg (Prod.mk _) (zW_r hK hd).symm) ?_
  show V g κ 7 (k + 1) (n + 6) (t11, zW g X0 F5 ad N S G12 B0 Oa m6) 519 [(5, .int x3), (4, .int (nI i)), (3, .ref Oa), (2, .ref (ad 0)), (1, .ref X0), (0, .ref b)] [.int x10]
  refine V_istore X [(6, .int x10), (5, .int x3), (4, .int (nI i)), (3, .ref Oa), (2, .ref (ad 0)), (1, .ref X0), (0, .ref b)] dL_law_519 (by decide) rfl ?_
  refine V_goto (tgt := 1049) X dL_law_521 (by decide) ?_
  exact V.sub [2, 3, 4, 5, 6] rfl (V.widen (by omega) (by omega) (done t11 ad N S G12 F5 m6 ⟨hK, hd, h43, hI14, hR15, rfl⟩))
set_option maxRecDepth 100000 in
set_option maxHeartbeats 4000000 in
theorem lc_8 {g : zG} {κ : zC} {X0 Oa b L : Nat} {xs : Nat → Int32} (Cx : zCx g κ X0 Oa b L xs) {M : Nat} {B0 : Nat → Option va_E} {k n i : Nat} (hi : i + 4 ≤ L) (hk : k + 410 ≤ 823735) (hn : n + 2050 ≤ 6624900) (done : ∀ (t : Nat × Nat) (ad N : Nat → Nat) (S : Int64) (G F : Nat → Nat → Int32) (m : Int64), zLI g X0 Oa M ad N G F → V g κ 7 (k + 410) (n + 2050) (t, zW g X0 F ad N S G B0 Oa m) 1049 [(4, .int (nI i)), (3, .ref Oa), (2, .ref M), (1, .ref X0), (0, .ref b)] []) {t : Nat × Nat} {ad N : Nat → Nat} {S : Int64} {G F : Nat → Nat → Int32} {m : Int64} (I : zLI g X0 Oa M ad N G F) : V g κ 7 k n (t, zW g X0 F ad N S G B0 Oa m) 524 [(4, .int (nI i)), (3, .ref Oa), (2, .ref M), (1, .ref X0), (0, .ref b)] [] := by
  obtain ⟨X, Hh, hXs, hb, hL, hG, hEm, hX, hO, gO⟩ := Cx
  obtain ⟨hK, hd, h43, hIr, hR, rfl⟩ := I
  refine V_aload_n X dL_law_524 3 rfl ?_
  refine V_aload_n X dL_law_525 4 rfl ?_
  refine V_iload X dL_law_526 0 rfl ?_
  refine V_iconst (v := nI 1) X dL_law_528 (by decide) ?_
  refine V_iaddN X dL_law_529 ?_
  refine V_sld X hXs hb (vp_in_nI (by omega) (by omega)) dL_law_530 (V.topi (fun a1 ea1 => ?_))
  refine V_aload_n X dL_law_531 4 rfl ?_
  refine V_iload X dL_law_532 0 rfl ?_
  refine V_iconst (v := nI 2) X dL_law_534 (by decide) ?_
  refine V_iaddN X dL_law_535 ?_
  refine V_sld X hXs hb (vp_in_nI (by omega) (by omega)) dL_law_536 (V.topi (fun a2 ea2 => ?_))
  refine V_aload_n X dL_law_537 4 rfl ?_
  refine V_iload X dL_law_538 0 rfl ?_
  refine V_iconst (v := nI 3) X dL_law_540 (by decide) ?_
  refine V_iaddN X dL_law_541 ?_
  refine V_sld X hXs hb (vp_in_nI (by omega) (by omega)) dL_law_542 (V.topi (fun a3 ea3 => ?_))
  refine V_aload_n X dL_law_543 1 rfl ?_
  refine V.so (σ' := (t, cW g X0 F (zup (rO g ad N S G B0) Oa (.inr (10, [.long m]))))) (congrArg (Prod.mk _) (zW_c hK (fun k hk => (hd k hk).2))) ?_
  refine V_callSX (rest := []) X Hh mw_L_town st_L_town (by decide) (by decide) (k_L_town hX hG hO gO hR.1 a1 a2 a3 (hR.bd hIr) hR.2.2.2.1) rfl rfl (Nat.le_of_ble_eq_true rfl) ⟨by omega, by omega⟩ dL_law_544 (fun v9 σ' hp9 => ?_)
  obtain ⟨x4, rfl, t5, F6, m7, rfl, hc8⟩ := hp9
  show V g κ 7 (k + 1) (n + 6) (t5, cW g X0 F6 (zup (rO g ad N S G B0) Oa (.inr (10, [.long m7])))) 547 [(4, .int (nI i)), (3, .ref Oa), (2, .ref (ad 0)), (1, .ref X0), (0, .ref b)] [.int x4]
  refine V_istore X [(5, .int x4), (4, .int (nI i)), (3, .ref Oa), (2, .ref (ad 0)), (1, .ref X0), (0, .ref b)] dL_law_547 (by decide) rfl ?_
  refine V_aload_n X dL_law_549 3 rfl ?_
  refine V_aload_n X dL_law_550 5 rfl ?_
  refine V_iload X dL_law_551 1 rfl ?_
  refine V_iconst (v := nI 1) X dL_law_553 (by decide) ?_
  refine V_iaddN X dL_law_554 ?_
  refine V_sld X hXs hb (vp_in_nI (by omega) (by omega)) dL_law_555 (V.topi (fun a9 ea9 => ?_))
  rw [ea9.trans ea1.symm]
  refine V_aload_n X dL_law_556 5 rfl ?_
  refine V_iload X dL_law_557 1 rfl ?_
  refine V_iconst (v := nI 2) X dL_law_559 (by decide) ?_
  refine V_iaddN X dL_law_560 ?_
  refine V_sld X hXs hb (vp_in_nI (by omega) (by omega)) dL_law_561 (V.topi (fun a10 ea10 => ?_))
  rw [ea10.trans ea2.symm]
  refine V_aload_n X dL_law_562 5 rfl ?_
  refine V_iload X dL_law_563 1 rfl ?_
  refine V_iconst (v := nI 3) X dL_law_565 (by decide) ?_
  refine V_iaddN X dL_law_566 ?_
  refine V_sld X hXs hb (vp_in_nI (by omega) (by omega)) dL_law_567 (V.topi (fun a11 ea11 => ?_))
  rw [ea11.trans ea3.symm]
  refine V.fr (fun hfr => ?_)
  have hf : X0 + 61 ≤ t5.1 ∧ Oa < t5.1 := zW_fr hO hfr
  obtain ⟨hf1, hf2⟩ := hf
  refine V.so (σ' := (t5, rO g ad N S G (cW g X0 F6 (zup B0 Oa (.inr (10, [.long m7])))))) (congrArg (Prod.mk _) ((zW_c hK (fun k hk => (hd k hk).2)).symm.trans (zW_r hK hd))) ?_
  refine V_callV (rest := []) X Hh ml_L_121 in_X12_town (ci := 16) rfl se_X12_town (R_recv hK (q := 0) (rlv (by omega)) rfl) (by decide) (by decide) (k_X12_town hK hIr a1 a2 a3 h43 hEm) rfl rfl (Nat.le_of_ble_eq_true rfl) ⟨by omega, by omega⟩ dL_law_568 (fun _ _ h => False.elim h) (fun v8 σ' hp8 => ?_)
  obtain ⟨x12, rfl, t13, ad20, N21, G14, rfl, hK22, hI16, hg23, hM15⟩ := hp8
  obtain ⟨hR17, hx18, hv19⟩ := ab_town hR hc8 hM15
  have hd24 : ∀ k, rLive N21 k = true → (ad20 k < X0 ∨ X0 + 61 ≤ ad20 k) ∧ ad20 k ≠ Oa := fun k hk => by
    rcases hg23.2.2 k hk with ⟨j, hj, e⟩ | h
    · rw [e]; exact hd j hj
    · exact ⟨Or.inr (by omega), by omega⟩
  refine V.so (σ' := (t13, zW g X0 F6 ad20 N21 S G14 B0 Oa m7)) (congrArg (Prod.mk _) (zW_r hK22 hd24).symm) ?_
  show V g κ 7 (k + 3) (n + 19) (t13, zW g X0 F6 ad20 N21 S G14 B0 Oa m7) 571 [(5, .int x4), (4, .int (nI i)), (3, .ref Oa), (2, .ref (ad 0)), (1, .ref X0), (0, .ref b)] [.int x12]
  refine V_istore X [(6, .int x12), (5, .int x4), (4, .int (nI i)), (3, .ref Oa), (2, .ref (ad 0)), (1, .ref X0), (0, .ref b)] dL_law_571 (by decide) rfl ?_
  refine V_goto (tgt := 1049) X dL_law_573 (by decide) ?_
  exact V.sub [2, 3, 4, 5, 6] rfl (V.widen (by omega) (by omega) (done t13 ad20 N21 S G14 F6 m7 ⟨hK22, hd24, (hg23.2.1.trans h43), hI16, hR17, hg23.1⟩))
set_option maxRecDepth 100000 in
set_option maxHeartbeats 4000000 in
theorem lc_9 {g : zG} {κ : zC} {X0 Oa b L : Nat} {xs : Nat → Int32} (Cx : zCx g κ X0 Oa b L xs) {M : Nat} {B0 : Nat → Option va_E} {k n i : Nat} (hi : i + 4 ≤ L) (hk : k + 410 ≤ 823735) (hn : n + 2050 ≤ 6624900) (done : ∀ (t : Nat × Nat) (ad N : Nat → Nat) (S : Int64) (G F : Nat → Nat → Int32) (m : Int64), zLI g X0 Oa M ad N G F → V g κ 7 (k + 410) (n + 2050) (t, zW g X0 F ad N S G B0 Oa m) 1049 [(4, .int (nI i)), (3, .ref Oa), (2, .ref M), (1, .ref X0), (0, .ref b)] []) {t : Nat × Nat} {ad N : Nat → Nat} {S : Int64} {G F : Nat → Nat → Int32} {m : Int64} (I : zLI g X0 Oa M ad N G F) : V g κ 7 k n (t, zW g X0 F ad N S G B0 Oa m) 576 [(4, .int (nI i)), (3, .ref Oa), (2, .ref M), (1, .ref X0), (0, .ref b)] [] := by
  obtain ⟨X, Hh, hXs, hb, hL, hG, hEm, hX, hO, gO⟩ := Cx
  obtain ⟨hK, hd, h43, hIr, hR, rfl⟩ := I
  refine V_aload_n X dL_law_576 3 rfl ?_
  refine V_aload_n X dL_law_577 4 rfl ?_
  refine V_iload X dL_law_578 0 rfl ?_
  refine V_iconst (v := nI 1) X dL_law_580 (by decide) ?_
  refine V_iaddN X dL_law_581 ?_
  refine V_sld X hXs hb (vp_in_nI (by omega) (by omega)) dL_law_582 (V.topi (fun a1 ea1 => ?_))
  refine V_aload_n X dL_law_583 1 rfl ?_
  refine V.so (σ' := (t, cW g X0 F (zup (rO g ad N S G B0) Oa (.inr (10, [.long m]))))) (congrArg (Prod.mk _) (zW_c hK (fun k hk => (hd k hk).2))) ?_
  refine V_callSX (rest := []) X Hh mw_L_night st_L_night (by decide) (by decide) (k_L_night hX hG hO gO hR.1 a1 (hR.bd hIr) hR.2.2.2.1) rfl rfl (Nat.le_of_ble_eq_true rfl) ⟨by omega, by omega⟩ dL_law_584 (fun v9 σ' hp9 => ?_)
  obtain ⟨x2, rfl, t3, F4, m5, rfl, hc6⟩ := hp9
  show V g κ 7 (k + 1) (n + 6) (t3, cW g X0 F4 (zup (rO g ad N S G B0) Oa (.inr (10, [.long m5])))) 587 [(4, .int (nI i)), (3, .ref Oa), (2, .ref (ad 0)), (1, .ref X0), (0, .ref b)] [.int x2]
  refine V_istore X [(5, .int x2), (4, .int (nI i)), (3, .ref Oa), (2, .ref (ad 0)), (1, .ref X0), (0, .ref b)] dL_law_587 (by decide) rfl ?_
  refine V_aload_n X dL_law_589 3 rfl ?_
  refine V_aload_n X dL_law_590 5 rfl ?_
  refine V_iload X dL_law_591 1 rfl ?_
  refine V_iconst (v := nI 1) X dL_law_593 (by decide) ?_
  refine V_iaddN X dL_law_594 ?_
  refine V_sld X hXs hb (vp_in_nI (by omega) (by omega)) dL_law_595 (V.topi (fun a7 ea7 => ?_))
  rw [ea7.trans ea1.symm]
  refine V.fr (fun hfr => ?_)
  have hf : X0 + 61 ≤ t3.1 ∧ Oa < t3.1 := zW_fr hO hfr
  obtain ⟨hf1, hf2⟩ := hf
  refine V.so (σ' := (t3, rO g ad N S G (cW g X0 F4 (zup B0 Oa (.inr (10, [.long m5])))))) (congrArg (Prod.mk _) ((zW_c hK (fun k hk => (hd k hk).2)).symm.trans (zW_r hK hd))) ?_
  obtain ⟨b9, g9, hb9⟩ := rBs_ex (N := N) (G := G)
  refine V_callV (rest := []) X Hh ml_L_125 in_X12_night (ci := 16) rfl se_X12_night (R_recv hK (q := 0) (rlv (by omega)) rfl) (by decide) (by decide) (k_X12_night hK hIr a1 hR.2.2.2.2 b9 g9 hb9) rfl rfl (Nat.le_of_ble_eq_true rfl) ⟨by omega, by omega⟩ dL_law_596 (fun _ _ h => False.elim h) (fun v8 σ' hp8 => ?_)
  obtain ⟨x8, rfl, t9, G10, rfl, hI12, hM11⟩ := hp8
  obtain ⟨hR13, hx14, hv15⟩ := ab_night hR hIr hc6 hM11
  refine V.so (σ' := (t9, zW g X0 F4 ad N S G10 B0 Oa m5)) (congrArg (Prod.mk _) (zW_r hK hd).symm) ?_
  show V g κ 7 (k + 1) (n + 6) (t9, zW g X0 F4 ad N S G10 B0 Oa m5) 599 [(5, .int x2), (4, .int (nI i)), (3, .ref Oa), (2, .ref (ad 0)), (1, .ref X0), (0, .ref b)] [.int x8]
  refine V_istore X [(6, .int x8), (5, .int x2), (4, .int (nI i)), (3, .ref Oa), (2, .ref (ad 0)), (1, .ref X0), (0, .ref b)] dL_law_599 (by decide) rfl ?_
  refine V_goto (tgt := 1049) X dL_law_601 (by decide) ?_
  exact V.sub [2, 3, 4, 5, 6] rfl (V.widen (by omega) (by omega) (done t9 ad N S G10 F4 m5 ⟨hK, hd, h43, hI12, hR13, rfl⟩))
set_option maxRecDepth 100000 in
set_option maxHeartbeats 4000000 in
theorem lc_10 {g : zG} {κ : zC} {X0 Oa b L : Nat} {xs : Nat → Int32} (Cx : zCx g κ X0 Oa b L xs) {M : Nat} {B0 : Nat → Option va_E} {k n i : Nat} (hi : i + 4 ≤ L) (hk : k + 410 ≤ 823735) (hn : n + 2050 ≤ 6624900) (done : ∀ (t : Nat × Nat) (ad N : Nat → Nat) (S : Int64) (G F : Nat → Nat → Int32) (m : Int64), zLI g X0 Oa M ad N G F → V g κ 7 (k + 410) (n + 2050) (t, zW g X0 F ad N S G B0 Oa m) 1049 [(4, .int (nI i)), (3, .ref Oa), (2, .ref M), (1, .ref X0), (0, .ref b)] []) {t : Nat × Nat} {ad N : Nat → Nat} {S : Int64} {G F : Nat → Nat → Int32} {m : Int64} (I : zLI g X0 Oa M ad N G F) : V g κ 7 k n (t, zW g X0 F ad N S G B0 Oa m) 604 [(4, .int (nI i)), (3, .ref Oa), (2, .ref M), (1, .ref X0), (0, .ref b)] [] := by
  obtain ⟨X, Hh, hXs, hb, hL, hG, hEm, hX, hO, gO⟩ := Cx
  obtain ⟨hK, hd, h43, hIr, hR, rfl⟩ := I
  refine V_aload_n X dL_law_604 3 rfl ?_
  refine V_callV (rest := []) X Hh ml_L_126 in_X5_knock (ci := 9) rfl se_X5_knock (C_recv (q := 0) (by decide) rfl) (by decide) (by decide) (k_X5_knock hX hR.1) rfl rfl (Nat.le_of_ble_eq_true rfl) ⟨by omega, by omega⟩ dL_law_605 (fun _ _ h => False.elim h) (fun v9 σ' hp9 => ?_)
  obtain ⟨rfl, F3, rfl, hIk, hm4⟩ := hp9
  show V g κ 7 (k + 0) (n + 0) (t, zW g X0 F3 ad N S G B0 Oa m) 608 [(4, .int (nI i)), (3, .ref Oa), (2, .ref (ad 0)), (1, .ref X0), (0, .ref b)] [.int (F 0 8 + nI 1)]
  refine V_pop X dL_law_608 rfl ?_
  refine V_aload_n X dL_law_609 2 rfl ?_
  refine V.so (σ' := (t, rO g ad N S G (cW g X0 F3 (zup B0 Oa (.inr (10, [.long m])))))) (congrArg (Prod.mk _) (zW_r hK hd)) ?_
  refine V_callV (rest := []) X Hh ml_L_130 in_X12_knock (ci := 16) rfl se_X12_knock (R_recv hK (q := 0) (rlv (by omega)) rfl) (by decide) (by decide) (k_X12_knock hK hIr) rfl rfl (Nat.le_of_ble_eq_true rfl) ⟨by omega, by omega⟩ dL_law_610 (fun _ _ h => False.elim h) (fun v8 σ' hp8 => ?_)
  obtain ⟨rfl, G7, rfl, hI9, hM8⟩ := hp8
  have hR10 := ab_knock hR hIk hm4 hM8
  refine V.so (σ' := (t, zW g X0 F3 ad N S G7 B0 Oa m)) (congrArg (Prod.mk _) (zW_r hK hd).symm) ?_
  show V g κ 7 (k + 0) (n + 0) (t, zW g X0 F3 ad N S G7 B0 Oa m) 613 [(4, .int (nI i)), (3, .ref Oa), (2, .ref (ad 0)), (1, .ref X0), (0, .ref b)] [.int (G 0 9 + nI 1)]
  refine V_pop X dL_law_613 rfl ?_
  refine V_goto (tgt := 1049) X dL_law_614 (by decide) ?_
  exact V.sub [0, 1, 2, 3, 4] rfl (V.widen (by omega) (by omega) (done t ad N S G7 F3 m ⟨hK, hd, h43, hI9, hR10, rfl⟩))
set_option maxRecDepth 100000 in
set_option maxHeartbeats 4000000 in
theorem lc_11 {g : zG} {κ : zC} {X0 Oa b L : Nat} {xs : Nat → Int32} (Cx : zCx g κ X0 Oa b L xs) {M : Nat} {B0 : Nat → Option va_E} {k n i : Nat} (hi : i + 4 ≤ L) (hk : k + 410 ≤ 823735) (hn : n + 2050 ≤ 6624900) (done : ∀ (t : Nat × Nat) (ad N : Nat → Nat) (S : Int64) (G F : Nat → Nat → Int32) (m : Int64), zLI g X0 Oa M ad N G F → V g κ 7 (k + 410) (n + 2050) (t, zW g X0 F ad N S G B0 Oa m) 1049 [(4, .int (nI i)), (3, .ref Oa), (2, .ref M), (1, .ref X0), (0, .ref b)] []) {t : Nat × Nat} {ad N : Nat → Nat} {S : Int64} {G F : Nat → Nat → Int32} {m : Int64} (I : zLI g X0 Oa M ad N G F) : V g κ 7 k n (t, zW g X0 F ad N S G B0 Oa m) 617 [(4, .int (nI i)), (3, .ref Oa), (2, .ref M), (1, .ref X0), (0, .ref b)] [] := by
  obtain ⟨X, Hh, hXs, hb, hL, hG, hEm, hX, hO, gO⟩ := Cx
  obtain ⟨hK, hd, h43, hIr, hR, rfl⟩ := I
  refine V_aload_n X dL_law_617 3 rfl ?_
  refine V_aload_n X dL_law_618 4 rfl ?_
  refine V_iload X dL_law_619 0 rfl ?_
  refine V_iconst (v := nI 1) X dL_law_621 (by decide) ?_
  refine V_iaddN X dL_law_622 ?_
  refine V_sld X hXs hb (vp_in_nI (by omega) (by omega)) dL_law_623 (V.topi (fun a1 ea1 => ?_))
  refine V_aload_n X dL_law_624 4 rfl ?_
  refine V_iload X dL_law_625 0 rfl ?_
  refine V_iconst (v := nI 2) X dL_law_627 (by decide) ?_
  refine V_iaddN X dL_law_628 ?_
  refine V_sld X hXs hb (vp_in_nI (by omega) (by omega)) dL_law_629 (V.topi (fun a2 ea2 => ?_))
  refine V_aload_n X dL_law_630 1 rfl ?_
  refine V.so (σ' := (t, cW g X0 F (zup (rO g ad N S G B0) Oa (.inr (10, [.long m]))))) (congrArg (Prod.mk _) (zW_c hK (fun k hk => (hd k hk).2))) ?_
  refine V_callSX (rest := []) X Hh mw_L_ofPart st_L_ofPart (by decide) (by decide) (k_L_ofPart hX hG hO gO hR.1 a1 a2 (hR.bd hIr) hR.2.2.2.1) rfl rfl (Nat.le_of_ble_eq_true rfl) ⟨by omega, by omega⟩ dL_law_631 (fun v9 σ' hp9 => ?_)
  obtain ⟨x3, rfl, t4, F5, m6, rfl, hc7⟩ := hp9
  show V g κ 7 (k + 1) (n + 6) (t4, cW g X0 F5 (zup (rO g ad N S G B0) Oa (.inr (10, [.long m6])))) 634 [(4, .int (nI i)), (3, .ref Oa), (2, .ref (ad 0)), (1, .ref X0), (0, .ref b)] [.int x3]
  refine V_istore X [(5, .int x3), (4, .int (nI i)), (3, .ref Oa), (2, .ref (ad 0)), (1, .ref X0), (0, .ref b)] dL_law_634 (by decide) rfl ?_
  refine V_aload_n X dL_law_636 3 rfl ?_
  refine V_aload_n X dL_law_637 5 rfl ?_
  refine V_iload X dL_law_638 1 rfl ?_
  refine V_iconst (v := nI 1) X dL_law_640 (by decide) ?_
  refine V_iaddN X dL_law_641 ?_
  refine V_sld X hXs hb (vp_in_nI (by omega) (by omega)) dL_law_642 (V.topi (fun a8 ea8 => ?_))
  rw [ea8.trans ea1.symm]
  refine V_aload_n X dL_law_643 5 rfl ?_
  refine V_iload X dL_law_644 1 rfl ?_
  refine V_iconst (v := nI 2) X dL_law_646 (by decide) ?_
  refine V_iaddN X dL_law_647 ?_
  refine V_sld X hXs hb (vp_in_nI (by omega) (by omega)) dL_law_648 (V.topi (fun a9 ea9 => ?_))
  rw [ea9.trans ea2.symm]
  refine V.fr (fun hfr => ?_)
  have hf : X0 + 61 ≤ t4.1 ∧ Oa < t4.1 := zW_fr hO hfr
  obtain ⟨hf1, hf2⟩ := hf
  refine V.so (σ' := (t4, rO g ad N S G (cW g X0 F5 (zup B0 Oa (.inr (10, [.long m6])))))) (congrArg (Prod.mk _) ((zW_c hK (fun k hk => (hd k hk).2)).symm.trans (zW_r hK hd))) ?_
  obtain ⟨b9, g9, hb9⟩ := rBs_ex (N := N) (G := G)
  refine V_callV (rest := []) X Hh ml_L_133 in_X12_ofPart (ci := 16) rfl se_X12_ofPart (R_recv hK (q := 0) (rlv (by omega)) rfl) (by decide) (by decide) (k_X12_ofPart hK hIr a1 a2 hR.2.2.2.2 b9 g9 hb9) rfl rfl (Nat.le_of_ble_eq_true rfl) ⟨by omega, by omega⟩ dL_law_649 (fun _ _ h => False.elim h) (fun v8 σ' hp8 => ?_)
  obtain ⟨x10, rfl, t11, G12, rfl, hI14, hM13⟩ := hp8
  obtain ⟨hR15, hx16, hv17⟩ := ab_ofPart hR hIr hc7 hM13
  refine V.so (σ' := (t11, zW g X0 F5 ad N S G12 B0 Oa m6)) (congrArg (Prod.mk _) (zW_r hK hd).symm) ?_
  show V g κ 7 (k + 1) (n + 6) (t11, zW g X0 F5 ad N S G12 B0 Oa m6) 652 [(5, .int x3), (4, .int (nI i)), (3, .ref Oa), (2, .ref (ad 0)), (1, .ref X0), (0, .ref b)] [.int x10]
  refine V_istore X [(6, .int x10), (5, .int x3), (4, .int (nI i)), (3, .ref Oa), (2, .ref (ad 0)), (1, .ref X0), (0, .ref b)] dL_law_652 (by decide) rfl ?_
  refine V_goto (tgt := 1049) X dL_law_654 (by decide) ?_
  exact V.sub [2, 3, 4, 5, 6] rfl (V.widen (by omega) (by omega) (done t11 ad N S G12 F5 m6 ⟨hK, hd, h43, hI14, hR15, rfl⟩))
set_option maxRecDepth 100000 in
set_option maxHeartbeats 4000000 in
theorem lc_12 {g : zG} {κ : zC} {X0 Oa b L : Nat} {xs : Nat → Int32} (Cx : zCx g κ X0 Oa b L xs) {M : Nat} {B0 : Nat → Option va_E} {k n i : Nat} (hi : i + 4 ≤ L) (hk : k + 410 ≤ 823735) (hn : n + 2050 ≤ 6624900) (done : ∀ (t : Nat × Nat) (ad N : Nat → Nat) (S : Int64) (G F : Nat → Nat → Int32) (m : Int64), zLI g X0 Oa M ad N G F → V g κ 7 (k + 410) (n + 2050) (t, zW g X0 F ad N S G B0 Oa m) 1049 [(4, .int (nI i)), (3, .ref Oa), (2, .ref M), (1, .ref X0), (0, .ref b)] []) {t : Nat × Nat} {ad N : Nat → Nat} {S : Int64} {G F : Nat → Nat → Int32} {m : Int64} (I : zLI g X0 Oa M ad N G F) : V g κ 7 k n (t, zW g X0 F ad N S G B0 Oa m) 657 [(4, .int (nI i)), (3, .ref Oa), (2, .ref M), (1, .ref X0), (0, .ref b)] [] := by
  obtain ⟨X, Hh, hXs, hb, hL, hG, hEm, hX, hO, gO⟩ := Cx
  obtain ⟨hK, hd, h43, hIr, hR, rfl⟩ := I
  refine V_aload_n X dL_law_657 3 rfl ?_
  refine V_aload_n X dL_law_658 4 rfl ?_
  refine V_iload X dL_law_659 0 rfl ?_
  refine V_iconst (v := nI 1) X dL_law_661 (by decide) ?_
  refine V_iaddN X dL_law_662 ?_
  refine V_sld X hXs hb (vp_in_nI (by omega) (by omega)) dL_law_663 (V.topi (fun a1 ea1 => ?_))
  refine V_aload_n X dL_law_664 4 rfl ?_
  refine V_iload X dL_law_665 0 rfl ?_
  refine V_iconst (v := nI 2) X dL_law_667 (by decide) ?_
  refine V_iaddN X dL_law_668 ?_
  refine V_sld X hXs hb (vp_in_nI (by omega) (by omega)) dL_law_669 (V.topi (fun a2 ea2 => ?_))
  refine V_aload_n X dL_law_670 1 rfl ?_
  refine V.so (σ' := (t, cW g X0 F (zup (rO g ad N S G B0) Oa (.inr (10, [.long m]))))) (congrArg (Prod.mk _) (zW_c hK (fun k hk => (hd k hk).2))) ?_
  refine V_callSX (rest := []) X Hh mw_L_ofPlayer st_L_ofPlayer (by decide) (by decide) (k_L_ofPlayer hX hG hO gO hR.1 a1 a2 (hR.bd hIr) hR.2.2.2.1) rfl rfl (Nat.le_of_ble_eq_true rfl) ⟨by omega, by omega⟩ dL_law_671 (fun v9 σ' hp9 => ?_)
  obtain ⟨x3, rfl, t4, F5, m6, rfl, hc7⟩ := hp9
  show V g κ 7 (k + 1) (n + 6) (t4, cW g X0 F5 (zup (rO g ad N S G B0) Oa (.inr (10, [.long m6])))) 674 [(4, .int (nI i)), (3, .ref Oa), (2, .ref (ad 0)), (1, .ref X0), (0, .ref b)] [.int x3]
  refine V_istore X [(5, .int x3), (4, .int (nI i)), (3, .ref Oa), (2, .ref (ad 0)), (1, .ref X0), (0, .ref b)] dL_law_674 (by decide) rfl ?_
  refine V_aload_n X dL_law_676 3 rfl ?_
  refine V_aload_n X dL_law_677 5 rfl ?_
  refine V_iload X dL_law_678 1 rfl ?_
  refine V_iconst (v := nI 1) X dL_law_680 (by decide) ?_
  refine V_iaddN X dL_law_681 ?_
  refine V_sld X hXs hb (vp_in_nI (by omega) (by omega)) dL_law_682 (V.topi (fun a8 ea8 => ?_))
  rw [ea8.trans ea1.symm]
  refine V_aload_n X dL_law_683 5 rfl ?_
  refine V_iload X dL_law_684 1 rfl ?_
  refine V_iconst (v := nI 2) X dL_law_686 (by decide) ?_
  refine V_iaddN X dL_law_687 ?_
  refine V_sld X hXs hb (vp_in_nI (by omega) (by omega)) dL_law_688 (V.topi (fun a9 ea9 => ?_))
  rw [ea9.trans ea2.symm]
  refine V.fr (fun hfr => ?_)
  have hf : X0 + 61 ≤ t4.1 ∧ Oa < t4.1 := zW_fr hO hfr
  obtain ⟨hf1, hf2⟩ := hf
  refine V.so (σ' := (t4, rO g ad N S G (cW g X0 F5 (zup B0 Oa (.inr (10, [.long m6])))))) (congrArg (Prod.mk _) ((zW_c hK (fun k hk => (hd k hk).2)).symm.trans (zW_r hK hd))) ?_
  obtain ⟨b9, g9, hb9⟩ := rBs_ex (N := N) (G := G)
  refine V_callV (rest := []) X Hh ml_L_136 in_X12_ofPlayer (ci := 16) rfl se_X12_ofPlayer (R_recv hK (q := 0) (rlv (by omega)) rfl) (by decide) (by decide) (k_X12_ofPlayer hK hIr a1 a2 hR.2.2.2.2 b9 g9 hb9) rfl rfl (Nat.le_of_ble_eq_true rfl) ⟨by omega, by omega⟩ dL_law_689 (fun _ _ h => False.elim h) (fun v8 σ' hp8 => ?_)
  obtain ⟨x10, rfl, t11, G12, rfl, hI14, hM13⟩ := hp8
  obtain ⟨hR15, hx16, hv17⟩ := ab_ofPlayer hR hIr hc7 hM13
  refine V.so (σ' := (t11, zW g X0 F5 ad N S G12 B0 Oa m6)) (congrArg (Prod.mk _) (zW_r hK hd).symm) ?_
  show V g κ 7 (k + 1) (n + 6) (t11, zW g X0 F5 ad N S G12 B0 Oa m6) 692 [(5, .int x3), (4, .int (nI i)), (3, .ref Oa), (2, .ref (ad 0)), (1, .ref X0), (0, .ref b)] [.int x10]
  refine V_istore X [(6, .int x10), (5, .int x3), (4, .int (nI i)), (3, .ref Oa), (2, .ref (ad 0)), (1, .ref X0), (0, .ref b)] dL_law_692 (by decide) rfl ?_
  refine V_goto (tgt := 1049) X dL_law_694 (by decide) ?_
  exact V.sub [2, 3, 4, 5, 6] rfl (V.widen (by omega) (by omega) (done t11 ad N S G12 F5 m6 ⟨hK, hd, h43, hI14, hR15, rfl⟩))
set_option maxRecDepth 100000 in
set_option maxHeartbeats 4000000 in
theorem lc_13 {g : zG} {κ : zC} {X0 Oa b L : Nat} {xs : Nat → Int32} (Cx : zCx g κ X0 Oa b L xs) {M : Nat} {B0 : Nat → Option va_E} {k n i : Nat} (hi : i + 4 ≤ L) (hk : k + 410 ≤ 823735) (hn : n + 2050 ≤ 6624900) (done : ∀ (t : Nat × Nat) (ad N : Nat → Nat) (S : Int64) (G F : Nat → Nat → Int32) (m : Int64), zLI g X0 Oa M ad N G F → V g κ 7 (k + 410) (n + 2050) (t, zW g X0 F ad N S G B0 Oa m) 1049 [(4, .int (nI i)), (3, .ref Oa), (2, .ref M), (1, .ref X0), (0, .ref b)] []) {t : Nat × Nat} {ad N : Nat → Nat} {S : Int64} {G F : Nat → Nat → Int32} {m : Int64} (I : zLI g X0 Oa M ad N G F) : V g κ 7 k n (t, zW g X0 F ad N S G B0 Oa m) 697 [(4, .int (nI i)), (3, .ref Oa), (2, .ref M), (1, .ref X0), (0, .ref b)] [] := by
  obtain ⟨X, Hh, hXs, hb, hL, hG, hEm, hX, hO, gO⟩ := Cx
  obtain ⟨hK, hd, h43, hIr, hR, rfl⟩ := I
  refine V_aload_n X dL_law_697 3 rfl ?_
  refine V_aload_n X dL_law_698 4 rfl ?_
  refine V_iload X dL_law_699 0 rfl ?_
  refine V_iconst (v := nI 1) X dL_law_701 (by decide) ?_
  refine V_iaddN X dL_law_702 ?_
  refine V_sld X hXs hb (vp_in_nI (by omega) (by omega)) dL_law_703 (V.topi (fun a1 ea1 => ?_))
  refine V_aload_n X dL_law_704 4 rfl ?_
  refine V_iload X dL_law_705 0 rfl ?_
  refine V_iconst (v := nI 2) X dL_law_707 (by decide) ?_
  refine V_iaddN X dL_law_708 ?_
  refine V_sld X hXs hb (vp_in_nI (by omega) (by omega)) dL_law_709 (V.topi (fun a2 ea2 => ?_))
  refine V_aload_n X dL_law_710 1 rfl ?_
  refine V.so (σ' := (t, cW g X0 F (zup (rO g ad N S G B0) Oa (.inr (10, [.long m]))))) (congrArg (Prod.mk _) (zW_c hK (fun k hk => (hd k hk).2))) ?_
  refine V_callSX (rest := []) X Hh mw_L_ofScene st_L_ofScene (by decide) (by decide) (k_L_ofScene hX hG hO gO hR.1 a1 a2 (hR.bd hIr) hR.2.2.2.1) rfl rfl (Nat.le_of_ble_eq_true rfl) ⟨by omega, by omega⟩ dL_law_711 (fun v9 σ' hp9 => ?_)
  obtain ⟨x3, rfl, t4, F5, m6, rfl, hc7⟩ := hp9
  show V g κ 7 (k + 1) (n + 6) (t4, cW g X0 F5 (zup (rO g ad N S G B0) Oa (.inr (10, [.long m6])))) 714 [(4, .int (nI i)), (3, .ref Oa), (2, .ref (ad 0)), (1, .ref X0), (0, .ref b)] [.int x3]
  refine V_istore X [(5, .int x3), (4, .int (nI i)), (3, .ref Oa), (2, .ref (ad 0)), (1, .ref X0), (0, .ref b)] dL_law_714 (by decide) rfl ?_
  refine V_aload_n X dL_law_716 3 rfl ?_
  refine V_aload_n X dL_law_717 5 rfl ?_
  refine V_iload X dL_law_718 1 rfl ?_
  refine V_iconst (v := nI 1) X dL_law_720 (by decide) ?_
  refine V_iaddN X dL_law_721 ?_
  refine V_sld X hXs hb (vp_in_nI (by omega) (by omega)) dL_law_722 (V.topi (fun a8 ea8 => ?_))
  rw [ea8.trans ea1.symm]
  refine V_aload_n X dL_law_723 5 rfl ?_
  refine V_iload X dL_law_724 1 rfl ?_
  refine V_iconst (v := nI 2) X dL_law_726 (by decide) ?_
  refine V_iaddN X dL_law_727 ?_
  refine V_sld X hXs hb (vp_in_nI (by omega) (by omega)) dL_law_728 (V.topi (fun a9 ea9 => ?_))
  rw [ea9.trans ea2.symm]
  refine V.fr (fun hfr => ?_)
  have hf : X0 + 61 ≤ t4.1 ∧ Oa < t4.1 := zW_fr hO hfr
  obtain ⟨hf1, hf2⟩ := hf
  refine V.so (σ' := (t4, rO g ad N S G (cW g X0 F5 (zup B0 Oa (.inr (10, [.long m6])))))) (congrArg (Prod.mk _) ((zW_c hK (fun k hk => (hd k hk).2)).symm.trans (zW_r hK hd))) ?_
  refine V_callV (rest := []) X Hh ml_L_139 in_X12_ofScene (ci := 16) rfl se_X12_ofScene (R_recv hK (q := 0) (rlv (by omega)) rfl) (by decide) (by decide) (k_X12_ofScene hK hIr a1 a2) rfl rfl (Nat.le_of_ble_eq_true rfl) ⟨by omega, by omega⟩ dL_law_729 (fun _ _ h => False.elim h) (fun v8 σ' hp8 => ?_)
  obtain ⟨⟨x10, rfl⟩, t11, G12, rfl, hM13, hI14⟩ := hp8
  refine V.so (σ' := (t11, zW g X0 F5 ad N S G12 B0 Oa m6)) (congrArg (Prod.mk _) (zW_r hK hd).symm) ?_
  show V g κ 7 (k + 9) (n + 46) (t11, zW g X0 F5 ad N S G12 B0 Oa m6) 732 [(5, .int x3), (4, .int (nI i)), (3, .ref Oa), (2, .ref (ad 0)), (1, .ref X0), (0, .ref b)] [.int x10]
  refine V_istore X [(6, .int x10), (5, .int x3), (4, .int (nI i)), (3, .ref Oa), (2, .ref (ad 0)), (1, .ref X0), (0, .ref b)] dL_law_732 (by decide) rfl ?_
  refine V_goto (tgt := 1049) X dL_law_734 (by decide) ?_
  exact V.sub [2, 3, 4, 5, 6] rfl (V.widen (by omega) (by omega) (done t11 ad N S G12 F5 m6 ⟨hK, hd, h43, hI14, (hR.mv hc7 hM13), rfl⟩))
set_option maxRecDepth 100000 in
set_option maxHeartbeats 4000000 in
theorem lc_14 {g : zG} {κ : zC} {X0 Oa b L : Nat} {xs : Nat → Int32} (Cx : zCx g κ X0 Oa b L xs) {M : Nat} {B0 : Nat → Option va_E} {k n i : Nat} (hi : i + 4 ≤ L) (hk : k + 410 ≤ 823735) (hn : n + 2050 ≤ 6624900) (done : ∀ (t : Nat × Nat) (ad N : Nat → Nat) (S : Int64) (G F : Nat → Nat → Int32) (m : Int64), zLI g X0 Oa M ad N G F → V g κ 7 (k + 410) (n + 2050) (t, zW g X0 F ad N S G B0 Oa m) 1049 [(4, .int (nI i)), (3, .ref Oa), (2, .ref M), (1, .ref X0), (0, .ref b)] []) {t : Nat × Nat} {ad N : Nat → Nat} {S : Int64} {G F : Nat → Nat → Int32} {m : Int64} (I : zLI g X0 Oa M ad N G F) : V g κ 7 k n (t, zW g X0 F ad N S G B0 Oa m) 737 [(4, .int (nI i)), (3, .ref Oa), (2, .ref M), (1, .ref X0), (0, .ref b)] [] := by
  obtain ⟨X, Hh, hXs, hb, hL, hG, hEm, hX, hO, gO⟩ := Cx
  obtain ⟨hK, hd, h43, hIr, hR, rfl⟩ := I
  refine V_aload_n X dL_law_737 3 rfl ?_
  refine V_aload_n X dL_law_738 4 rfl ?_
  refine V_iload X dL_law_739 0 rfl ?_
  refine V_iconst (v := nI 1) X dL_law_741 (by decide) ?_
  refine V_iaddN X dL_law_742 ?_
  refine V_sld X hXs hb (vp_in_nI (by omega) (by omega)) dL_law_743 (V.topi (fun a1 ea1 => ?_))
  refine V_aload_n X dL_law_744 4 rfl ?_
  refine V_iload X dL_law_745 0 rfl ?_
  refine V_iconst (v := nI 2) X dL_law_747 (by decide) ?_
  refine V_iaddN X dL_law_748 ?_
  refine V_sld X hXs hb (vp_in_nI (by omega) (by omega)) dL_law_749 (V.topi (fun a2 ea2 => ?_))
  refine V_aload_n X dL_law_750 1 rfl ?_
  refine V.so (σ' := (t, cW g X0 F (zup (rO g ad N S G B0) Oa (.inr (10, [.long m]))))) (congrArg (Prod.mk _) (zW_c hK (fun k hk => (hd k hk).2))) ?_
  refine V_callSX (rest := []) X Hh mw_L_ofCoat st_L_ofCoat (by decide) (by decide) (k_L_ofCoat hX hG hO gO hR.1 a1 a2 (hR.bd hIr) hR.2.2.2.1) rfl rfl (Nat.le_of_ble_eq_true rfl) ⟨by omega, by omega⟩ dL_law_751 (fun v9 σ' hp9 => ?_)
  obtain ⟨x3, rfl, t4, F5, m6, rfl, hc7⟩ := hp9
  show V g κ 7 (k + 1) (n + 6) (t4, cW g X0 F5 (zup (rO g ad N S G B0) Oa (.inr (10, [.long m6])))) 754 [(4, .int (nI i)), (3, .ref Oa), (2, .ref (ad 0)), (1, .ref X0), (0, .ref b)] [.int x3]
  refine V_istore X [(5, .int x3), (4, .int (nI i)), (3, .ref Oa), (2, .ref (ad 0)), (1, .ref X0), (0, .ref b)] dL_law_754 (by decide) rfl ?_
  refine V_aload_n X dL_law_756 3 rfl ?_
  refine V_aload_n X dL_law_757 5 rfl ?_
  refine V_iload X dL_law_758 1 rfl ?_
  refine V_iconst (v := nI 1) X dL_law_760 (by decide) ?_
  refine V_iaddN X dL_law_761 ?_
  refine V_sld X hXs hb (vp_in_nI (by omega) (by omega)) dL_law_762 (V.topi (fun a8 ea8 => ?_))
  rw [ea8.trans ea1.symm]
  refine V_aload_n X dL_law_763 5 rfl ?_
  refine V_iload X dL_law_764 1 rfl ?_
  refine V_iconst (v := nI 2) X dL_law_766 (by decide) ?_
  refine V_iaddN X dL_law_767 ?_
  refine V_sld X hXs hb (vp_in_nI (by omega) (by omega)) dL_law_768 (V.topi (fun a9 ea9 => ?_))
  rw [ea9.trans ea2.symm]
  refine V.fr (fun hfr => ?_)
  have hf : X0 + 61 ≤ t4.1 ∧ Oa < t4.1 := zW_fr hO hfr
  obtain ⟨hf1, hf2⟩ := hf
  refine V.so (σ' := (t4, rO g ad N S G (cW g X0 F5 (zup B0 Oa (.inr (10, [.long m6])))))) (congrArg (Prod.mk _) ((zW_c hK (fun k hk => (hd k hk).2)).symm.trans (zW_r hK hd))) ?_
  obtain ⟨b9, g9, hb9⟩ := rBs_ex (N := N) (G := G)
  refine V_callV (rest := []) X Hh ml_L_142 in_X12_ofCoat (ci := 16) rfl se_X12_ofCoat (R_recv hK (q := 0) (rlv (by omega)) rfl) (by decide) (by decide) (k_X12_ofCoat hK hIr a1 a2 hR.2.2.2.2 b9 g9 hb9) rfl rfl (Nat.le_of_ble_eq_true rfl) ⟨by omega, by omega⟩ dL_law_769 (fun _ _ h => False.elim h) (fun v8 σ' hp8 => ?_)
  obtain ⟨x10, rfl, t11, G12, rfl, hI14, hM13⟩ := hp8
  obtain ⟨hR15, hx16, hv17⟩ := ab_ofCoat hR hIr hc7 hM13
  refine V.so (σ' := (t11, zW g X0 F5 ad N S G12 B0 Oa m6)) (congrArg (Prod.mk _) (zW_r hK hd).symm) ?_
  show V g κ 7 (k + 1) (n + 6) (t11, zW g X0 F5 ad N S G12 B0 Oa m6) 772 [(5, .int x3), (4, .int (nI i)), (3, .ref Oa), (2, .ref (ad 0)), (1, .ref X0), (0, .ref b)] [.int x10]
  refine V_istore X [(6, .int x10), (5, .int x3), (4, .int (nI i)), (3, .ref Oa), (2, .ref (ad 0)), (1, .ref X0), (0, .ref b)] dL_law_772 (by decide) rfl ?_
  refine V_goto (tgt := 1049) X dL_law_774 (by decide) ?_
  exact V.sub [2, 3, 4, 5, 6] rfl (V.widen (by omega) (by omega) (done t11 ad N S G12 F5 m6 ⟨hK, hd, h43, hI14, hR15, rfl⟩))
set_option maxRecDepth 100000 in
set_option maxHeartbeats 4000000 in
theorem lc_15 {g : zG} {κ : zC} {X0 Oa b L : Nat} {xs : Nat → Int32} (Cx : zCx g κ X0 Oa b L xs) {M : Nat} {B0 : Nat → Option va_E} {k n i : Nat} (hi : i + 4 ≤ L) (hk : k + 410 ≤ 823735) (hn : n + 2050 ≤ 6624900) (done : ∀ (t : Nat × Nat) (ad N : Nat → Nat) (S : Int64) (G F : Nat → Nat → Int32) (m : Int64), zLI g X0 Oa M ad N G F → V g κ 7 (k + 410) (n + 2050) (t, zW g X0 F ad N S G B0 Oa m) 1049 [(4, .int (nI i)), (3, .ref Oa), (2, .ref M), (1, .ref X0), (0, .ref b)] []) {t : Nat × Nat} {ad N : Nat → Nat} {S : Int64} {G F : Nat → Nat → Int32} {m : Int64} (I : zLI g X0 Oa M ad N G F) : V g κ 7 k n (t, zW g X0 F ad N S G B0 Oa m) 777 [(4, .int (nI i)), (3, .ref Oa), (2, .ref M), (1, .ref X0), (0, .ref b)] [] := by
  obtain ⟨X, Hh, hXs, hb, hL, hG, hEm, hX, hO, gO⟩ := Cx
  obtain ⟨hK, hd, h43, hIr, hR, rfl⟩ := I
  refine V_aload_n X dL_law_777 3 rfl ?_
  refine V_aload_n X dL_law_778 4 rfl ?_
  refine V_iload X dL_law_779 0 rfl ?_
  refine V_iconst (v := nI 1) X dL_law_781 (by decide) ?_
  refine V_iaddN X dL_law_782 ?_
  refine V_sld X hXs hb (vp_in_nI (by omega) (by omega)) dL_law_783 (V.topi (fun a1 ea1 => ?_))
  refine V_aload_n X dL_law_784 4 rfl ?_
  refine V_iload X dL_law_785 0 rfl ?_
  refine V_iconst (v := nI 2) X dL_law_787 (by decide) ?_
  refine V_iaddN X dL_law_788 ?_
  refine V_sld X hXs hb (vp_in_nI (by omega) (by omega)) dL_law_789 (V.topi (fun a2 ea2 => ?_))
  refine V_aload_n X dL_law_790 1 rfl ?_
  refine V.so (σ' := (t, cW g X0 F (zup (rO g ad N S G B0) Oa (.inr (10, [.long m]))))) (congrArg (Prod.mk _) (zW_c hK (fun k hk => (hd k hk).2))) ?_
  refine V_callSX (rest := []) X Hh mw_L_ofTown st_L_ofTown (by decide) (by decide) (k_L_ofTown hX hG hO gO hR.1 a1 a2 (hR.bd hIr) hR.2.2.2.1) rfl rfl (Nat.le_of_ble_eq_true rfl) ⟨by omega, by omega⟩ dL_law_791 (fun v9 σ' hp9 => ?_)
  obtain ⟨x3, rfl, t4, F5, m6, rfl, hc7⟩ := hp9
  show V g κ 7 (k + 1) (n + 6) (t4, cW g X0 F5 (zup (rO g ad N S G B0) Oa (.inr (10, [.long m6])))) 794 [(4, .int (nI i)), (3, .ref Oa), (2, .ref (ad 0)), (1, .ref X0), (0, .ref b)] [.int x3]
  refine V_istore X [(5, .int x3), (4, .int (nI i)), (3, .ref Oa), (2, .ref (ad 0)), (1, .ref X0), (0, .ref b)] dL_law_794 (by decide) rfl ?_
  refine V_aload_n X dL_law_796 3 rfl ?_
  refine V_aload_n X dL_law_797 5 rfl ?_
  refine V_iload X dL_law_798 1 rfl ?_
  refine V_iconst (v := nI 1) X dL_law_800 (by decide) ?_
  refine V_iaddN X dL_law_801 ?_
  refine V_sld X hXs hb (vp_in_nI (by omega) (by omega)) dL_law_802 (V.topi (fun a8 ea8 => ?_))
  rw [ea8.trans ea1.symm]
  refine V_aload_n X dL_law_803 5 rfl ?_
  refine V_iload X dL_law_804 1 rfl ?_
  refine V_iconst (v := nI 2) X dL_law_806 (by decide) ?_
  refine V_iaddN X dL_law_807 ?_
  refine V_sld X hXs hb (vp_in_nI (by omega) (by omega)) dL_law_808 (V.topi (fun a9 ea9 => ?_))
  rw [ea9.trans ea2.symm]
  refine V.fr (fun hfr => ?_)
  have hf : X0 + 61 ≤ t4.1 ∧ Oa < t4.1 := zW_fr hO hfr
  obtain ⟨hf1, hf2⟩ := hf
  refine V.so (σ' := (t4, rO g ad N S G (cW g X0 F5 (zup B0 Oa (.inr (10, [.long m6])))))) (congrArg (Prod.mk _) ((zW_c hK (fun k hk => (hd k hk).2)).symm.trans (zW_r hK hd))) ?_
  obtain ⟨b9, g9, hb9⟩ := rBs_ex (N := N) (G := G)
  refine V_callV (rest := []) X Hh ml_L_145 in_X12_ofTown (ci := 16) rfl se_X12_ofTown (R_recv hK (q := 0) (rlv (by omega)) rfl) (by decide) (by decide) (k_X12_ofTown hK hIr a1 a2 hR.2.2.2.2 b9 g9 hb9) rfl rfl (Nat.le_of_ble_eq_true rfl) ⟨by omega, by omega⟩ dL_law_809 (fun _ _ h => False.elim h) (fun v8 σ' hp8 => ?_)
  obtain ⟨x10, rfl, t11, G12, rfl, hI14, hM13⟩ := hp8
  obtain ⟨hR15, hx16, hv17⟩ := ab_ofTown hR hIr hc7 hM13
  refine V.so (σ' := (t11, zW g X0 F5 ad N S G12 B0 Oa m6)) (congrArg (Prod.mk _) (zW_r hK hd).symm) ?_
  show V g κ 7 (k + 1) (n + 6) (t11, zW g X0 F5 ad N S G12 B0 Oa m6) 812 [(5, .int x3), (4, .int (nI i)), (3, .ref Oa), (2, .ref (ad 0)), (1, .ref X0), (0, .ref b)] [.int x10]
  refine V_istore X [(6, .int x10), (5, .int x3), (4, .int (nI i)), (3, .ref Oa), (2, .ref (ad 0)), (1, .ref X0), (0, .ref b)] dL_law_812 (by decide) rfl ?_
  refine V_goto (tgt := 1049) X dL_law_814 (by decide) ?_
  exact V.sub [2, 3, 4, 5, 6] rfl (V.widen (by omega) (by omega) (done t11 ad N S G12 F5 m6 ⟨hK, hd, h43, hI14, hR15, rfl⟩))
set_option maxRecDepth 100000 in
set_option maxHeartbeats 4000000 in
theorem lc_16 {g : zG} {κ : zC} {X0 Oa b L : Nat} {xs : Nat → Int32} (Cx : zCx g κ X0 Oa b L xs) {M : Nat} {B0 : Nat → Option va_E} {k n i : Nat} (hi : i + 4 ≤ L) (hk : k + 410 ≤ 823735) (hn : n + 2050 ≤ 6624900) (done : ∀ (t : Nat × Nat) (ad N : Nat → Nat) (S : Int64) (G F : Nat → Nat → Int32) (m : Int64), zLI g X0 Oa M ad N G F → V g κ 7 (k + 410) (n + 2050) (t, zW g X0 F ad N S G B0 Oa m) 1049 [(4, .int (nI i)), (3, .ref Oa), (2, .ref M), (1, .ref X0), (0, .ref b)] []) {t : Nat × Nat} {ad N : Nat → Nat} {S : Int64} {G F : Nat → Nat → Int32} {m : Int64} (I : zLI g X0 Oa M ad N G F) : V g κ 7 k n (t, zW g X0 F ad N S G B0 Oa m) 817 [(4, .int (nI i)), (3, .ref Oa), (2, .ref M), (1, .ref X0), (0, .ref b)] [] := by
  obtain ⟨X, Hh, hXs, hb, hL, hG, hEm, hX, hO, gO⟩ := Cx
  obtain ⟨hK, hd, h43, hIr, hR, rfl⟩ := I
  refine V_aload_n X dL_law_817 3 rfl ?_
  refine V_aload_n X dL_law_818 4 rfl ?_
  refine V_iload X dL_law_819 0 rfl ?_
  refine V_iconst (v := nI 1) X dL_law_821 (by decide) ?_
  refine V_iaddN X dL_law_822 ?_
  refine V_sld X hXs hb (vp_in_nI (by omega) (by omega)) dL_law_823 (V.topi (fun a1 ea1 => ?_))
  refine V_aload_n X dL_law_824 1 rfl ?_
  refine V.so (σ' := (t, cW g X0 F (zup (rO g ad N S G B0) Oa (.inr (10, [.long m]))))) (congrArg (Prod.mk _) (zW_c hK (fun k hk => (hd k hk).2))) ?_
  refine V_callSX (rest := []) X Hh mw_L_house st_L_house (by decide) (by decide) (k_L_house hX hG hO gO hR.1 a1 (hR.bd hIr) hR.2.2.2.1) rfl rfl (Nat.le_of_ble_eq_true rfl) ⟨by omega, by omega⟩ dL_law_825 (fun v9 σ' hp9 => ?_)
  obtain ⟨x2, rfl, t3, F4, m5, rfl, hc6⟩ := hp9
  show V g κ 7 (k + 1) (n + 6) (t3, cW g X0 F4 (zup (rO g ad N S G B0) Oa (.inr (10, [.long m5])))) 828 [(4, .int (nI i)), (3, .ref Oa), (2, .ref (ad 0)), (1, .ref X0), (0, .ref b)] [.int x2]
  refine V_istore X [(5, .int x2), (4, .int (nI i)), (3, .ref Oa), (2, .ref (ad 0)), (1, .ref X0), (0, .ref b)] dL_law_828 (by decide) rfl ?_
  refine V_aload_n X dL_law_830 3 rfl ?_
  refine V_aload_n X dL_law_831 5 rfl ?_
  refine V_iload X dL_law_832 1 rfl ?_
  refine V_iconst (v := nI 1) X dL_law_834 (by decide) ?_
  refine V_iaddN X dL_law_835 ?_
  refine V_sld X hXs hb (vp_in_nI (by omega) (by omega)) dL_law_836 (V.topi (fun a7 ea7 => ?_))
  rw [ea7.trans ea1.symm]
  refine V.fr (fun hfr => ?_)
  have hf : X0 + 61 ≤ t3.1 ∧ Oa < t3.1 := zW_fr hO hfr
  obtain ⟨hf1, hf2⟩ := hf
  refine V.so (σ' := (t3, rO g ad N S G (cW g X0 F4 (zup B0 Oa (.inr (10, [.long m5])))))) (congrArg (Prod.mk _) ((zW_c hK (fun k hk => (hd k hk).2)).symm.trans (zW_r hK hd))) ?_
  refine V_callV (rest := []) X Hh ml_L_148 in_X12_house (ci := 16) rfl se_X12_house (R_recv hK (q := 0) (rlv (by omega)) rfl) (by decide) (by decide) (k_X12_house hK hIr a1) rfl rfl (Nat.le_of_ble_eq_true rfl) ⟨by omega, by omega⟩ dL_law_837 (fun _ _ h => False.elim h) (fun v8 σ' hp8 => ?_)
  obtain ⟨⟨x8, rfl⟩, t9, G10, rfl, hM11, hI12⟩ := hp8
  refine V.so (σ' := (t9, zW g X0 F4 ad N S G10 B0 Oa m5)) (congrArg (Prod.mk _) (zW_r hK hd).symm) ?_
  show V g κ 7 (k + 2) (n + 10) (t9, zW g X0 F4 ad N S G10 B0 Oa m5) 840 [(5, .int x2), (4, .int (nI i)), (3, .ref Oa), (2, .ref (ad 0)), (1, .ref X0), (0, .ref b)] [.int x8]
  refine V_istore X [(6, .int x8), (5, .int x2), (4, .int (nI i)), (3, .ref Oa), (2, .ref (ad 0)), (1, .ref X0), (0, .ref b)] dL_law_840 (by decide) rfl ?_
  refine V_goto (tgt := 1049) X dL_law_842 (by decide) ?_
  exact V.sub [2, 3, 4, 5, 6] rfl (V.widen (by omega) (by omega) (done t9 ad N S G10 F4 m5 ⟨hK, hd, h43, hI12, (hR.mv hc6 hM11), rfl⟩))
set_option maxRecDepth 100000 in
set_option maxHeartbeats 4000000 in
theorem lc_17 {g : zG} {κ : zC} {X0 Oa b L : Nat} {xs : Nat → Int32} (Cx : zCx g κ X0 Oa b L xs) {M : Nat} {B0 : Nat → Option va_E} {k n i : Nat} (hi : i + 4 ≤ L) (hk : k + 410 ≤ 823735) (hn : n + 2050 ≤ 6624900) (done : ∀ (t : Nat × Nat) (ad N : Nat → Nat) (S : Int64) (G F : Nat → Nat → Int32) (m : Int64), zLI g X0 Oa M ad N G F → V g κ 7 (k + 410) (n + 2050) (t, zW g X0 F ad N S G B0 Oa m) 1049 [(4, .int (nI i)), (3, .ref Oa), (2, .ref M), (1, .ref X0), (0, .ref b)] []) {t : Nat × Nat} {ad N : Nat → Nat} {S : Int64} {G F : Nat → Nat → Int32} {m : Int64} (I : zLI g X0 Oa M ad N G F) : V g κ 7 k n (t, zW g X0 F ad N S G B0 Oa m) 845 [(4, .int (nI i)), (3, .ref Oa), (2, .ref M), (1, .ref X0), (0, .ref b)] [] := by
  obtain ⟨X, Hh, hXs, hb, hL, hG, hEm, hX, hO, gO⟩ := Cx
  obtain ⟨hK, hd, h43, hIr, hR, rfl⟩ := I
  refine V_aload_n X dL_law_845 3 rfl ?_
  refine V_callV (rest := []) X Hh ml_L_149 in_X5_cast (ci := 9) rfl se_X5_cast (C_recv (q := 0) (by decide) rfl) (by decide) (by decide) (k_X5_cast hX hR.1 (hR.bd hIr) hR.2.2.2.1) rfl rfl (Nat.le_of_ble_eq_true rfl) ⟨by omega, by omega⟩ dL_law_846 (fun _ _ h => False.elim h) (fun v9 σ' hp9 => ?_)
  obtain ⟨t2, F3, hm4, hp9⟩ := hp9
  rcases hp9 with ⟨rfl, rfl⟩ | ⟨Sx, nx, fw, hnx, rfl, rfl, fS, fW⟩
  · show V g κ 7 (k + 4) (n + 31) (t2, zW g X0 F3 ad N S G B0 Oa m) 849 [(4, .int (nI i)), (3, .ref Oa), (2, .ref (ad 0)), (1, .ref X0), (0, .ref b)] [.ref (g.2.2.2 6)]
    refine V_pop X dL_law_849 rfl ?_
    refine V_aload_n X dL_law_850 2 rfl ?_
    refine V.so (σ' := (t2, rO g ad N S G (cW g X0 F3 (zup B0 Oa (.inr (10, [.long m])))))) (congrArg (Prod.mk _) (zW_r hK hd)) ?_
    refine V_callV (rest := []) X Hh ml_L_153 in_X12_cast (ci := 16) rfl se_X12_cast (R_recv hK (q := 0) (rlv (by omega)) rfl) (by decide) (by decide) (k_X12_cast hK hIr) rfl rfl (Nat.le_of_ble_eq_true rfl) ⟨by omega, by omega⟩ dL_law_851 (fun _ _ h => False.elim h) (fun v8 σ' hp8 => ?_)
    obtain ⟨t6, G7, hM8, hI9, hp8⟩ := hp8
    rcases hp8 with ⟨rfl, rfl⟩ | ⟨Sx, nx, fw, hnx, rfl, rfl, fS, fW⟩
    · show V g κ 7 (k + 8) (n + 62) (t6, rO g ad N S G7 (cW g X0 F3 (zup B0 Oa (.inr (10, [.long m]))))) 854 [(4, .int (nI i)), (3, .ref Oa), (2, .ref (ad 0)), (1, .ref X0), (0, .ref b)] [.ref (g.2.2.2 7)]
      refine V.so (σ' := (t6, zW g X0 F3 ad N S G7 B0 Oa m)) (congrArg (Prod.mk _) (zW_r hK hd).symm) ?_
      refine V_pop X dL_law_854 rfl ?_
      refine V_goto (tgt := 1049) X dL_law_855 (by decide) ?_
      exact V.sub [0, 1, 2, 3, 4] rfl (V.widen (by omega) (by omega) (done t6 ad N S G7 F3 m ⟨hK, hd, h43, hI9, (hR.mv hm4 hM8), rfl⟩))
    · refine V.weak (f' := rO g ad N S G7 (cW g X0 F3 (zup B0 Oa (.inr (10, [.long m]))))) (rO_sub (zSx_sub fS.2 fW.2)) ?_
      show V g κ 7 (k + 8) (n + 62) (t6, rO g ad N S G7 (cW g X0 F3 (zup B0 Oa (.inr (10, [.long m]))))) 854 [(4, .int (nI i)), (3, .ref Oa), (2, .ref (ad 0)), (1, .ref X0), (0, .ref b)] [.ref Sx]
      refine V.so (σ' := (t6, zW g X0 F3 ad N S G7 B0 Oa m)) (congrArg (Prod.mk _) (zW_r hK hd).symm) ?_
      refine V_pop X dL_law_854 rfl ?_
      refine V_goto (tgt := 1049) X dL_law_855 (by decide) ?_
      exact V.sub [0, 1, 2, 3, 4] rfl (V.widen (by omega) (by omega) (done t6 ad N S G7 F3 m ⟨hK, hd, h43, hI9, (hR.mv hm4 hM8), rfl⟩))
  · refine V.weak (f' := zW g X0 F3 ad N S G B0 Oa m) (cW_sub (zSx_sub fS.2 fW.2)) ?_
    show V g κ 7 (k + 4) (n + 31) (t2, zW g X0 F3 ad N S G B0 Oa m) 849 [(4, .int (nI i)), (3, .ref Oa), (2, .ref (ad 0)), (1, .ref X0), (0, .ref b)] [.ref Sx]
    refine V_pop X dL_law_849 rfl ?_
    refine V_aload_n X dL_law_850 2 rfl ?_
    refine V.so (σ' := (t2, rO g ad N S G (cW g X0 F3 (zup B0 Oa (.inr (10, [.long m])))))) (congrArg (Prod.mk _) (zW_r hK hd)) ?_
    refine V_callV (rest := []) X Hh ml_L_153 in_X12_cast (ci := 16) rfl se_X12_cast (R_recv hK (q := 0) (rlv (by omega)) rfl) (by decide) (by decide) (k_X12_cast hK hIr) rfl rfl (Nat.le_of_ble_eq_true rfl) ⟨by omega, by omega⟩ dL_law_851 (fun _ _ h => False.elim h) (fun v8 σ' hp8 => ?_)
    obtain ⟨t6, G7, hM8, hI9, hp8⟩ := hp8
    rcases hp8 with ⟨rfl, rfl⟩ | ⟨Sx, nx, fw, hnx, rfl, rfl, fS, fW⟩
    · show V g κ 7 (k + 8) (n + 62) (t6, rO g ad N S G7 (cW g X0 F3 (zup B0 Oa (.inr (10, [.long m]))))) 854 [(4, .int (nI i)), (3, .ref Oa), (2, .ref (ad 0)), (1, .ref X0), (0, .ref b)] [.ref (g.2.2.2 7)]
      refine V.so (σ' := (t6, zW g X0 F3 ad N S G7 B0 Oa m)) (congrArg (Prod.mk _) (zW_r hK hd).symm) ?_
      refine V_pop X dL_law_854 rfl ?_
      refine V_goto (tgt := 1049) X dL_law_855 (by decide) ?_
      exact V.sub [0, 1, 2, 3, 4] rfl (V.widen (by omega) (by omega) (done t6 ad N S G7 F3 m ⟨hK, hd, h43, hI9, (hR.mv hm4 hM8), rfl⟩))
    · refine V.weak (f' := rO g ad N S G7 (cW g X0 F3 (zup B0 Oa (.inr (10, [.long m]))))) (rO_sub (zSx_sub fS.2 fW.2)) ?_
      show V g κ 7 (k + 8) (n + 62) (t6, rO g ad N S G7 (cW g X0 F3 (zup B0 Oa (.inr (10, [.long m]))))) 854 [(4, .int (nI i)), (3, .ref Oa), (2, .ref (ad 0)), (1, .ref X0), (0, .ref b)] [.ref Sx]
      refine V.so (σ' := (t6, zW g X0 F3 ad N S G7 B0 Oa m)) (congrArg (Prod.mk _) (zW_r hK hd).symm) ?_
      refine V_pop X dL_law_854 rfl ?_
      refine V_goto (tgt := 1049) X dL_law_855 (by decide) ?_
      exact V.sub [0, 1, 2, 3, 4] rfl (V.widen (by omega) (by omega) (done t6 ad N S G7 F3 m ⟨hK, hd, h43, hI9, (hR.mv hm4 hM8), rfl⟩))
set_option maxRecDepth 100000 in
set_option maxHeartbeats 4000000 in
theorem lc_18 {g : zG} {κ : zC} {X0 Oa b L : Nat} {xs : Nat → Int32} (Cx : zCx g κ X0 Oa b L xs) {M : Nat} {B0 : Nat → Option va_E} {k n i : Nat} (hi : i + 4 ≤ L) (hk : k + 410 ≤ 823735) (hn : n + 2050 ≤ 6624900) (done : ∀ (t : Nat × Nat) (ad N : Nat → Nat) (S : Int64) (G F : Nat → Nat → Int32) (m : Int64), zLI g X0 Oa M ad N G F → V g κ 7 (k + 410) (n + 2050) (t, zW g X0 F ad N S G B0 Oa m) 1049 [(4, .int (nI i)), (3, .ref Oa), (2, .ref M), (1, .ref X0), (0, .ref b)] []) {t : Nat × Nat} {ad N : Nat → Nat} {S : Int64} {G F : Nat → Nat → Int32} {m : Int64} (I : zLI g X0 Oa M ad N G F) : V g κ 7 k n (t, zW g X0 F ad N S G B0 Oa m) 858 [(4, .int (nI i)), (3, .ref Oa), (2, .ref M), (1, .ref X0), (0, .ref b)] [] := by
  obtain ⟨X, Hh, hXs, hb, hL, hG, hEm, hX, hO, gO⟩ := Cx
  obtain ⟨hK, hd, h43, hIr, hR, rfl⟩ := I
  refine V_aload_n X dL_law_858 3 rfl ?_
  refine V_aload_n X dL_law_859 4 rfl ?_
  refine V_iload X dL_law_860 0 rfl ?_
  refine V_iconst (v := nI 1) X dL_law_862 (by decide) ?_
  refine V_iaddN X dL_law_863 ?_
  refine V_sld X hXs hb (vp_in_nI (by omega) (by omega)) dL_law_864 (V.topi (fun a1 ea1 => ?_))
  refine V_aload_n X dL_law_865 4 rfl ?_
  refine V_iload X dL_law_866 0 rfl ?_
  refine V_iconst (v := nI 2) X dL_law_868 (by decide) ?_
  refine V_iaddN X dL_law_869 ?_
  refine V_sld X hXs hb (vp_in_nI (by omega) (by omega)) dL_law_870 (V.topi (fun a2 ea2 => ?_))
  refine V_aload_n X dL_law_871 1 rfl ?_
  refine V.so (σ' := (t, cW g X0 F (zup (rO g ad N S G B0) Oa (.inr (10, [.long m]))))) (congrArg (Prod.mk _) (zW_c hK (fun k hk => (hd k hk).2))) ?_
  refine V_callSX (rest := []) X Hh mw_L_tour st_L_tour (by decide) (by decide) (k_L_tour hX hG hO gO hR.1 a1 a2 (hR.bd hIr) hR.2.2.2.1) rfl rfl (Nat.le_of_ble_eq_true rfl) ⟨by omega, by omega⟩ dL_law_872 (fun v9 σ' hp9 => ?_)
  obtain ⟨x3, rfl, t4, F5, m6, rfl, hc7⟩ := hp9
  show V g κ 7 (k + 1) (n + 6) (t4, cW g X0 F5 (zup (rO g ad N S G B0) Oa (.inr (10, [.long m6])))) 875 [(4, .int (nI i)), (3, .ref Oa), (2, .ref (ad 0)), (1, .ref X0), (0, .ref b)] [.int x3]
  refine V_istore X [(5, .int x3), (4, .int (nI i)), (3, .ref Oa), (2, .ref (ad 0)), (1, .ref X0), (0, .ref b)] dL_law_875 (by decide) rfl ?_
  refine V_aload_n X dL_law_877 3 rfl ?_
  refine V_aload_n X dL_law_878 5 rfl ?_
  refine V_iload X dL_law_879 1 rfl ?_
  refine V_iconst (v := nI 1) X dL_law_881 (by decide) ?_
  refine V_iaddN X dL_law_882 ?_
  refine V_sld X hXs hb (vp_in_nI (by omega) (by omega)) dL_law_883 (V.topi (fun a8 ea8 => ?_))
  rw [ea8.trans ea1.symm]
  refine V_aload_n X dL_law_884 5 rfl ?_
  refine V_iload X dL_law_885 1 rfl ?_
  refine V_iconst (v := nI 2) X dL_law_887 (by decide) ?_
  refine V_iaddN X dL_law_888 ?_
  refine V_sld X hXs hb (vp_in_nI (by omega) (by omega)) dL_law_889 (V.topi (fun a9 ea9 => ?_))
  rw [ea9.trans ea2.symm]
  refine V.fr (fun hfr => ?_)
  have hf : X0 + 61 ≤ t4.1 ∧ Oa < t4.1 := zW_fr hO hfr
  obtain ⟨hf1, hf2⟩ := hf
  refine V.so (σ' := (t4, rO g ad N S G (cW g X0 F5 (zup B0 Oa (.inr (10, [.long m6])))))) (congrArg (Prod.mk _) ((zW_c hK (fun k hk => (hd k hk).2)).symm.trans (zW_r hK hd))) ?_
  refine V_callV (rest := []) X Hh ml_L_156 in_X12_tour (ci := 16) rfl se_X12_tour (R_recv hK (q := 0) (rlv (by omega)) rfl) (by decide) (by decide) (k_X12_tour hK hIr a1 a2) rfl rfl (Nat.le_of_ble_eq_true rfl) ⟨by omega, by omega⟩ dL_law_890 (fun _ _ h => False.elim h) (fun v8 σ' hp8 => ?_)
  obtain ⟨⟨x10, rfl⟩, t11, G12, rfl, hM13, hI14⟩ := hp8
  refine V.so (σ' := (t11, zW g X0 F5 ad N S G12 B0 Oa m6)) (congrArg (Prod.mk _) (zW_r hK hd).symm) ?_
  show V g κ 7 (k + 1) (n + 6) (t11, zW g X0 F5 ad N S G12 B0 Oa m6) 893 [(5, .int x3), (4, .int (nI i)), (3, .ref Oa), (2, .ref (ad 0)), (1, .ref X0), (0, .ref b)] [.int x10]
  refine V_istore X [(6, .int x10), (5, .int x3), (4, .int (nI i)), (3, .ref Oa), (2, .ref (ad 0)), (1, .ref X0), (0, .ref b)] dL_law_893 (by decide) rfl ?_
  refine V_goto (tgt := 1049) X dL_law_895 (by decide) ?_
  exact V.sub [2, 3, 4, 5, 6] rfl (V.widen (by omega) (by omega) (done t11 ad N S G12 F5 m6 ⟨hK, hd, h43, hI14, (hR.mv hc7 hM13), rfl⟩))
set_option maxRecDepth 100000 in
set_option maxHeartbeats 4000000 in
theorem lc_19 {g : zG} {κ : zC} {X0 Oa b L : Nat} {xs : Nat → Int32} (Cx : zCx g κ X0 Oa b L xs) {M : Nat} {B0 : Nat → Option va_E} {k n i : Nat} (hi : i + 4 ≤ L) (hk : k + 410 ≤ 823735) (hn : n + 2050 ≤ 6624900) (done : ∀ (t : Nat × Nat) (ad N : Nat → Nat) (S : Int64) (G F : Nat → Nat → Int32) (m : Int64), zLI g X0 Oa M ad N G F → V g κ 7 (k + 410) (n + 2050) (t, zW g X0 F ad N S G B0 Oa m) 1049 [(4, .int (nI i)), (3, .ref Oa), (2, .ref M), (1, .ref X0), (0, .ref b)] []) {t : Nat × Nat} {ad N : Nat → Nat} {S : Int64} {G F : Nat → Nat → Int32} {m : Int64} (I : zLI g X0 Oa M ad N G F) : V g κ 7 k n (t, zW g X0 F ad N S G B0 Oa m) 898 [(4, .int (nI i)), (3, .ref Oa), (2, .ref M), (1, .ref X0), (0, .ref b)] [] := by
  obtain ⟨X, Hh, hXs, hb, hL, hG, hEm, hX, hO, gO⟩ := Cx
  obtain ⟨hK, hd, h43, hIr, hR, rfl⟩ := I
  refine V_aload_n X dL_law_898 3 rfl ?_
  refine V_aload_n X dL_law_899 4 rfl ?_
  refine V_iload X dL_law_900 0 rfl ?_
  refine V_iconst (v := nI 1) X dL_law_902 (by decide) ?_
  refine V_iaddN X dL_law_903 ?_
  refine V_sld X hXs hb (vp_in_nI (by omega) (by omega)) dL_law_904 (V.topi (fun a1 ea1 => ?_))
  refine V_aload_n X dL_law_905 1 rfl ?_
  refine V.so (σ' := (t, cW g X0 F (zup (rO g ad N S G B0) Oa (.inr (10, [.long m]))))) (congrArg (Prod.mk _) (zW_c hK (fun k hk => (hd k hk).2))) ?_
  refine V_callSX (rest := []) X Hh mw_L_would st_L_would (by decide) (by decide) (k_L_would hX hG hO gO hR.1 a1 (hR.bd hIr) hR.2.2.2.1) rfl rfl (Nat.le_of_ble_eq_true rfl) ⟨by omega, by omega⟩ dL_law_906 (fun v9 σ' hp9 => ?_)
  obtain ⟨x2, rfl, t3, F4, m5, rfl, hc6⟩ := hp9
  show V g κ 7 (k + 1) (n + 6) (t3, cW g X0 F4 (zup (rO g ad N S G B0) Oa (.inr (10, [.long m5])))) 909 [(4, .int (nI i)), (3, .ref Oa), (2, .ref (ad 0)), (1, .ref X0), (0, .ref b)] [.int x2]
  refine V_istore X [(5, .int x2), (4, .int (nI i)), (3, .ref Oa), (2, .ref (ad 0)), (1, .ref X0), (0, .ref b)] dL_law_909 (by decide) rfl ?_
  refine V_aload_n X dL_law_911 3 rfl ?_
  refine V_aload_n X dL_law_912 5 rfl ?_
  refine V_iload X dL_law_913 1 rfl ?_
  refine V_iconst (v := nI 1) X dL_law_915 (by decide) ?_
  refine V_iaddN X dL_law_916 ?_
  refine V_sld X hXs hb (vp_in_nI (by omega) (by omega)) dL_law_917 (V.topi (fun a7 ea7 => ?_))
  rw [ea7.trans ea1.symm]
  refine V.fr (fun hfr => ?_)
  have hf : X0 + 61 ≤ t3.1 ∧ Oa < t3.1 := zW_fr hO hfr
  obtain ⟨hf1, hf2⟩ := hf
  refine V.so (σ' := (t3, rO g ad N S G (cW g X0 F4 (zup B0 Oa (.inr (10, [.long m5])))))) (congrArg (Prod.mk _) ((zW_c hK (fun k hk => (hd k hk).2)).symm.trans (zW_r hK hd))) ?_
  refine V_callV (rest := []) X Hh ml_L_159 in_X12_would (ci := 16) rfl se_X12_would (R_recv hK (q := 0) (rlv (by omega)) rfl) (by decide) (by decide) (k_X12_would hK hIr a1) rfl rfl (Nat.le_of_ble_eq_true rfl) ⟨by omega, by omega⟩ dL_law_918 (fun _ _ h => False.elim h) (fun v8 σ' hp8 => ?_)
  obtain ⟨x8, rfl, t9, G10, rfl, hI12, hM11⟩ := hp8
  obtain ⟨hR13, hx14, hv15⟩ := ab_would hR hIr hc6 hM11
  refine V.so (σ' := (t9, zW g X0 F4 ad N S G10 B0 Oa m5)) (congrArg (Prod.mk _) (zW_r hK hd).symm) ?_
  show V g κ 7 (k + 1) (n + 6) (t9, zW g X0 F4 ad N S G10 B0 Oa m5) 921 [(5, .int x2), (4, .int (nI i)), (3, .ref Oa), (2, .ref (ad 0)), (1, .ref X0), (0, .ref b)] [.int x8]
  refine V_istore X [(6, .int x8), (5, .int x2), (4, .int (nI i)), (3, .ref Oa), (2, .ref (ad 0)), (1, .ref X0), (0, .ref b)] dL_law_921 (by decide) rfl ?_
  refine V_goto (tgt := 1049) X dL_law_923 (by decide) ?_
  exact V.sub [2, 3, 4, 5, 6] rfl (V.widen (by omega) (by omega) (done t9 ad N S G10 F4 m5 ⟨hK, hd, h43, hI12, hR13, rfl⟩))
set_option maxRecDepth 100000 in
set_option maxHeartbeats 4000000 in
theorem lc_20 {g : zG} {κ : zC} {X0 Oa b L : Nat} {xs : Nat → Int32} (Cx : zCx g κ X0 Oa b L xs) {M : Nat} {B0 : Nat → Option va_E} {k n i : Nat} (hi : i + 4 ≤ L) (hk : k + 410 ≤ 823735) (hn : n + 2050 ≤ 6624900) (done : ∀ (t : Nat × Nat) (ad N : Nat → Nat) (S : Int64) (G F : Nat → Nat → Int32) (m : Int64), zLI g X0 Oa M ad N G F → V g κ 7 (k + 410) (n + 2050) (t, zW g X0 F ad N S G B0 Oa m) 1049 [(4, .int (nI i)), (3, .ref Oa), (2, .ref M), (1, .ref X0), (0, .ref b)] []) {t : Nat × Nat} {ad N : Nat → Nat} {S : Int64} {G F : Nat → Nat → Int32} {m : Int64} (I : zLI g X0 Oa M ad N G F) : V g κ 7 k n (t, zW g X0 F ad N S G B0 Oa m) 926 [(4, .int (nI i)), (3, .ref Oa), (2, .ref M), (1, .ref X0), (0, .ref b)] [] := by
  obtain ⟨X, Hh, hXs, hb, hL, hG, hEm, hX, hO, gO⟩ := Cx
  obtain ⟨hK, hd, h43, hIr, hR, rfl⟩ := I
  refine V_aload_n X dL_law_926 3 rfl ?_
  refine V_aload_n X dL_law_927 4 rfl ?_
  refine V_iload X dL_law_928 0 rfl ?_
  refine V_iconst (v := nI 1) X dL_law_930 (by decide) ?_
  refine V_iaddN X dL_law_931 ?_
  refine V_sld X hXs hb (vp_in_nI (by omega) (by omega)) dL_law_932 (V.topi (fun a1 ea1 => ?_))
  refine V_aload_n X dL_law_933 1 rfl ?_
  refine V.so (σ' := (t, cW g X0 F (zup (rO g ad N S G B0) Oa (.inr (10, [.long m]))))) (congrArg (Prod.mk _) (zW_c hK (fun k hk => (hd k hk).2))) ?_
  refine V_callSX (rest := []) X Hh mw_L_without st_L_without (by decide) (by decide) (k_L_without hX hG hO gO hR.1 a1 (hR.bd hIr) hR.2.2.2.1) rfl rfl (Nat.le_of_ble_eq_true rfl) ⟨by omega, by omega⟩ dL_law_934 (fun v9 σ' hp9 => ?_)
  obtain ⟨x2, rfl, t3, F4, m5, rfl, hc6⟩ := hp9
  show V g κ 7 (k + 1) (n + 6) (t3, cW g X0 F4 (zup (rO g ad N S G B0) Oa (.inr (10, [.long m5])))) 937 [(4, .int (nI i)), (3, .ref Oa), (2, .ref (ad 0)), (1, .ref X0), (0, .ref b)] [.int x2]
  refine V_istore X [(5, .int x2), (4, .int (nI i)), (3, .ref Oa), (2, .ref (ad 0)), (1, .ref X0), (0, .ref b)] dL_law_937 (by decide) rfl ?_
  refine V_aload_n X dL_law_939 3 rfl ?_
  refine V_aload_n X dL_law_940 5 rfl ?_
  refine V_iload X dL_law_941 1 rfl ?_
  refine V_iconst (v := nI 1) X dL_law_943 (by decide) ?_
  refine V_iaddN X dL_law_944 ?_
  refine V_sld X hXs hb (vp_in_nI (by omega) (by omega)) dL_law_945 (V.topi (fun a7 ea7 => ?_))
  rw [ea7.trans ea1.symm]
  refine V.fr (fun hfr => ?_)
  have hf : X0 + 61 ≤ t3.1 ∧ Oa < t3.1 := zW_fr hO hfr
  obtain ⟨hf1, hf2⟩ := hf
  refine V.so (σ' := (t3, rO g ad N S G (cW g X0 F4 (zup B0 Oa (.inr (10, [.long m5])))))) (congrArg (Prod.mk _) ((zW_c hK (fun k hk => (hd k hk).2)).symm.trans (zW_r hK hd))) ?_
  refine V_callV (rest := []) X Hh ml_L_162 in_X12_without (ci := 16) rfl se_X12_without (R_recv hK (q := 0) (rlv (by omega)) rfl) (by decide) (by decide) (k_X12_without hK hIr a1) rfl rfl (Nat.le_of_ble_eq_true rfl) ⟨by omega, by omega⟩ dL_law_946 (fun _ _ h => False.elim h) (fun v8 σ' hp8 => ?_)
  obtain ⟨x8, rfl, t9, G10, rfl, hI12, hM11⟩ := hp8
  obtain ⟨hR13, hx14, hv15⟩ := ab_without hR hIr hc6 hM11
  refine V.so (σ' := (t9, zW g X0 F4 ad N S G10 B0 Oa m5)) (congrArg (Prod.mk _) (zW_r hK hd).symm) ?_
  show V g κ 7 (k + 1) (n + 6) (t9, zW g X0 F4 ad N S G10 B0 Oa m5) 949 [(5, .int x2), (4, .int (nI i)), (3, .ref Oa), (2, .ref (ad 0)), (1, .ref X0), (0, .ref b)] [.int x8]
  refine V_istore X [(6, .int x8), (5, .int x2), (4, .int (nI i)), (3, .ref Oa), (2, .ref (ad 0)), (1, .ref X0), (0, .ref b)] dL_law_949 (by decide) rfl ?_
  refine V_goto (tgt := 1049) X dL_law_951 (by decide) ?_
  exact V.sub [2, 3, 4, 5, 6] rfl (V.widen (by omega) (by omega) (done t9 ad N S G10 F4 m5 ⟨hK, hd, h43, hI12, hR13, rfl⟩))
set_option maxRecDepth 100000 in
set_option maxHeartbeats 4000000 in
theorem lc_21 {g : zG} {κ : zC} {X0 Oa b L : Nat} {xs : Nat → Int32} (Cx : zCx g κ X0 Oa b L xs) {M : Nat} {B0 : Nat → Option va_E} {k n i : Nat} (hi : i + 4 ≤ L) (hk : k + 410 ≤ 823735) (hn : n + 2050 ≤ 6624900) (done : ∀ (t : Nat × Nat) (ad N : Nat → Nat) (S : Int64) (G F : Nat → Nat → Int32) (m : Int64), zLI g X0 Oa M ad N G F → V g κ 7 (k + 410) (n + 2050) (t, zW g X0 F ad N S G B0 Oa m) 1049 [(4, .int (nI i)), (3, .ref Oa), (2, .ref M), (1, .ref X0), (0, .ref b)] []) {t : Nat × Nat} {ad N : Nat → Nat} {S : Int64} {G F : Nat → Nat → Int32} {m : Int64} (I : zLI g X0 Oa M ad N G F) : V g κ 7 k n (t, zW g X0 F ad N S G B0 Oa m) 954 [(4, .int (nI i)), (3, .ref Oa), (2, .ref M), (1, .ref X0), (0, .ref b)] [] := by
  obtain ⟨X, Hh, hXs, hb, hL, hG, hEm, hX, hO, gO⟩ := Cx
  obtain ⟨hK, hd, h43, hIr, hR, rfl⟩ := I
  refine V_aload_n X dL_law_954 3 rfl ?_
  refine V_aload_n X dL_law_955 4 rfl ?_
  refine V_iload X dL_law_956 0 rfl ?_
  refine V_iconst (v := nI 1) X dL_law_958 (by decide) ?_
  refine V_iaddN X dL_law_959 ?_
  refine V_sld X hXs hb (vp_in_nI (by omega) (by omega)) dL_law_960 (V.topi (fun a1 ea1 => ?_))
  refine V_aload_n X dL_law_961 4 rfl ?_
  refine V_iload X dL_law_962 0 rfl ?_
  refine V_iconst (v := nI 2) X dL_law_964 (by decide) ?_
  refine V_iaddN X dL_law_965 ?_
  refine V_sld X hXs hb (vp_in_nI (by omega) (by omega)) dL_law_966 (V.topi (fun a2 ea2 => ?_))
  refine V_aload_n X dL_law_967 1 rfl ?_
  refine V.so (σ' := (t, cW g X0 F (zup (rO g ad N S G B0) Oa (.inr (10, [.long m]))))) (congrArg (Prod.mk _) (zW_c hK (fun k hk => (hd k hk).2))) ?_
  refine V_callSX (rest := []) X Hh mw_L_shareOf st_L_shareOf (by decide) (by decide) (k_L_shareOf hX hG hO gO hR.1 a1 a2 (hR.bd hIr) hR.2.2.2.1) rfl rfl (Nat.le_of_ble_eq_true rfl) ⟨by omega, by omega⟩ dL_law_968 (fun v9 σ' hp9 => ?_)
  obtain ⟨x3, rfl, t4, F5, m6, rfl, hc7⟩ := hp9
  show V g κ 7 (k + 1) (n + 6) (t4, cW g X0 F5 (zup (rO g ad N S G B0) Oa (.inr (10, [.long m6])))) 971 [(4, .int (nI i)), (3, .ref Oa), (2, .ref (ad 0)), (1, .ref X0), (0, .ref b)] [.int x3]
  refine V_istore X [(5, .int x3), (4, .int (nI i)), (3, .ref Oa), (2, .ref (ad 0)), (1, .ref X0), (0, .ref b)] dL_law_971 (by decide) rfl ?_
  refine V_aload_n X dL_law_973 3 rfl ?_
  refine V_aload_n X dL_law_974 5 rfl ?_
  refine V_iload X dL_law_975 1 rfl ?_
  refine V_iconst (v := nI 1) X dL_law_977 (by decide) ?_
  refine V_iaddN X dL_law_978 ?_
  refine V_sld X hXs hb (vp_in_nI (by omega) (by omega)) dL_law_979 (V.topi (fun a8 ea8 => ?_))
  rw [ea8.trans ea1.symm]
  refine V_aload_n X dL_law_980 5 rfl ?_
  refine V_iload X dL_law_981 1 rfl ?_
  refine V_iconst (v := nI 2) X dL_law_983 (by decide) ?_
  refine V_iaddN X dL_law_984 ?_
  refine V_sld X hXs hb (vp_in_nI (by omega) (by omega)) dL_law_985 (V.topi (fun a9 ea9 => ?_))
  rw [ea9.trans ea2.symm]
  refine V.fr (fun hfr => ?_)
  have hf : X0 + 61 ≤ t4.1 ∧ Oa < t4.1 := zW_fr hO hfr
  obtain ⟨hf1, hf2⟩ := hf
  refine V.so (σ' := (t4, rO g ad N S G (cW g X0 F5 (zup B0 Oa (.inr (10, [.long m6])))))) (congrArg (Prod.mk _) ((zW_c hK (fun k hk => (hd k hk).2)).symm.trans (zW_r hK hd))) ?_
  obtain ⟨b9, g9, hb9⟩ := rBs_ex (N := N) (G := G)
  refine V_callV (rest := []) X Hh ml_L_165 in_X12_shareOf (ci := 16) rfl se_X12_shareOf (R_recv hK (q := 0) (rlv (by omega)) rfl) (by decide) (by decide) (k_X12_shareOf hK hIr a1 a2 hR.2.2.2.2 b9 g9 hb9) rfl rfl (Nat.le_of_ble_eq_true rfl) ⟨by omega, by omega⟩ dL_law_986 (fun _ _ h => False.elim h) (fun v8 σ' hp8 => ?_)
  obtain ⟨x10, rfl, t11, G12, rfl, hI14, hM13⟩ := hp8
  obtain ⟨hR15, hx16, hv17⟩ := ab_shareOf hR hIr hc7 hM13
  refine V.so (σ' := (t11, zW g X0 F5 ad N S G12 B0 Oa m6)) (congrArg (Prod.mk _) (zW_r hK hd).symm) ?_
  show V g κ 7 (k + 1) (n + 6) (t11, zW g X0 F5 ad N S G12 B0 Oa m6) 989 [(5, .int x3), (4, .int (nI i)), (3, .ref Oa), (2, .ref (ad 0)), (1, .ref X0), (0, .ref b)] [.int x10]
  refine V_istore X [(6, .int x10), (5, .int x3), (4, .int (nI i)), (3, .ref Oa), (2, .ref (ad 0)), (1, .ref X0), (0, .ref b)] dL_law_989 (by decide) rfl ?_
  refine V_aload_n X dL_law_991 4 rfl ?_
  refine V.so (σ' := (t11, rO g ad N S G12 (cW g X0 F5 (zup B0 Oa (.inr (10, [.long m6])))))) (congrArg (Prod.mk _) (zW_r hK hd)) ?_
  refine V_callV (rest := []) X Hh ml_L_166 in_X12_thrown (ci := 16) rfl se_X12_thrown (R_recv hK (q := 0) (rlv (by omega)) rfl) (by decide) (by decide) (k_X12_thrown hK hI14) rfl rfl (Nat.le_of_ble_eq_true rfl) ⟨by omega, by omega⟩ dL_law_992 (fun _ _ h => False.elim h) (fun v8 σ' hp8 => ?_)
  obtain ⟨hp8, rfl⟩ := hp8
  cases (hp8 : _ = some (Value.int (G12 0 0)))
  refine V.so (σ' := (t11, zW g X0 F5 ad N S G12 B0 Oa m6)) (congrArg (Prod.mk _) (zW_r hK hd).symm) ?_
  show V g κ 7 (k + 1) (n + 6) (t11, zW g X0 F5 ad N S G12 B0 Oa m6) 995 [(6, .int x10), (5, .int x3), (4, .int (nI i)), (3, .ref Oa), (2, .ref (ad 0)), (1, .ref X0), (0, .ref b)] [.int (G12 0 0)]
  refine V_iload X dL_law_995 1 rfl ?_
  refine V_icmpeq X (tgt := 1002) dL_law_997 (by decide) (fun _ => ?_) (fun h => absurd hx16.symm h)
  refine V_iload X dL_law_1002 1 rfl ?_
  refine V_ifne X (tgt := 1020) dL_law_1004 (by decide) (fun _ => ?_) (fun h18 => ?_)
  · show V g κ 7 (k + 1) (n + 6) (t11, zW g X0 F5 ad N S G12 B0 Oa m6) 1020 [(6, .int x10), (5, .int x3), (4, .int (nI i)), (3, .ref Oa), (2, .ref (ad 0)), (1, .ref X0), (0, .ref b)] []
    refine V_goto (tgt := 1049) X dL_law_1020 (by decide) ?_
    exact V.sub [2, 3, 4, 5, 6] rfl (V.widen (by omega) (by omega) (done t11 ad N S G12 F5 m6 ⟨hK, hd, h43, hI14, hR15, rfl⟩))
  · show V g κ 7 (k + 1) (n + 6) (t11, zW g X0 F5 ad N S G12 B0 Oa m6) 1007 [(6, .int x10), (5, .int x3), (4, .int (nI i)), (3, .ref Oa), (2, .ref (ad 0)), (1, .ref X0), (0, .ref b)] []
    refine V_aload_n X dL_law_1007 3 rfl ?_
    refine V.so (σ' := (t11, cW g X0 F5 (zup (rO g ad N S G12 B0) Oa (.inr (10, [.long m6]))))) (congrArg (Prod.mk _) (zW_c hK (fun k hk => (hd k hk).2))) ?_
    refine V_getf X fl_L_13 (v := .long m6) ((cW_out hO).trans zup_eq) rfl dL_law_1008 ?_
    refine V_iload X dL_law_1011 0 rfl ?_
    refine V_i2l X dL_law_1013 ?_
    refine V_lcmp X dL_law_1014 ?_
    refine V_ifeq X (tgt := 1020) dL_law_1015 (by decide) (fun _ => ?_) (fun h => absurd (lc0 (hv17 (h18.trans nI_0.symm))) h)
    show V g κ 7 (k + 1) (n + 6) (t11, cW g X0 F5 (zup (rO g ad N S G12 B0) Oa (.inr (10, [.long m6])))) 1020 [(6, .int x10), (5, .int x3), (4, .int (nI i)), (3, .ref Oa), (2, .ref (ad 0)), (1, .ref X0), (0, .ref b)] []
    refine V_goto (tgt := 1049) X dL_law_1020 (by decide) ?_
    refine V.so (σ' := (t11, zW g X0 F5 ad N S G12 B0 Oa m6)) (congrArg (Prod.mk _) (zW_c hK (fun k hk => (hd k hk).2)).symm) ?_
    exact V.sub [2, 3, 4, 5, 6] rfl (V.widen (by omega) (by omega) (done t11 ad N S G12 F5 m6 ⟨hK, hd, h43, hI14, hR15, rfl⟩))
set_option maxRecDepth 100000 in
set_option maxHeartbeats 4000000 in
theorem lc_22 {g : zG} {κ : zC} {X0 Oa b L : Nat} {xs : Nat → Int32} (Cx : zCx g κ X0 Oa b L xs) {M : Nat} {B0 : Nat → Option va_E} {k n i : Nat} (hi : i + 4 ≤ L) (hk : k + 410 ≤ 823735) (hn : n + 2050 ≤ 6624900) (done : ∀ (t : Nat × Nat) (ad N : Nat → Nat) (S : Int64) (G F : Nat → Nat → Int32) (m : Int64), zLI g X0 Oa M ad N G F → V g κ 7 (k + 410) (n + 2050) (t, zW g X0 F ad N S G B0 Oa m) 1049 [(4, .int (nI i)), (3, .ref Oa), (2, .ref M), (1, .ref X0), (0, .ref b)] []) {t : Nat × Nat} {ad N : Nat → Nat} {S : Int64} {G F : Nat → Nat → Int32} {m : Int64} (I : zLI g X0 Oa M ad N G F) : V g κ 7 k n (t, zW g X0 F ad N S G B0 Oa m) 1023 [(4, .int (nI i)), (3, .ref Oa), (2, .ref M), (1, .ref X0), (0, .ref b)] [] := by
  obtain ⟨X, Hh, hXs, hb, hL, hG, hEm, hX, hO, gO⟩ := Cx
  obtain ⟨hK, hd, h43, hIr, hR, rfl⟩ := I
  refine V_aload_n X dL_law_1023 3 rfl ?_
  refine V_callV (rest := []) X Hh ml_L_169 in_X5_isSound (ci := 9) rfl se_X5_isSound (C_recv (q := 0) (by decide) rfl) (by decide) (by decide) (k_X5_isSound hX hR.1 (hR.bd hIr) hR.2.2.2.1) rfl rfl (Nat.le_of_ble_eq_true rfl) ⟨by omega, by omega⟩ dL_law_1024 (fun _ _ h => False.elim h) (fun v9 σ' hp9 => ?_)
  obtain ⟨⟨x1, rfl, -⟩, F3, rfl, hm4⟩ := hp9
  show V g κ 7 (k + 0) (n + 0) (t, zW g X0 F3 ad N S G B0 Oa m) 1027 [(4, .int (nI i)), (3, .ref Oa), (2, .ref (ad 0)), (1, .ref X0), (0, .ref b)] [.int x1]
  refine V_pop X dL_law_1027 rfl ?_
  refine V_aload_n X dL_law_1028 2 rfl ?_
  refine V.so (σ' := (t, rO g ad N S G (cW g X0 F3 (zup B0 Oa (.inr (10, [.long m])))))) (congrArg (Prod.mk _) (zW_r hK hd)) ?_
  refine V_callV (rest := []) X Hh ml_L_173 in_X12_isSound (ci := 16) rfl se_X12_isSound (R_recv hK (q := 0) (rlv (by omega)) rfl) (by decide) (by decide) (k_X12_isSound hK hIr) rfl rfl (Nat.le_of_ble_eq_true rfl) ⟨by omega, by omega⟩ dL_law_1029 (fun _ _ h => False.elim h) (fun v8 σ' hp8 => ?_)
  obtain ⟨⟨x5, rfl, -⟩, t6, G7, rfl, hM8, hI9⟩ := hp8
  refine V.so (σ' := (t6, zW g X0 F3 ad N S G7 B0 Oa m)) (congrArg (Prod.mk _) (zW_r hK hd).symm) ?_
  show V g κ 7 (k + 51) (n + 252) (t6, zW g X0 F3 ad N S G7 B0 Oa m) 1032 [(4, .int (nI i)), (3, .ref Oa), (2, .ref (ad 0)), (1, .ref X0), (0, .ref b)] [.int x5]
  refine V_pop X dL_law_1032 rfl ?_
  refine V_goto (tgt := 1049) X dL_law_1033 (by decide) ?_
  exact V.sub [0, 1, 2, 3, 4] rfl (V.widen (by omega) (by omega) (done t6 ad N S G7 F3 m ⟨hK, hd, h43, hI9, (hR.mv hm4 hM8), rfl⟩))
set_option maxRecDepth 100000 in
set_option maxHeartbeats 4000000 in
theorem lc_23 {g : zG} {κ : zC} {X0 Oa b L : Nat} {xs : Nat → Int32} (Cx : zCx g κ X0 Oa b L xs) {M : Nat} {B0 : Nat → Option va_E} {k n i : Nat} (hi : i + 4 ≤ L) (hk : k + 410 ≤ 823735) (hn : n + 2050 ≤ 6624900) (done : ∀ (t : Nat × Nat) (ad N : Nat → Nat) (S : Int64) (G F : Nat → Nat → Int32) (m : Int64), zLI g X0 Oa M ad N G F → V g κ 7 (k + 410) (n + 2050) (t, zW g X0 F ad N S G B0 Oa m) 1049 [(4, .int (nI i)), (3, .ref Oa), (2, .ref M), (1, .ref X0), (0, .ref b)] []) {t : Nat × Nat} {ad N : Nat → Nat} {S : Int64} {G F : Nat → Nat → Int32} {m : Int64} (I : zLI g X0 Oa M ad N G F) : V g κ 7 k n (t, zW g X0 F ad N S G B0 Oa m) 1036 [(4, .int (nI i)), (3, .ref Oa), (2, .ref M), (1, .ref X0), (0, .ref b)] [] := by
  obtain ⟨X, Hh, hXs, hb, hL, hG, hEm, hX, hO, gO⟩ := Cx
  obtain ⟨hK, hd, h43, hIr, hR, rfl⟩ := I
  refine V_aload_n X dL_law_1036 3 rfl ?_
  refine V_callV (rest := []) X Hh ml_L_174 in_X5_digest (ci := 9) rfl se_X5_digest (C_recv (q := 0) (by decide) rfl) (by decide) (by decide) (k_X5_digest hX hR.1 hG (hR.bd hIr) hR.2.2.2.1) rfl rfl (Nat.le_of_ble_eq_true rfl) ⟨by omega, by omega⟩ dL_law_1037 (fun _ _ h => False.elim h) (fun v9 σ' hp9 => ?_)
  obtain ⟨⟨x1, rfl⟩, t2, F3, rfl, hm4⟩ := hp9
  show V g κ 7 (k + 5) (n + 40) (t2, zW g X0 F3 ad N S G B0 Oa m) 1040 [(4, .int (nI i)), (3, .ref Oa), (2, .ref (ad 0)), (1, .ref X0), (0, .ref b)] [.long x1]
  refine V_pop2 X dL_law_1040 rfl ?_
  refine V_aload_n X dL_law_1041 2 rfl ?_
  refine V.so (σ' := (t2, rO g ad N S G (cW g X0 F3 (zup B0 Oa (.inr (10, [.long m])))))) (congrArg (Prod.mk _) (zW_r hK hd)) ?_
  obtain ⟨b9, g9, hb9⟩ := rBs_ex (N := N) (G := G)
  refine V_callV (rest := []) X Hh ml_L_178 in_X12_digest (ci := 16) rfl se_X12_digest (R_recv hK (q := 0) (rlv (by omega)) rfl) (by decide) (by decide) (k_X12_digest hK hIr hR.2.2.2.2 b9 g9 hb9) rfl rfl (Nat.le_of_ble_eq_true rfl) ⟨by omega, by omega⟩ dL_law_1042 (fun _ _ h => False.elim h) (fun v8 σ' hp8 => ?_)
  obtain ⟨⟨x5, rfl⟩, t6, S13, G7, rfl, hM8, hI9⟩ := hp8
  refine V.so (σ' := (t6, zW g X0 F3 ad N S13 G7 B0 Oa m)) (congrArg (Prod.mk _) (zW_r hK hd).symm) ?_
  show V g κ 7 (k + 405) (n + 2040) (t6, zW g X0 F3 ad N S13 G7 B0 Oa m) 1045 [(4, .int (nI i)), (3, .ref Oa), (2, .ref (ad 0)), (1, .ref X0), (0, .ref b)] [.long x5]
  refine V_pop2 X dL_law_1045 rfl ?_
  refine V_goto (tgt := 1049) X dL_law_1046 (by decide) ?_
  exact V.sub [0, 1, 2, 3, 4] rfl (V.widen (by omega) (by omega) (done t6 ad N S13 G7 F3 m ⟨hK, hd, h43, hI9, (hR.mv hm4 hM8), rfl⟩))
