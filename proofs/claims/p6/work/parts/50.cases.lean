/-! ===== the law's cases ===== -/
set_option maxRecDepth 100000 in
set_option maxHeartbeats 4000000 in
theorem lc_0 {g : zG} {κ : zC} {X0 Oa b L : Nat} {xs : Nat → Int32} (Cx : zCx g κ X0 Oa b L xs) {M : Nat} {B0 : Nat → Option va_E} {k n i : Nat} (hi : i + 4 ≤ L) (hk : k + 410 ≤ 823735) (hn : n + 2050 ≤ 6624900) (done : ∀ (t : Nat × Nat) (ad N : Nat → Nat) (S : Int64) (G F : Nat → Nat → Int32) (m : Int64), zLI g X0 Oa M ad N G F → V g κ 7 (k + 410) (n + 2050) (t, zW g X0 F ad N S G B0 Oa m) 1049 [(4, .int (nI i)), (3, .ref Oa), (2, .ref M), (1, .ref X0), (0, .ref b)] []) {t : Nat × Nat} {ad N : Nat → Nat} {S : Int64} {G F : Nat → Nat → Int32} {m : Int64} (I : zLI g X0 Oa M ad N G F) : V g κ 7 k n (t, zW g X0 F ad N S G B0 Oa m) 152 [(4, .int (nI i)), (3, .ref Oa), (2, .ref M), (1, .ref X0), (0, .ref b)] [] := by
  obtain ⟨X, Hh, hXs, hb, hL, hG, hEm, hX, hO, gO⟩ := Cx
  obtain ⟨hK, hd, h43, hIr, hR, rfl⟩ := I
  refine V_aload_n X dL_law_152 3 rfl ?_
  refine V_aload_n X dL_law_153 4 rfl ?_
  refine V_iload X dL_law_154 0 rfl ?_
  refine V_iconst (v := nI 1) X dL_law_156 (by decide) ?_
  refine V_iaddN X dL_law_157 ?_
  refine V_sld X hXs hb (vp_in_nI (by omega) (by omega)) dL_law_158 (V.topi (fun a1 ea1 => ?_))
  refine V_aload_n X dL_law_159 4 rfl ?_
  refine V_iload X dL_law_160 0 rfl ?_
  refine V_iconst (v := nI 2) X dL_law_162 (by decide) ?_
  refine V_iaddN X dL_law_163 ?_
  refine V_sld X hXs hb (vp_in_nI (by omega) (by omega)) dL_law_164 (V.topi (fun a2 ea2 => ?_))
  refine V_aload_n X dL_law_165 4 rfl ?_
  refine V_iload X dL_law_166 0 rfl ?_
  refine V_iconst (v := nI 3) X dL_law_168 (by decide) ?_
  refine V_iaddN X dL_law_169 ?_
  refine V_sld X hXs hb (vp_in_nI (by omega) (by omega)) dL_law_170 (V.topi (fun a3 ea3 => ?_))
  refine V_aload_n X dL_law_171 1 rfl ?_
  refine V.so (σ' := (t, cW g X0 F (zup (rO g ad N S G B0) Oa (.inr (10, [.long m]))))) (congrArg (Prod.mk _) (zW_c hK (fun k hk => (hd k hk).2))) ?_
  refine V_callSX (rest := []) X Hh mw_L_part st_L_part (by decide) (by decide) (k_L_part hX hG hO gO hR.1 a1 a2 a3 (hR.bd hIr) hR.2.2.2.1) rfl rfl (Nat.le_of_ble_eq_true rfl) ⟨by omega, by omega⟩ dL_law_172 (fun v9 σ' hp9 => ?_)
  obtain ⟨x4, rfl, t5, F6, m7, rfl, hc8⟩ := hp9
  show V g κ 7 (k + 1) (n + 6) (t5, cW g X0 F6 (zup (rO g ad N S G B0) Oa (.inr (10, [.long m7])))) 175 [(4, .int (nI i)), (3, .ref Oa), (2, .ref (ad 0)), (1, .ref X0), (0, .ref b)] [.int x4]
  refine V_istore X [(5, .int x4), (4, .int (nI i)), (3, .ref Oa), (2, .ref (ad 0)), (1, .ref X0), (0, .ref b)] dL_law_175 (by decide) rfl ?_
  refine V_aload_n X dL_law_177 3 rfl ?_
  refine V_aload_n X dL_law_178 5 rfl ?_
  refine V_iload X dL_law_179 1 rfl ?_
  refine V_iconst (v := nI 1) X dL_law_181 (by decide) ?_
  refine V_iaddN X dL_law_182 ?_
  refine V_sld X hXs hb (vp_in_nI (by omega) (by omega)) dL_law_183 (V.topi (fun a9 ea9 => ?_))
  rw [ea9.trans ea1.symm]
  refine V_aload_n X dL_law_184 5 rfl ?_
  refine V_iload X dL_law_185 1 rfl ?_
  refine V_iconst (v := nI 2) X dL_law_187 (by decide) ?_
  refine V_iaddN X dL_law_188 ?_
  refine V_sld X hXs hb (vp_in_nI (by omega) (by omega)) dL_law_189 (V.topi (fun a10 ea10 => ?_))
  rw [ea10.trans ea2.symm]
  refine V_aload_n X dL_law_190 5 rfl ?_
  refine V_iload X dL_law_191 1 rfl ?_
  refine V_iconst (v := nI 3) X dL_law_193 (by decide) ?_
  refine V_iaddN X dL_law_194 ?_
  refine V_sld X hXs hb (vp_in_nI (by omega) (by omega)) dL_law_195 (V.topi (fun a11 ea11 => ?_))
  rw [ea11.trans ea3.symm]
  refine V.fr (fun hfr => ?_)
  have hf : X0 + 61 ≤ t5.1 ∧ Oa < t5.1 := zW_fr hO hfr
  obtain ⟨hf1, hf2⟩ := hf
  refine V.so (σ' := (t5, rO g ad N S G (cW g X0 F6 (zup B0 Oa (.inr (10, [.long m7])))))) (congrArg (Prod.mk _) ((zW_c hK (fun k hk => (hd k hk).2)).symm.trans (zW_r hK hd))) ?_
  refine V_callV (rest := []) X Hh ml_L_95 in_X12_part (ci := 16) rfl se_X12_part (R_recv hK (q := 0) (rlv (by omega)) rfl) (by decide) (by decide) (k_X12_part hK hIr a1 a2 a3 h43 hEm) rfl rfl (Nat.le_of_ble_eq_true rfl) ⟨by omega, by omega⟩ dL_law_196 (fun _ _ h => False.elim h) (fun v8 σ' hp8 => ?_)
  obtain ⟨x12, rfl, t13, ad20, N21, G14, rfl, hK22, hI16, hg23, hM15⟩ := hp8
  obtain ⟨hR17, hx18, hv19⟩ := ab_part hR hc8 hM15
  have hd24 : ∀ k, rLive N21 k = true → (ad20 k < X0 ∨ X0 + 61 ≤ ad20 k) ∧ ad20 k ≠ Oa := fun k hk => by
    rcases hg23.2.2 k hk with ⟨j, hj, e⟩ | h
    · rw [e]; exact hd j hj
    · exact ⟨Or.inr (by omega), by omega⟩
  refine V.so (σ' := (t13, zW g X0 F6 ad20 N21 S G14 B0 Oa m7)) (congrArg (Prod.mk _) (zW_r hK22 hd24).symm) ?_
  show V g κ 7 (k + 3) (n + 19) (t13, zW g X0 F6 ad20 N21 S G14 B0 Oa m7) 199 [(5, .int x4), (4, .int (nI i)), (3, .ref Oa), (2, .ref (ad 0)), (1, .ref X0), (0, .ref b)] [.int x12]
  refine V_istore X [(6, .int x12), (5, .int x4), (4, .int (nI i)), (3, .ref Oa), (2, .ref (ad 0)), (1, .ref X0), (0, .ref b)] dL_law_199 (by decide) rfl ?_
  refine V_goto (tgt := 1049) X dL_law_201 (by decide) ?_
  exact V.sub [2, 3, 4, 5, 6] rfl (V.widen (by omega) (by omega) (done t13 ad20 N21 S G14 F6 m7 ⟨hK22, hd24, (hg23.2.1.trans h43), hI16, hR17, hg23.1⟩))
set_option maxRecDepth 100000 in
set_option maxHeartbeats 4000000 in
theorem lc_1 {g : zG} {κ : zC} {X0 Oa b L : Nat} {xs : Nat → Int32} (Cx : zCx g κ X0 Oa b L xs) {M : Nat} {B0 : Nat → Option va_E} {k n i : Nat} (hi : i + 4 ≤ L) (hk : k + 410 ≤ 823735) (hn : n + 2050 ≤ 6624900) (done : ∀ (t : Nat × Nat) (ad N : Nat → Nat) (S : Int64) (G F : Nat → Nat → Int32) (m : Int64), zLI g X0 Oa M ad N G F → V g κ 7 (k + 410) (n + 2050) (t, zW g X0 F ad N S G B0 Oa m) 1049 [(4, .int (nI i)), (3, .ref Oa), (2, .ref M), (1, .ref X0), (0, .ref b)] []) {t : Nat × Nat} {ad N : Nat → Nat} {S : Int64} {G F : Nat → Nat → Int32} {m : Int64} (I : zLI g X0 Oa M ad N G F) : V g κ 7 k n (t, zW g X0 F ad N S G B0 Oa m) 204 [(4, .int (nI i)), (3, .ref Oa), (2, .ref M), (1, .ref X0), (0, .ref b)] [] := by
  obtain ⟨X, Hh, hXs, hb, hL, hG, hEm, hX, hO, gO⟩ := Cx
  obtain ⟨hK, hd, h43, hIr, hR, rfl⟩ := I
  refine V_aload_n X dL_law_204 3 rfl ?_
  refine V_aload_n X dL_law_205 4 rfl ?_
  refine V_iload X dL_law_206 0 rfl ?_
  refine V_iconst (v := nI 1) X dL_law_208 (by decide) ?_
  refine V_iaddN X dL_law_209 ?_
  refine V_sld X hXs hb (vp_in_nI (by omega) (by omega)) dL_law_210 (V.topi (fun a1 ea1 => ?_))
  refine V_aload_n X dL_law_211 4 rfl ?_
  refine V_iload X dL_law_212 0 rfl ?_
  refine V_iconst (v := nI 2) X dL_law_214 (by decide) ?_
  refine V_iaddN X dL_law_215 ?_
  refine V_sld X hXs hb (vp_in_nI (by omega) (by omega)) dL_law_216 (V.topi (fun a2 ea2 => ?_))
  refine V_aload_n X dL_law_217 4 rfl ?_
  refine V_iload X dL_law_218 0 rfl ?_
  refine V_iconst (v := nI 3) X dL_law_220 (by decide) ?_
  refine V_iaddN X dL_law_221 ?_
  refine V_sld X hXs hb (vp_in_nI (by omega) (by omega)) dL_law_222 (V.topi (fun a3 ea3 => ?_))
  refine V_aload_n X dL_law_223 1 rfl ?_
  refine V.so (σ' := (t, cW g X0 F (zup (rO g ad N S G B0) Oa (.inr (10, [.long m]))))) (congrArg (Prod.mk _) (zW_c hK (fun k hk => (hd k hk).2))) ?_
  refine V_callSX (rest := []) X Hh mw_L_player st_L_player (by decide) (by decide) (k_L_player hX hG hO gO hR.1 a1 a2 a3 (hR.bd hIr) hR.2.2.2.1) rfl rfl (Nat.le_of_ble_eq_true rfl) ⟨by omega, by omega⟩ dL_law_224 (fun v9 σ' hp9 => ?_)
  obtain ⟨x4, rfl, t5, F6, m7, rfl, hc8⟩ := hp9
  show V g κ 7 (k + 1) (n + 6) (t5, cW g X0 F6 (zup (rO g ad N S G B0) Oa (.inr (10, [.long m7])))) 227 [(4, .int (nI i)), (3, .ref Oa), (2, .ref (ad 0)), (1, .ref X0), (0, .ref b)] [.int x4]
  refine V_istore X [(5, .int x4), (4, .int (nI i)), (3, .ref Oa), (2, .ref (ad 0)), (1, .ref X0), (0, .ref b)] dL_law_227 (by decide) rfl ?_
  refine V_aload_n X dL_law_229 3 rfl ?_
  refine V_aload_n X dL_law_230 5 rfl ?_
  refine V_iload X dL_law_231 1 rfl ?_
  refine V_iconst (v := nI 1) X dL_law_233 (by decide) ?_
  refine V_iaddN X dL_law_234 ?_
  refine V_sld X hXs hb (vp_in_nI (by omega) (by omega)) dL_law_235 (V.topi (fun a9 ea9 => ?_))
  rw [ea9.trans ea1.symm]
  refine V_aload_n X dL_law_236 5 rfl ?_
  refine V_iload X dL_law_237 1 rfl ?_
  refine V_iconst (v := nI 2) X dL_law_239 (by decide) ?_
  refine V_iaddN X dL_law_240 ?_
  refine V_sld X hXs hb (vp_in_nI (by omega) (by omega)) dL_law_241 (V.topi (fun a10 ea10 => ?_))
  rw [ea10.trans ea2.symm]
  refine V_aload_n X dL_law_242 5 rfl ?_
  refine V_iload X dL_law_243 1 rfl ?_
  refine V_iconst (v := nI 3) X dL_law_245 (by decide) ?_
  refine V_iaddN X dL_law_246 ?_
  refine V_sld X hXs hb (vp_in_nI (by omega) (by omega)) dL_law_247 (V.topi (fun a11 ea11 => ?_))
  rw [ea11.trans ea3.symm]
  refine V.fr (fun hfr => ?_)
  have hf : X0 + 61 ≤ t5.1 ∧ Oa < t5.1 := zW_fr hO hfr
  obtain ⟨hf1, hf2⟩ := hf
  refine V.so (σ' := (t5, rO g ad N S G (cW g X0 F6 (zup B0 Oa (.inr (10, [.long m7])))))) (congrArg (Prod.mk _) ((zW_c hK (fun k hk => (hd k hk).2)).symm.trans (zW_r hK hd))) ?_
  refine V_callV (rest := []) X Hh ml_L_98 in_X12_player (ci := 16) rfl se_X12_player (R_recv hK (q := 0) (rlv (by omega)) rfl) (by decide) (by decide) (k_X12_player hK hIr a1 a2 a3 h43 hEm) rfl rfl (Nat.le_of_ble_eq_true rfl) ⟨by omega, by omega⟩ dL_law_248 (fun _ _ h => False.elim h) (fun v8 σ' hp8 => ?_)
  obtain ⟨x12, rfl, t13, ad20, N21, G14, rfl, hK22, hI16, hg23, hM15⟩ := hp8
  obtain ⟨hR17, hx18, hv19⟩ := ab_player hR hc8 hM15
  have hd24 : ∀ k, rLive N21 k = true → (ad20 k < X0 ∨ X0 + 61 ≤ ad20 k) ∧ ad20 k ≠ Oa := fun k hk => by
    rcases hg23.2.2 k hk with ⟨j, hj, e⟩ | h
    · rw [e]; exact hd j hj
    · exact ⟨Or.inr (by omega), by omega⟩
  refine V.so (σ' := (t13, zW g X0 F6 ad20 N21 S G14 B0 Oa m7)) (congrArg (Prod.mk _) (zW_r hK22 hd24).symm) ?_
  show V g κ 7 (k + 3) (n + 21) (t13, zW g X0 F6 ad20 N21 S G14 B0 Oa m7) 251 [(5, .int x4), (4, .int (nI i)), (3, .ref Oa), (2, .ref (ad 0)), (1, .ref X0), (0, .ref b)] [.int x12]
  refine V_istore X [(6, .int x12), (5, .int x4), (4, .int (nI i)), (3, .ref Oa), (2, .ref (ad 0)), (1, .ref X0), (0, .ref b)] dL_law_251 (by decide) rfl ?_
  refine V_goto (tgt := 1049) X dL_law_253 (by decide) ?_
  exact V.sub [2, 3, 4, 5, 6] rfl (V.widen (by omega) (by omega) (done t13 ad20 N21 S G14 F6 m7 ⟨hK22, hd24, (hg23.2.1.trans h43), hI16, hR17, hg23.1⟩))
set_option maxRecDepth 100000 in
set_option maxHeartbeats 4000000 in
theorem lc_2 {g : zG} {κ : zC} {X0 Oa b L : Nat} {xs : Nat → Int32} (Cx : zCx g κ X0 Oa b L xs) {M : Nat} {B0 : Nat → Option va_E} {k n i : Nat} (hi : i + 4 ≤ L) (hk : k + 410 ≤ 823735) (hn : n + 2050 ≤ 6624900) (done : ∀ (t : Nat × Nat) (ad N : Nat → Nat) (S : Int64) (G F : Nat → Nat → Int32) (m : Int64), zLI g X0 Oa M ad N G F → V g κ 7 (k + 410) (n + 2050) (t, zW g X0 F ad N S G B0 Oa m) 1049 [(4, .int (nI i)), (3, .ref Oa), (2, .ref M), (1, .ref X0), (0, .ref b)] []) {t : Nat × Nat} {ad N : Nat → Nat} {S : Int64} {G F : Nat → Nat → Int32} {m : Int64} (I : zLI g X0 Oa M ad N G F) : V g κ 7 k n (t, zW g X0 F ad N S G B0 Oa m) 256 [(4, .int (nI i)), (3, .ref Oa), (2, .ref M), (1, .ref X0), (0, .ref b)] [] := by
  obtain ⟨X, Hh, hXs, hb, hL, hG, hEm, hX, hO, gO⟩ := Cx
  obtain ⟨hK, hd, h43, hIr, hR, rfl⟩ := I
  refine V_aload_n X dL_law_256 3 rfl ?_
  refine V_aload_n X dL_law_257 4 rfl ?_
  refine V_iload X dL_law_258 0 rfl ?_
  refine V_iconst (v := nI 1) X dL_law_260 (by decide) ?_
  refine V_iaddN X dL_law_261 ?_
  refine V_sld X hXs hb (vp_in_nI (by omega) (by omega)) dL_law_262 (V.topi (fun a1 ea1 => ?_))
  refine V_aload_n X dL_law_263 4 rfl ?_
  refine V_iload X dL_law_264 0 rfl ?_
  refine V_iconst (v := nI 2) X dL_law_266 (by decide) ?_
  refine V_iaddN X dL_law_267 ?_
  refine V_sld X hXs hb (vp_in_nI (by omega) (by omega)) dL_law_268 (V.topi (fun a2 ea2 => ?_))
  refine V_aload_n X dL_law_269 1 rfl ?_
  refine V.so (σ' := (t, cW g X0 F (zup (rO g ad N S G B0) Oa (.inr (10, [.long m]))))) (congrArg (Prod.mk _) (zW_c hK (fun k hk => (hd k hk).2))) ?_
  refine V_callSX (rest := []) X Hh mw_L_scene st_L_scene (by decide) (by decide) (k_L_scene hX hG hO gO hR.1 a1 a2 (hR.bd hIr) hR.2.2.2.1) rfl rfl (Nat.le_of_ble_eq_true rfl) ⟨by omega, by omega⟩ dL_law_270 (fun v9 σ' hp9 => ?_)
  obtain ⟨x3, rfl, t4, F5, m6, rfl, hc7⟩ := hp9
  show V g κ 7 (k + 1) (n + 6) (t4, cW g X0 F5 (zup (rO g ad N S G B0) Oa (.inr (10, [.long m6])))) 273 [(4, .int (nI i)), (3, .ref Oa), (2, .ref (ad 0)), (1, .ref X0), (0, .ref b)] [.int x3]
  refine V_istore X [(5, .int x3), (4, .int (nI i)), (3, .ref Oa), (2, .ref (ad 0)), (1, .ref X0), (0, .ref b)] dL_law_273 (by decide) rfl ?_
  refine V_aload_n X dL_law_275 3 rfl ?_
  refine V_aload_n X dL_law_276 5 rfl ?_
  refine V_iload X dL_law_277 1 rfl ?_
  refine V_iconst (v := nI 1) X dL_law_279 (by decide) ?_
  refine V_iaddN X dL_law_280 ?_
  refine V_sld X hXs hb (vp_in_nI (by omega) (by omega)) dL_law_281 (V.topi (fun a8 ea8 => ?_))
  rw [ea8.trans ea1.symm]
  refine V_aload_n X dL_law_282 5 rfl ?_
  refine V_iload X dL_law_283 1 rfl ?_
  refine V_iconst (v := nI 2) X dL_law_285 (by decide) ?_
  refine V_iaddN X dL_law_286 ?_
  refine V_sld X hXs hb (vp_in_nI (by omega) (by omega)) dL_law_287 (V.topi (fun a9 ea9 => ?_))
  rw [ea9.trans ea2.symm]
  refine V.fr (fun hfr => ?_)
  have hf : X0 + 61 ≤ t4.1 ∧ Oa < t4.1 := zW_fr hO hfr
  obtain ⟨hf1, hf2⟩ := hf
  refine V.so (σ' := (t4, rO g ad N S G (cW g X0 F5 (zup B0 Oa (.inr (10, [.long m6])))))) (congrArg (Prod.mk _) ((zW_c hK (fun k hk => (hd k hk).2)).symm.trans (zW_r hK hd))) ?_
  refine V_callV (rest := []) X Hh ml_L_102 in_X12_scene (ci := 16) rfl se_X12_scene (R_recv hK (q := 0) (rlv (by omega)) rfl) (by decide) (by decide) (k_X12_scene hK hIr a1 a2 h43 hEm) rfl rfl (Nat.le_of_ble_eq_true rfl) ⟨by omega, by omega⟩ dL_law_288 (fun _ _ h => False.elim h) (fun v8 σ' hp8 => ?_)
  obtain ⟨x10, rfl, t11, ad18, N19, G12, rfl, hK20, hI14, hg21, hM13⟩ := hp8
  obtain ⟨hR15, hx16, hv17⟩ := ab_scene hR hc7 hM13
  have hd22 : ∀ k, rLive N19 k = true → (ad18 k < X0 ∨ X0 + 61 ≤ ad18 k) ∧ ad18 k ≠ Oa := fun k hk => by
    rcases hg21.2.2 k hk with ⟨j, hj, e⟩ | h
    · rw [e]; exact hd j hj
    · exact ⟨Or.inr (by omega), by omega⟩
  refine V.so (σ' := (t11, zW g X0 F5 ad18 N19 S G12 B0 Oa m6)) (congrArg (Prod.mk _) (zW_r hK20 hd22).symm) ?_
  show V g κ 7 (k + 3) (n + 18) (t11, zW g X0 F5 ad18 N19 S G12 B0 Oa m6) 291 [(5, .int x3), (4, .int (nI i)), (3, .ref Oa), (2, .ref (ad 0)), (1, .ref X0), (0, .ref b)] [.int x10]
  refine V_istore X [(6, .int x10), (5, .int x3), (4, .int (nI i)), (3, .ref Oa), (2, .ref (ad 0)), (1, .ref X0), (0, .ref b)] dL_law_291 (by decide) rfl ?_
  refine V_goto (tgt := 1049) X dL_law_293 (by decide) ?_
  exact V.sub [2, 3, 4, 5, 6] rfl (V.widen (by omega) (by omega) (done t11 ad18 N19 S G12 F5 m6 ⟨hK20, hd22, (hg21.2.1.trans h43), hI14, hR15, hg21.1⟩))
set_option maxRecDepth 100000 in
set_option maxHeartbeats 4000000 in
theorem lc_3 {g : zG} {κ : zC} {X0 Oa b L : Nat} {xs : Nat → Int32} (Cx : zCx g κ X0 Oa b L xs) {M : Nat} {B0 : Nat → Option va_E} {k n i : Nat} (hi : i + 4 ≤ L) (hk : k + 410 ≤ 823735) (hn : n + 2050 ≤ 6624900) (done : ∀ (t : Nat × Nat) (ad N : Nat → Nat) (S : Int64) (G F : Nat → Nat → Int32) (m : Int64), zLI g X0 Oa M ad N G F → V g κ 7 (k + 410) (n + 2050) (t, zW g X0 F ad N S G B0 Oa m) 1049 [(4, .int (nI i)), (3, .ref Oa), (2, .ref M), (1, .ref X0), (0, .ref b)] []) {t : Nat × Nat} {ad N : Nat → Nat} {S : Int64} {G F : Nat → Nat → Int32} {m : Int64} (I : zLI g X0 Oa M ad N G F) : V g κ 7 k n (t, zW g X0 F ad N S G B0 Oa m) 296 [(4, .int (nI i)), (3, .ref Oa), (2, .ref M), (1, .ref X0), (0, .ref b)] [] := by
  obtain ⟨X, Hh, hXs, hb, hL, hG, hEm, hX, hO, gO⟩ := Cx
  obtain ⟨hK, hd, h43, hIr, hR, rfl⟩ := I
  refine V_aload_n X dL_law_296 3 rfl ?_
  refine V_aload_n X dL_law_297 4 rfl ?_
  refine V_iload X dL_law_298 0 rfl ?_
  refine V_iconst (v := nI 1) X dL_law_300 (by decide) ?_
  refine V_iaddN X dL_law_301 ?_
  refine V_sld X hXs hb (vp_in_nI (by omega) (by omega)) dL_law_302 (V.topi (fun a1 ea1 => ?_))
  refine V_aload_n X dL_law_303 4 rfl ?_
  refine V_iload X dL_law_304 0 rfl ?_
  refine V_iconst (v := nI 2) X dL_law_306 (by decide) ?_
  refine V_iaddN X dL_law_307 ?_
  refine V_sld X hXs hb (vp_in_nI (by omega) (by omega)) dL_law_308 (V.topi (fun a2 ea2 => ?_))
  refine V_aload_n X dL_law_309 1 rfl ?_
  refine V.so (σ' := (t, cW g X0 F (zup (rO g ad N S G B0) Oa (.inr (10, [.long m]))))) (congrArg (Prod.mk _) (zW_c hK (fun k hk => (hd k hk).2))) ?_
  refine V_callSX (rest := []) X Hh mw_L_pause st_L_pause (by decide) (by decide) (k_L_pause hX hG hO gO hR.1 a1 a2 (hR.bd hIr) hR.2.2.2.1) rfl rfl (Nat.le_of_ble_eq_true rfl) ⟨by omega, by omega⟩ dL_law_310 (fun v9 σ' hp9 => ?_)
  obtain ⟨x3, rfl, t4, F5, m6, rfl, hc7⟩ := hp9
  show V g κ 7 (k + 1) (n + 6) (t4, cW g X0 F5 (zup (rO g ad N S G B0) Oa (.inr (10, [.long m6])))) 313 [(4, .int (nI i)), (3, .ref Oa), (2, .ref (ad 0)), (1, .ref X0), (0, .ref b)] [.int x3]
  refine V_istore X [(5, .int x3), (4, .int (nI i)), (3, .ref Oa), (2, .ref (ad 0)), (1, .ref X0), (0, .ref b)] dL_law_313 (by decide) rfl ?_
  refine V_aload_n X dL_law_315 3 rfl ?_
  refine V_aload_n X dL_law_316 5 rfl ?_
  refine V_iload X dL_law_317 1 rfl ?_
  refine V_iconst (v := nI 1) X dL_law_319 (by decide) ?_
  refine V_iaddN X dL_law_320 ?_
  refine V_sld X hXs hb (vp_in_nI (by omega) (by omega)) dL_law_321 (V.topi (fun a8 ea8 => ?_))
  rw [ea8.trans ea1.symm]
  refine V_aload_n X dL_law_322 5 rfl ?_
  refine V_iload X dL_law_323 1 rfl ?_
  refine V_iconst (v := nI 2) X dL_law_325 (by decide) ?_
  refine V_iaddN X dL_law_326 ?_
  refine V_sld X hXs hb (vp_in_nI (by omega) (by omega)) dL_law_327 (V.topi (fun a9 ea9 => ?_))
  rw [ea9.trans ea2.symm]
  refine V.fr (fun hfr => ?_)
  have hf : X0 + 61 ≤ t4.1 ∧ Oa < t4.1 := zW_fr hO hfr
  obtain ⟨hf1, hf2⟩ := hf
  refine V.so (σ' := (t4, rO g ad N S G (cW g X0 F5 (zup B0 Oa (.inr (10, [.long m6])))))) (congrArg (Prod.mk _) ((zW_c hK (fun k hk => (hd k hk).2)).symm.trans (zW_r hK hd))) ?_
  refine V_callV (rest := []) X Hh ml_L_105 in_X12_pause (ci := 16) rfl se_X12_pause (R_recv hK (q := 0) (rlv (by omega)) rfl) (by decide) (by decide) (k_X12_pause hK hIr a1 a2) rfl rfl (Nat.le_of_ble_eq_true rfl) ⟨by omega, by omega⟩ dL_law_328 (fun _ _ h => False.elim h) (fun v8 σ' hp8 => ?_)
  obtain ⟨x10, rfl, t11, G12, rfl, hI14, hM13⟩ := hp8
  obtain ⟨hR15, hx16, hv17⟩ := ab_pause hR hc7 hM13
  refine V.so (σ' := (t11, zW g X0 F5 ad N S G12 B0 Oa m6)) (congrArg (Prod.mk _) (zW_r hK hd).symm) ?_
  show V g κ 7 (k + 1) (n + 6) (t11, zW g X0 F5 ad N S G12 B0 Oa m6) 331 [(5, .int x3), (4, .int (nI i)), (3, .ref Oa), (2, .ref (ad 0)), (1, .ref X0), (0, .ref b)] [.int x10]
  refine V_istore X [(6, .int x10), (5, .int x3), (4, .int (nI i)), (3, .ref Oa), (2, .ref (ad 0)), (1, .ref X0), (0, .ref b)] dL_law_331 (by decide) rfl ?_
  refine V_goto (tgt := 1049) X dL_law_333 (by decide) ?_
  exact V.sub [2, 3, 4, 5, 6] rfl (V.widen (by omega) (by omega) (done t11 ad N S G12 F5 m6 ⟨hK, hd, h43, hI14, hR15, rfl⟩))
set_option maxRecDepth 100000 in
set_option maxHeartbeats 4000000 in
theorem lc_4 {g : zG} {κ : zC} {X0 Oa b L : Nat} {xs : Nat → Int32} (Cx : zCx g κ X0 Oa b L xs) {M : Nat} {B0 : Nat → Option va_E} {k n i : Nat} (hi : i + 4 ≤ L) (hk : k + 410 ≤ 823735) (hn : n + 2050 ≤ 6624900) (done : ∀ (t : Nat × Nat) (ad N : Nat → Nat) (S : Int64) (G F : Nat → Nat → Int32) (m : Int64), zLI g X0 Oa M ad N G F → V g κ 7 (k + 410) (n + 2050) (t, zW g X0 F ad N S G B0 Oa m) 1049 [(4, .int (nI i)), (3, .ref Oa), (2, .ref M), (1, .ref X0), (0, .ref b)] []) {t : Nat × Nat} {ad N : Nat → Nat} {S : Int64} {G F : Nat → Nat → Int32} {m : Int64} (I : zLI g X0 Oa M ad N G F) : V g κ 7 k n (t, zW g X0 F ad N S G B0 Oa m) 336 [(4, .int (nI i)), (3, .ref Oa), (2, .ref M), (1, .ref X0), (0, .ref b)] [] := by
  obtain ⟨X, Hh, hXs, hb, hL, hG, hEm, hX, hO, gO⟩ := Cx
  obtain ⟨hK, hd, h43, hIr, hR, rfl⟩ := I
  refine V_aload_n X dL_law_336 3 rfl ?_
  refine V_aload_n X dL_law_337 4 rfl ?_
  refine V_iload X dL_law_338 0 rfl ?_
  refine V_iconst (v := nI 1) X dL_law_340 (by decide) ?_
  refine V_iaddN X dL_law_341 ?_
  refine V_sld X hXs hb (vp_in_nI (by omega) (by omega)) dL_law_342 (V.topi (fun a1 ea1 => ?_))
  refine V_aload_n X dL_law_343 4 rfl ?_
  refine V_iload X dL_law_344 0 rfl ?_
  refine V_iconst (v := nI 2) X dL_law_346 (by decide) ?_
  refine V_iaddN X dL_law_347 ?_
  refine V_sld X hXs hb (vp_in_nI (by omega) (by omega)) dL_law_348 (V.topi (fun a2 ea2 => ?_))
  have b3 : ∀ b9 : Int32, ((b9 = 0 ∧ a2 = 0) ∨ (b9 = 1 ∧ ¬ a2 = 0)) → V g κ 7 (k + 0) (n + 0) (t, zW g X0 F ad N S G B0 Oa m) 357 [(4, .int (nI i)), (3, .ref Oa), (2, .ref (ad 0)), (1, .ref X0), (0, .ref b)] [.int b9, .int a1, .ref X0] := by
    intro b4 hb5
    refine V_aload_n X dL_law_357 1 rfl ?_
    refine V.so (σ' := (t, cW g X0 F (zup (rO g ad N S G B0) Oa (.inr (10, [.long m]))))) (congrArg (Prod.mk _) (zW_c hK (fun k hk => (hd k hk).2))) ?_
    refine V_callSX (rest := []) X Hh mw_L_sick st_L_sick (by decide) (by decide) (k_L_sick hX hG hO gO hR.1 a1 b4 (hR.bd hIr) hR.2.2.2.1) rfl rfl (Nat.le_of_ble_eq_true rfl) ⟨by omega, by omega⟩ dL_law_358 (fun v9 σ' hp9 => ?_)
    obtain ⟨x6, rfl, t7, F8, m9, rfl, hc10⟩ := hp9
    show V g κ 7 (k + 1) (n + 6) (t7, cW g X0 F8 (zup (rO g ad N S G B0) Oa (.inr (10, [.long m9])))) 361 [(4, .int (nI i)), (3, .ref Oa), (2, .ref (ad 0)), (1, .ref X0), (0, .ref b)] [.int x6]
    refine V_istore X [(5, .int x6), (4, .int (nI i)), (3, .ref Oa), (2, .ref (ad 0)), (1, .ref X0), (0, .ref b)] dL_law_361 (by decide) rfl ?_
    refine V_aload_n X dL_law_363 3 rfl ?_
    refine V_aload_n X dL_law_364 5 rfl ?_
    refine V_iload X dL_law_365 1 rfl ?_
    refine V_iconst (v := nI 1) X dL_law_367 (by decide) ?_
    refine V_iaddN X dL_law_368 ?_
    refine V_sld X hXs hb (vp_in_nI (by omega) (by omega)) dL_law_369 (V.topi (fun a11 ea11 => ?_))
    rw [ea11.trans ea1.symm]
    refine V_aload_n X dL_law_370 5 rfl ?_
    refine V_iload X dL_law_371 1 rfl ?_
    refine V_iconst (v := nI 2) X dL_law_373 (by decide) ?_
    refine V_iaddN X dL_law_374 ?_
    refine V_sld X hXs hb (vp_in_nI (by omega) (by omega)) dL_law_375 (V.topi (fun a12 ea12 => ?_))
    rw [ea12.trans ea2.symm]
    have b13 : ∀ b9 : Int32, ((b9 = 0 ∧ a2 = 0) ∨ (b9 = 1 ∧ ¬ a2 = 0)) → V g κ 7 (k + 1) (n + 6) (t7, cW g X0 F8 (zup (rO g ad N S G B0) Oa (.inr (10, [.long m9])))) 384 [(5, .int x6), (4, .int (nI i)), (3, .ref Oa), (2, .ref (ad 0)), (1, .ref X0), (0, .ref b)] [.int b9, .int a1, .ref (ad 0)] := by
      intro b14 hb15
      rw [zb_eq hb15 hb5]
      refine V.fr (fun hfr => ?_)
      have hf : X0 + 61 ≤ t7.1 ∧ Oa < t7.1 := zW_fr hO hfr
      obtain ⟨hf1, hf2⟩ := hf
      refine V.so (σ' := (t7, rO g ad N S G (cW g X0 F8 (zup B0 Oa (.inr (10, [.long m9])))))) (congrArg (Prod.mk _) ((zW_c hK (fun k hk => (hd k hk).2)).symm.trans (zW_r hK hd))) ?_
      refine V_callV (rest := []) X Hh ml_L_109 in_X12_sick (ci := 16) rfl se_X12_sick (R_recv hK (q := 0) (rlv (by omega)) rfl) (by decide) (by decide) (k_X12_sick hK hIr a1 b4 (hb5.imp And.left And.left)) rfl rfl (Nat.le_of_ble_eq_true rfl) ⟨by omega, by omega⟩ dL_law_384 (fun _ _ h => False.elim h) (fun v8 σ' hp8 => ?_)
      obtain ⟨x16, rfl, t17, G18, rfl, hI20, hM19⟩ := hp8
      obtain ⟨hR21, hx22, hv23⟩ := ab_sick hR (hb5.imp And.left And.left) hI20 hc10 hM19
      refine V.so (σ' := (t17, zW g X0 F8 ad N S G18 B0 Oa m9)) (congrArg (Prod.mk _) (zW_r hK hd).symm) ?_
      show V g κ 7 (k + 2) (n + 10) (t17, zW g X0 F8 ad N S G18 B0 Oa m9) 387 [(5, .int x6), (4, .int (nI i)), (3, .ref Oa), (2, .ref (ad 0)), (1, .ref X0), (0, .ref b)] [.int x16]
      refine V_istore X [(6, .int x16), (5, .int x6), (4, .int (nI i)), (3, .ref Oa), (2, .ref (ad 0)), (1, .ref X0), (0, .ref b)] dL_law_387 (by decide) rfl ?_
      refine V_aload_n X dL_law_389 4 rfl ?_
      refine V.so (σ' := (t17, rO g ad N S G18 (cW g X0 F8 (zup B0 Oa (.inr (10, [.long m9])))))) (congrArg (Prod.mk _) (zW_r hK hd)) ?_
      refine V_callV (rest := []) X Hh ml_L_110 in_X12_thrown (ci := 16) rfl se_X12_thrown (R_recv hK (q := 0) (rlv (by omega)) rfl) (by decide) (by decide) (k_X12_thrown hK hI20) rfl rfl (Nat.le_of_ble_eq_true rfl) ⟨by omega, by omega⟩ dL_law_390 (fun _ _ h => False.elim h) (fun v8 σ' hp8 => ?_)
      obtain ⟨hp8, rfl⟩ := hp8
      cases (hp8 : _ = some (Value.int (G18 0 0)))
      refine V.so (σ' := (t17, zW g X0 F8 ad N S G18 B0 Oa m9)) (congrArg (Prod.mk _) (zW_r hK hd).symm) ?_
      show V g κ 7 (k + 2) (n + 10) (t17, zW g X0 F8 ad N S G18 B0 Oa m9) 393 [(6, .int x16), (5, .int x6), (4, .int (nI i)), (3, .ref Oa), (2, .ref (ad 0)), (1, .ref X0), (0, .ref b)] [.int (G18 0 0)]
      refine V_iload X dL_law_393 1 rfl ?_
      refine V_icmpeq X (tgt := 400) dL_law_395 (by decide) (fun _ => ?_) (fun h => absurd hx22.symm h)
      refine V_iload X dL_law_400 1 rfl ?_
      refine V_ifne X (tgt := 418) dL_law_402 (by decide) (fun _ => ?_) (fun h24 => ?_)
      · show V g κ 7 (k + 2) (n + 10) (t17, zW g X0 F8 ad N S G18 B0 Oa m9) 418 [(6, .int x16), (5, .int x6), (4, .int (nI i)), (3, .ref Oa), (2, .ref (ad 0)), (1, .ref X0), (0, .ref b)] []
        refine V_goto (tgt := 1049) X dL_law_418 (by decide) ?_
        exact V.sub [2, 3, 4, 5, 6] rfl (V.widen (by omega) (by omega) (done t17 ad N S G18 F8 m9 ⟨hK, hd, h43, hI20, hR21, rfl⟩))
      · show V g κ 7 (k + 2) (n + 10) (t17, zW g X0 F8 ad N S G18 B0 Oa m9) 405 [(6, .int x16), (5, .int x6), (4, .int (nI i)), (3, .ref Oa), (2, .ref (ad 0)), (1, .ref X0), (0, .ref b)] []
        refine V_aload_n X dL_law_405 3 rfl ?_
        refine V.so (σ' := (t17, cW g X0 F8 (zup (rO g ad N S G18 B0) Oa (.inr (10, [.long m9]))))) (congrArg (Prod.mk _) (zW_c hK (fun k hk => (hd k hk).2))) ?_
        refine V_getf X fl_L_13 (v := .long m9) ((cW_out hO).trans zup_eq) rfl dL_law_406 ?_
        refine V_iload X dL_law_409 0 rfl ?_
        refine V_i2l X dL_law_411 ?_
        refine V_lcmp X dL_law_412 ?_
        refine V_ifeq X (tgt := 418) dL_law_413 (by decide) (fun _ => ?_) (fun h => absurd (lc0 (hv23 (h24.trans nI_0.symm))) h)
        show V g κ 7 (k + 2) (n + 10) (t17, cW g X0 F8 (zup (rO g ad N S G18 B0) Oa (.inr (10, [.long m9])))) 418 [(6, .int x16), (5, .int x6), (4, .int (nI i)), (3, .ref Oa), (2, .ref (ad 0)), (1, .ref X0), (0, .ref b)] []
        refine V_goto (tgt := 1049) X dL_law_418 (by decide) ?_
        refine V.so (σ' := (t17, zW g X0 F8 ad N S G18 B0 Oa m9)) (congrArg (Prod.mk _) (zW_c hK (fun k hk => (hd k hk).2)).symm) ?_
        exact V.sub [2, 3, 4, 5, 6] rfl (V.widen (by omega) (by omega) (done t17 ad N S G18 F8 m9 ⟨hK, hd, h43, hI20, hR21, rfl⟩))
    refine V_ifeq X (tgt := 383) dL_law_376 (by decide) (fun h => ?_) (fun h => ?_)
    · refine V_iconst (v := nI 0) X dL_law_383 (by decide) ?_
      exact b13 _ (Or.inl ⟨rfl, h⟩)
    · refine V_iconst (v := nI 1) X dL_law_379 (by decide) ?_
      refine V_goto (tgt := 384) X dL_law_380 (by decide) ?_
      exact b13 _ (Or.inr ⟨rfl, h⟩)
  refine V_ifeq X (tgt := 356) dL_law_349 (by decide) (fun h => ?_) (fun h => ?_)
  · refine V_iconst (v := nI 0) X dL_law_356 (by decide) ?_
    exact b3 _ (Or.inl ⟨rfl, h⟩)
  · refine V_iconst (v := nI 1) X dL_law_352 (by decide) ?_
    refine V_goto (tgt := 357) X dL_law_353 (by decide) ?_
    exact b3 _ (Or.inr ⟨rfl, h⟩)
set_option maxRecDepth 100000 in
set_option maxHeartbeats 4000000 in
theorem lc_5 {g : zG} {κ : zC} {X0 Oa b L : Nat} {xs : Nat → Int32} (Cx : zCx g κ X0 Oa b L xs) {M : Nat} {B0 : Nat → Option va_E} {k n i : Nat} (hi : i + 4 ≤ L) (hk : k + 410 ≤ 823735) (hn : n + 2050 ≤ 6624900) (done : ∀ (t : Nat × Nat) (ad N : Nat → Nat) (S : Int64) (G F : Nat → Nat → Int32) (m : Int64), zLI g X0 Oa M ad N G F → V g κ 7 (k + 410) (n + 2050) (t, zW g X0 F ad N S G B0 Oa m) 1049 [(4, .int (nI i)), (3, .ref Oa), (2, .ref M), (1, .ref X0), (0, .ref b)] []) {t : Nat × Nat} {ad N : Nat → Nat} {S : Int64} {G F : Nat → Nat → Int32} {m : Int64} (I : zLI g X0 Oa M ad N G F) : V g κ 7 k n (t, zW g X0 F ad N S G B0 Oa m) 421 [(4, .int (nI i)), (3, .ref Oa), (2, .ref M), (1, .ref X0), (0, .ref b)] [] := by
  obtain ⟨X, Hh, hXs, hb, hL, hG, hEm, hX, hO, gO⟩ := Cx
  obtain ⟨hK, hd, h43, hIr, hR, rfl⟩ := I
  refine V_aload_n X dL_law_421 3 rfl ?_
  refine V_aload_n X dL_law_422 4 rfl ?_
  refine V_iload X dL_law_423 0 rfl ?_
  refine V_iconst (v := nI 1) X dL_law_425 (by decide) ?_
  refine V_iaddN X dL_law_426 ?_
  refine V_sld X hXs hb (vp_in_nI (by omega) (by omega)) dL_law_427 (V.topi (fun a1 ea1 => ?_))
  refine V_aload_n X dL_law_428 4 rfl ?_
  refine V_iload X dL_law_429 0 rfl ?_
  refine V_iconst (v := nI 2) X dL_law_431 (by decide) ?_
  refine V_iaddN X dL_law_432 ?_
  refine V_sld X hXs hb (vp_in_nI (by omega) (by omega)) dL_law_433 (V.topi (fun a2 ea2 => ?_))
  refine V_aload_n X dL_law_434 4 rfl ?_
  refine V_iload X dL_law_435 0 rfl ?_
  refine V_iconst (v := nI 3) X dL_law_437 (by decide) ?_
  refine V_iaddN X dL_law_438 ?_
  refine V_sld X hXs hb (vp_in_nI (by omega) (by omega)) dL_law_439 (V.topi (fun a3 ea3 => ?_))
  refine V_aload_n X dL_law_440 1 rfl ?_
  refine V.so (σ' := (t, cW g X0 F (zup (rO g ad N S G B0) Oa (.inr (10, [.long m]))))) (congrArg (Prod.mk _) (zW_c hK (fun k hk => (hd k hk).2))) ?_
  refine V_callSX (rest := []) X Hh mw_L_coat st_L_coat (by decide) (by decide) (k_L_coat hX hG hO gO hR.1 a1 a2 a3 (hR.bd hIr) hR.2.2.2.1) rfl rfl (Nat.le_of_ble_eq_true rfl) ⟨by omega, by omega⟩ dL_law_441 (fun v9 σ' hp9 => ?_)
  obtain ⟨x4, rfl, t5, F6, m7, rfl, hc8⟩ := hp9
  show V g κ 7 (k + 1) (n + 6) (t5, cW g X0 F6 (zup (rO g ad N S G B0) Oa (.inr (10, [.long m7])))) 444 [(4, .int (nI i)), (3, .ref Oa), (2, .ref (ad 0)), (1, .ref X0), (0, .ref b)] [.int x4]
  refine V_istore X [(5, .int x4), (4, .int (nI i)), (3, .ref Oa), (2, .ref (ad 0)), (1, .ref X0), (0, .ref b)] dL_law_444 (by decide) rfl ?_
  refine V_aload_n X dL_law_446 3 rfl ?_
  refine V_aload_n X dL_law_447 5 rfl ?_
  refine V_iload X dL_law_448 1 rfl ?_
  refine V_iconst (v := nI 1) X dL_law_450 (by decide) ?_
  refine V_iaddN X dL_law_451 ?_
  refine V_sld X hXs hb (vp_in_nI (by omega) (by omega)) dL_law_452 (V.topi (fun a9 ea9 => ?_))
  rw [ea9.trans ea1.symm]
  refine V_aload_n X dL_law_453 5 rfl ?_
  refine V_iload X dL_law_454 1 rfl ?_
  refine V_iconst (v := nI 2) X dL_law_456 (by decide) ?_
  refine V_iaddN X dL_law_457 ?_
  refine V_sld X hXs hb (vp_in_nI (by omega) (by omega)) dL_law_458 (V.topi (fun a10 ea10 => ?_))
  rw [ea10.trans ea2.symm]
  refine V_aload_n X dL_law_459 5 rfl ?_
  refine V_iload X dL_law_460 1 rfl ?_
  refine V_iconst (v := nI 3) X dL_law_462 (by decide) ?_
  refine V_iaddN X dL_law_463 ?_
  refine V_sld X hXs hb (vp_in_nI (by omega) (by omega)) dL_law_464 (V.topi (fun a11 ea11 => ?_))
  rw [ea11.trans ea3.symm]
  refine V.fr (fun hfr => ?_)
  have hf : X0 + 61 ≤ t5.1 ∧ Oa < t5.1 := zW_fr hO hfr
  obtain ⟨hf1, hf2⟩ := hf
  refine V.so (σ' := (t5, rO g ad N S G (cW g X0 F6 (zup B0 Oa (.inr (10, [.long m7])))))) (congrArg (Prod.mk _) ((zW_c hK (fun k hk => (hd k hk).2)).symm.trans (zW_r hK hd))) ?_
  refine V_callV (rest := []) X Hh ml_L_116 in_X12_coat (ci := 16) rfl se_X12_coat (R_recv hK (q := 0) (rlv (by omega)) rfl) (by decide) (by decide) (k_X12_coat hK hIr a1 a2 a3 h43 hEm) rfl rfl (Nat.le_of_ble_eq_true rfl) ⟨by omega, by omega⟩ dL_law_465 (fun _ _ h => False.elim h) (fun v8 σ' hp8 => ?_)
  obtain ⟨x12, rfl, t13, ad20, N21, G14, rfl, hK22, hI16, hg23, hM15⟩ := hp8
  obtain ⟨hR17, hx18, hv19⟩ := ab_coat hR hc8 hM15
  have hd24 : ∀ k, rLive N21 k = true → (ad20 k < X0 ∨ X0 + 61 ≤ ad20 k) ∧ ad20 k ≠ Oa := fun k hk => by
    rcases hg23.2.2 k hk with ⟨j, hj, e⟩ | h
    · rw [e]; exact hd j hj
    · exact ⟨Or.inr (by omega), by omega⟩
  refine V.so (σ' := (t13, zW g X0 F6 ad20 N21 S G14 B0 Oa m7)) (congrArg (Prod.mk _) (zW_r hK22 hd24).symm) ?_
  show V g κ 7 (k + 3) (n + 20) (t13, zW g X0 F6 ad20 N21 S G14 B0 Oa m7) 468 [(5, .int x4), (4, .int (nI i)), (3, .ref Oa), (2, .ref (ad 0)), (1, .ref X0), (0, .ref b)] [.int x12]
  refine V_istore X [(6, .int x12), (5, .int x4), (4, .int (nI i)), (3, .ref Oa), (2, .ref (ad 0)), (1, .ref X0), (0, .ref b)] dL_law_468 (by decide) rfl ?_
  refine V_goto (tgt := 1049) X dL_law_470 (by decide) ?_
  exact V.sub [2, 3, 4, 5, 6] rfl (V.widen (by omega) (by omega) (done t13 ad20 N21 S G14 F6 m7 ⟨hK22, hd24, (hg23.2.1.trans h43), hI16, hR17, hg23.1⟩))
set_option maxRecDepth 100000 in
set_option maxHeartbeats 4000000 in
theorem lc_6 {g : zG} {κ : zC} {X0 Oa b L : Nat} {xs : Nat → Int32} (Cx : zCx g κ X0 Oa b L xs) {M : Nat} {B0 : Nat → Option va_E} {k n i : Nat} (hi : i + 4 ≤ L) (hk : k + 410 ≤ 823735) (hn : n + 2050 ≤ 6624900) (done : ∀ (t : Nat × Nat) (ad N : Nat → Nat) (S : Int64) (G F : Nat → Nat → Int32) (m : Int64), zLI g X0 Oa M ad N G F → V g κ 7 (k + 410) (n + 2050) (t, zW g X0 F ad N S G B0 Oa m) 1049 [(4, .int (nI i)), (3, .ref Oa), (2, .ref M), (1, .ref X0), (0, .ref b)] []) {t : Nat × Nat} {ad N : Nat → Nat} {S : Int64} {G F : Nat → Nat → Int32} {m : Int64} (I : zLI g X0 Oa M ad N G F) : V g κ 7 k n (t, zW g X0 F ad N S G B0 Oa m) 473 [(4, .int (nI i)), (3, .ref Oa), (2, .ref M), (1, .ref X0), (0, .ref b)] [] := by
  obtain ⟨X, Hh, hXs, hb, hL, hG, hEm, hX, hO, gO⟩ := Cx
  obtain ⟨hK, hd, h43, hIr, hR, rfl⟩ := I
  refine V_aload_n X dL_law_473 3 rfl ?_
  refine V_aload_n X dL_law_474 4 rfl ?_
  refine V_iload X dL_law_475 0 rfl ?_
  refine V_iconst (v := nI 1) X dL_law_477 (by decide) ?_
  refine V_iaddN X dL_law_478 ?_
  refine V_sld X hXs hb (vp_in_nI (by omega) (by omega)) dL_law_479 (V.topi (fun a1 ea1 => ?_))
  refine V_aload_n X dL_law_480 4 rfl ?_
  refine V_iload X dL_law_481 0 rfl ?_
  refine V_iconst (v := nI 2) X dL_law_483 (by decide) ?_
  refine V_iaddN X dL_law_484 ?_
  refine V_sld X hXs hb (vp_in_nI (by omega) (by omega)) dL_law_485 (V.topi (fun a2 ea2 => ?_))
  refine V_aload_n X dL_law_486 1 rfl ?_
  refine V.so (σ' := (t, cW g X0 F (zup (rO g ad N S G B0) Oa (.inr (10, [.long m]))))) (congrArg (Prod.mk _) (zW_c hK (fun k hk => (hd k hk).2))) ?_
  refine V_callSX (rest := []) X Hh mw_L_pawn st_L_pawn (by decide) (by decide) (k_L_pawn hX hG hO gO hR.1 a1 a2 (hR.bd hIr) hR.2.2.2.1) rfl rfl (Nat.le_of_ble_eq_true rfl) ⟨by omega, by omega⟩ dL_law_487 (fun v9 σ' hp9 => ?_)
  obtain ⟨x3, rfl, t4, F5, m6, rfl, hc7⟩ := hp9
  show V g κ 7 (k + 1) (n + 6) (t4, cW g X0 F5 (zup (rO g ad N S G B0) Oa (.inr (10, [.long m6])))) 490 [(4, .int (nI i)), (3, .ref Oa), (2, .ref (ad 0)), (1, .ref X0), (0, .ref b)] [.int x3]
  refine V_istore X [(5, .int x3), (4, .int (nI i)), (3, .ref Oa), (2, .ref (ad 0)), (1, .ref X0), (0, .ref b)] dL_law_490 (by decide) rfl ?_
  refine V_aload_n X dL_law_492 3 rfl ?_
  refine V_aload_n X dL_law_493 5 rfl ?_
  refine V_iload X dL_law_494 1 rfl ?_
  refine V_iconst (v := nI 1) X dL_law_496 (by decide) ?_
  refine V_iaddN X dL_law_497 ?_
  refine V_sld X hXs hb (vp_in_nI (by omega) (by omega)) dL_law_498 (V.topi (fun a8 ea8 => ?_))
  rw [ea8.trans ea1.symm]
  refine V_aload_n X dL_law_499 5 rfl ?_
  refine V_iload X dL_law_500 1 rfl ?_
  refine V_iconst (v := nI 2) X dL_law_502 (by decide) ?_
  refine V_iaddN X dL_law_503 ?_
  refine V_sld X hXs hb (vp_in_nI (by omega) (by omega)) dL_law_504 (V.topi (fun a9 ea9 => ?_))
  rw [ea9.trans ea2.symm]
  refine V.fr (fun hfr => ?_)
  have hf : X0 + 61 ≤ t4.1 ∧ Oa < t4.1 := zW_fr hO hfr
  obtain ⟨hf1, hf2⟩ := hf
  refine V.so (σ' := (t4, rO g ad N S G (cW g X0 F5 (zup B0 Oa (.inr (10, [.long m6])))))) (congrArg (Prod.mk _) ((zW_c hK (fun k hk => (hd k hk).2)).symm.trans (zW_r hK hd))) ?_
  refine V_callV (rest := []) X Hh ml_L_119 in_X12_pawn (ci := 16) rfl se_X12_pawn (R_recv hK (q := 0) (rlv (by omega)) rfl) (by decide) (by decide) (k_X12_pawn hK hIr a1 a2) rfl rfl (Nat.le_of_ble_eq_true rfl) ⟨by omega, by omega⟩ dL_law_505 (fun _ _ h => False.elim h) (fun v8 σ' hp8 => ?_)
  obtain ⟨x10, rfl, t11, G12, rfl, hI14, hM13⟩ := hp8
  obtain ⟨hR15, hx16, hv17⟩ := ab_pawn hR hIr hc7 hM13
  refine V.so (σ' := (t11, zW g X0 F5 ad N S G12 B0 Oa m6)) (congrArg (Prod.mk _) (zW_r hK hd).symm) ?_
  show V g κ 7 (k + 1) (n + 6) (t11, zW g X0 F5 ad N S G12 B0 Oa m6) 508 [(5, .int x3), (4, .int (nI i)), (3, .ref Oa), (2, .ref (ad 0)), (1, .ref X0), (0, .ref b)] [.int x10]
  refine V_istore X [(6, .int x10), (5, .int x3), (4, .int (nI i)), (3, .ref Oa), (2, .ref (ad 0)), (1, .ref X0), (0, .ref b)] dL_law_508 (by decide) rfl ?_
  refine V_goto (tgt := 1049) X dL_law_510 (by decide) ?_
  exact V.sub [2, 3, 4, 5, 6] rfl (V.widen (by omega) (by omega) (done t11 ad N S G12 F5 m6 ⟨hK, hd, h43, hI14, hR15, rfl⟩))
set_option maxRecDepth 100000 in
set_option maxHeartbeats 4000000 in
theorem lc_7 {g : zG} {κ : zC} {X0 Oa b L : Nat} {xs : Nat → Int32} (Cx : zCx g κ X0 Oa b L xs) {M : Nat} {B0 : Nat → Option va_E} {k n i : Nat} (hi : i + 4 ≤ L) (hk : k + 410 ≤ 823735) (hn : n + 2050 ≤ 6624900) (done : ∀ (t : Nat × Nat) (ad N : Nat → Nat) (S : Int64) (G F : Nat → Nat → Int32) (m : Int64), zLI g X0 Oa M ad N G F → V g κ 7 (k + 410) (n + 2050) (t, zW g X0 F ad N S G B0 Oa m) 1049 [(4, .int (nI i)), (3, .ref Oa), (2, .ref M), (1, .ref X0), (0, .ref b)] []) {t : Nat × Nat} {ad N : Nat → Nat} {S : Int64} {G F : Nat → Nat → Int32} {m : Int64} (I : zLI g X0 Oa M ad N G F) : V g κ 7 k n (t, zW g X0 F ad N S G B0 Oa m) 513 [(4, .int (nI i)), (3, .ref Oa), (2, .ref M), (1, .ref X0), (0, .ref b)] [] := by
  obtain ⟨X, Hh, hXs, hb, hL, hG, hEm, hX, hO, gO⟩ := Cx
  obtain ⟨hK, hd, h43, hIr, hR, rfl⟩ := I
  refine V_aload_n X dL_law_513 3 rfl ?_
  refine V_aload_n X dL_law_514 4 rfl ?_
  refine V_iload X dL_law_515 0 rfl ?_
  refine V_iconst (v := nI 1) X dL_law_517 (by decide) ?_
  refine V_iaddN X dL_law_518 ?_
  refine V_sld X hXs hb (vp_in_nI (by omega) (by omega)) dL_law_519 (V.topi (fun a1 ea1 => ?_))
  refine V_aload_n X dL_law_520 4 rfl ?_
  refine V_iload X dL_law_521 0 rfl ?_
  refine V_iconst (v := nI 2) X dL_law_523 (by decide) ?_
  refine V_iaddN X dL_law_524 ?_
  refine V_sld X hXs hb (vp_in_nI (by omega) (by omega)) dL_law_525 (V.topi (fun a2 ea2 => ?_))
  refine V_aload_n X dL_law_526 1 rfl ?_
  refine V.so (σ' := (t, cW g X0 F (zup (rO g ad N S G B0) Oa (.inr (10, [.long m]))))) (congrArg (Prod.mk _) (zW_c hK (fun k hk => (hd k hk).2))) ?_
  refine V_callSX (rest := []) X Hh mw_L_redeem st_L_redeem (by decide) (by decide) (k_L_redeem hX hG hO gO hR.1 a1 a2 (hR.bd hIr) hR.2.2.2.1) rfl rfl (Nat.le_of_ble_eq_true rfl) ⟨by omega, by omega⟩ dL_law_527 (fun v9 σ' hp9 => ?_)
  obtain ⟨x3, rfl, t4, F5, m6, rfl, hc7⟩ := hp9
  show V g κ 7 (k + 1) (n + 6) (t4, cW g X0 F5 (zup (rO g ad N S G B0) Oa (.inr (10, [.long m6])))) 530 [(4, .int (nI i)), (3, .ref Oa), (2, .ref (ad 0)), (1, .ref X0), (0, .ref b)] [.int x3]
  refine V_istore X [(5, .int x3), (4, .int (nI i)), (3, .ref Oa), (2, .ref (ad 0)), (1, .ref X0), (0, .ref b)] dL_law_530 (by decide) rfl ?_
  refine V_aload_n X dL_law_532 3 rfl ?_
  refine V_aload_n X dL_law_533 5 rfl ?_
  refine V_iload X dL_law_534 1 rfl ?_
  refine V_iconst (v := nI 1) X dL_law_536 (by decide) ?_
  refine V_iaddN X dL_law_537 ?_
  refine V_sld X hXs hb (vp_in_nI (by omega) (by omega)) dL_law_538 (V.topi (fun a8 ea8 => ?_))
  rw [ea8.trans ea1.symm]
  refine V_aload_n X dL_law_539 5 rfl ?_
  refine V_iload X dL_law_540 1 rfl ?_
  refine V_iconst (v := nI 2) X dL_law_542 (by decide) ?_
  refine V_iaddN X dL_law_543 ?_
  refine V_sld X hXs hb (vp_in_nI (by omega) (by omega)) dL_law_544 (V.topi (fun a9 ea9 => ?_))
  rw [ea9.trans ea2.symm]
  refine V.fr (fun hfr => ?_)
  have hf : X0 + 61 ≤ t4.1 ∧ Oa < t4.1 := zW_fr hO hfr
  obtain ⟨hf1, hf2⟩ := hf
  refine V.so (σ' := (t4, rO g ad N S G (cW g X0 F5 (zup B0 Oa (.inr (10, [.long m6])))))) (congrArg (Prod.mk _) ((zW_c hK (fun k hk => (hd k hk).2)).symm.trans (zW_r hK hd))) ?_
  refine V_callV (rest := []) X Hh ml_L_122 in_X12_redeem (ci := 16) rfl se_X12_redeem (R_recv hK (q := 0) (rlv (by omega)) rfl) (by decide) (by decide) (k_X12_redeem hK hIr a1 a2) rfl rfl (Nat.le_of_ble_eq_true rfl) ⟨by omega, by omega⟩ dL_law_545 (fun _ _ h => False.elim h) (fun v8 σ' hp8 => ?_)
  obtain ⟨x10, rfl, t11, G12, rfl, hI14, hM13⟩ := hp8
  obtain ⟨hR15, hx16, hv17⟩ := ab_redeem hR hIr hc7 hM13
  refine V.so (σ' := (t11, zW g X0 F5 ad N S G12 B0 Oa m6)) (congrArg (Prod.mk _) (zW_r hK hd).symm) ?_
  show V g κ 7 (k + 1) (n + 6) (t11, zW g X0 F5 ad N S G12 B0 Oa m6) 548 [(5, .int x3), (4, .int (nI i)), (3, .ref Oa), (2, .ref (ad 0)), (1, .ref X0), (0, .ref b)] [.int x10]
  refine V_istore X [(6, .int x10), (5, .int x3), (4, .int (nI i)), (3, .ref Oa), (2, .ref (ad 0)), (1, .ref X0), (0, .ref b)] dL_law_548 (by decide) rfl ?_
  refine V_goto (tgt := 1049) X dL_law_550 (by decide) ?_
  exact V.sub [2, 3, 4, 5, 6] rfl (V.widen (by omega) (by omega) (done t11 ad N S G12 F5 m6 ⟨hK, hd, h43, hI14, hR15, rfl⟩))
set_option maxRecDepth 100000 in
set_option maxHeartbeats 4000000 in
theorem lc_8 {g : zG} {κ : zC} {X0 Oa b L : Nat} {xs : Nat → Int32} (Cx : zCx g κ X0 Oa b L xs) {M : Nat} {B0 : Nat → Option va_E} {k n i : Nat} (hi : i + 4 ≤ L) (hk : k + 410 ≤ 823735) (hn : n + 2050 ≤ 6624900) (done : ∀ (t : Nat × Nat) (ad N : Nat → Nat) (S : Int64) (G F : Nat → Nat → Int32) (m : Int64), zLI g X0 Oa M ad N G F → V g κ 7 (k + 410) (n + 2050) (t, zW g X0 F ad N S G B0 Oa m) 1049 [(4, .int (nI i)), (3, .ref Oa), (2, .ref M), (1, .ref X0), (0, .ref b)] []) {t : Nat × Nat} {ad N : Nat → Nat} {S : Int64} {G F : Nat → Nat → Int32} {m : Int64} (I : zLI g X0 Oa M ad N G F) : V g κ 7 k n (t, zW g X0 F ad N S G B0 Oa m) 553 [(4, .int (nI i)), (3, .ref Oa), (2, .ref M), (1, .ref X0), (0, .ref b)] [] := by
  obtain ⟨X, Hh, hXs, hb, hL, hG, hEm, hX, hO, gO⟩ := Cx
  obtain ⟨hK, hd, h43, hIr, hR, rfl⟩ := I
  refine V_aload_n X dL_law_553 3 rfl ?_
  refine V_aload_n X dL_law_554 4 rfl ?_
  refine V_iload X dL_law_555 0 rfl ?_
  refine V_iconst (v := nI 1) X dL_law_557 (by decide) ?_
  refine V_iaddN X dL_law_558 ?_
  refine V_sld X hXs hb (vp_in_nI (by omega) (by omega)) dL_law_559 (V.topi (fun a1 ea1 => ?_))
  refine V_aload_n X dL_law_560 4 rfl ?_
  refine V_iload X dL_law_561 0 rfl ?_
  refine V_iconst (v := nI 2) X dL_law_563 (by decide) ?_
  refine V_iaddN X dL_law_564 ?_
  refine V_sld X hXs hb (vp_in_nI (by omega) (by omega)) dL_law_565 (V.topi (fun a2 ea2 => ?_))
  refine V_aload_n X dL_law_566 4 rfl ?_
  refine V_iload X dL_law_567 0 rfl ?_
  refine V_iconst (v := nI 3) X dL_law_569 (by decide) ?_
  refine V_iaddN X dL_law_570 ?_
  refine V_sld X hXs hb (vp_in_nI (by omega) (by omega)) dL_law_571 (V.topi (fun a3 ea3 => ?_))
  refine V_aload_n X dL_law_572 1 rfl ?_
  refine V.so (σ' := (t, cW g X0 F (zup (rO g ad N S G B0) Oa (.inr (10, [.long m]))))) (congrArg (Prod.mk _) (zW_c hK (fun k hk => (hd k hk).2))) ?_
  refine V_callSX (rest := []) X Hh mw_L_town st_L_town (by decide) (by decide) (k_L_town hX hG hO gO hR.1 a1 a2 a3 (hR.bd hIr) hR.2.2.2.1) rfl rfl (Nat.le_of_ble_eq_true rfl) ⟨by omega, by omega⟩ dL_law_573 (fun v9 σ' hp9 => ?_)
  obtain ⟨x4, rfl, t5, F6, m7, rfl, hc8⟩ := hp9
  show V g κ 7 (k + 1) (n + 6) (t5, cW g X0 F6 (zup (rO g ad N S G B0) Oa (.inr (10, [.long m7])))) 576 [(4, .int (nI i)), (3, .ref Oa), (2, .ref (ad 0)), (1, .ref X0), (0, .ref b)] [.int x4]
  refine V_istore X [(5, .int x4), (4, .int (nI i)), (3, .ref Oa), (2, .ref (ad 0)), (1, .ref X0), (0, .ref b)] dL_law_576 (by decide) rfl ?_
  refine V_aload_n X dL_law_578 3 rfl ?_
  refine V_aload_n X dL_law_579 5 rfl ?_
  refine V_iload X dL_law_580 1 rfl ?_
  refine V_iconst (v := nI 1) X dL_law_582 (by decide) ?_
  refine V_iaddN X dL_law_583 ?_
  refine V_sld X hXs hb (vp_in_nI (by omega) (by omega)) dL_law_584 (V.topi (fun a9 ea9 => ?_))
  rw [ea9.trans ea1.symm]
  refine V_aload_n X dL_law_585 5 rfl ?_
  refine V_iload X dL_law_586 1 rfl ?_
  refine V_iconst (v := nI 2) X dL_law_588 (by decide) ?_
  refine V_iaddN X dL_law_589 ?_
  refine V_sld X hXs hb (vp_in_nI (by omega) (by omega)) dL_law_590 (V.topi (fun a10 ea10 => ?_))
  rw [ea10.trans ea2.symm]
  refine V_aload_n X dL_law_591 5 rfl ?_
  refine V_iload X dL_law_592 1 rfl ?_
  refine V_iconst (v := nI 3) X dL_law_594 (by decide) ?_
  refine V_iaddN X dL_law_595 ?_
  refine V_sld X hXs hb (vp_in_nI (by omega) (by omega)) dL_law_596 (V.topi (fun a11 ea11 => ?_))
  rw [ea11.trans ea3.symm]
  refine V.fr (fun hfr => ?_)
  have hf : X0 + 61 ≤ t5.1 ∧ Oa < t5.1 := zW_fr hO hfr
  obtain ⟨hf1, hf2⟩ := hf
  refine V.so (σ' := (t5, rO g ad N S G (cW g X0 F6 (zup B0 Oa (.inr (10, [.long m7])))))) (congrArg (Prod.mk _) ((zW_c hK (fun k hk => (hd k hk).2)).symm.trans (zW_r hK hd))) ?_
  refine V_callV (rest := []) X Hh ml_L_125 in_X12_town (ci := 16) rfl se_X12_town (R_recv hK (q := 0) (rlv (by omega)) rfl) (by decide) (by decide) (k_X12_town hK hIr a1 a2 a3 h43 hEm) rfl rfl (Nat.le_of_ble_eq_true rfl) ⟨by omega, by omega⟩ dL_law_597 (fun _ _ h => False.elim h) (fun v8 σ' hp8 => ?_)
  obtain ⟨x12, rfl, t13, ad20, N21, G14, rfl, hK22, hI16, hg23, hM15⟩ := hp8
  obtain ⟨hR17, hx18, hv19⟩ := ab_town hR hc8 hM15
  have hd24 : ∀ k, rLive N21 k = true → (ad20 k < X0 ∨ X0 + 61 ≤ ad20 k) ∧ ad20 k ≠ Oa := fun k hk => by
    rcases hg23.2.2 k hk with ⟨j, hj, e⟩ | h
    · rw [e]; exact hd j hj
    · exact ⟨Or.inr (by omega), by omega⟩
  refine V.so (σ' := (t13, zW g X0 F6 ad20 N21 S G14 B0 Oa m7)) (congrArg (Prod.mk _) (zW_r hK22 hd24).symm) ?_
  show V g κ 7 (k + 3) (n + 19) (t13, zW g X0 F6 ad20 N21 S G14 B0 Oa m7) 600 [(5, .int x4), (4, .int (nI i)), (3, .ref Oa), (2, .ref (ad 0)), (1, .ref X0), (0, .ref b)] [.int x12]
  refine V_istore X [(6, .int x12), (5, .int x4), (4, .int (nI i)), (3, .ref Oa), (2, .ref (ad 0)), (1, .ref X0), (0, .ref b)] dL_law_600 (by decide) rfl ?_
  refine V_goto (tgt := 1049) X dL_law_602 (by decide) ?_
  exact V.sub [2, 3, 4, 5, 6] rfl (V.widen (by omega) (by omega) (done t13 ad20 N21 S G14 F6 m7 ⟨hK22, hd24, (hg23.2.1.trans h43), hI16, hR17, hg23.1⟩))
set_option maxRecDepth 100000 in
set_option maxHeartbeats 4000000 in
theorem lc_9 {g : zG} {κ : zC} {X0 Oa b L : Nat} {xs : Nat → Int32} (Cx : zCx g κ X0 Oa b L xs) {M : Nat} {B0 : Nat → Option va_E} {k n i : Nat} (hi : i + 4 ≤ L) (hk : k + 410 ≤ 823735) (hn : n + 2050 ≤ 6624900) (done : ∀ (t : Nat × Nat) (ad N : Nat → Nat) (S : Int64) (G F : Nat → Nat → Int32) (m : Int64), zLI g X0 Oa M ad N G F → V g κ 7 (k + 410) (n + 2050) (t, zW g X0 F ad N S G B0 Oa m) 1049 [(4, .int (nI i)), (3, .ref Oa), (2, .ref M), (1, .ref X0), (0, .ref b)] []) {t : Nat × Nat} {ad N : Nat → Nat} {S : Int64} {G F : Nat → Nat → Int32} {m : Int64} (I : zLI g X0 Oa M ad N G F) : V g κ 7 k n (t, zW g X0 F ad N S G B0 Oa m) 605 [(4, .int (nI i)), (3, .ref Oa), (2, .ref M), (1, .ref X0), (0, .ref b)] [] := by
  obtain ⟨X, Hh, hXs, hb, hL, hG, hEm, hX, hO, gO⟩ := Cx
  obtain ⟨hK, hd, h43, hIr, hR, rfl⟩ := I
  refine V_aload_n X dL_law_605 3 rfl ?_
  refine V_aload_n X dL_law_606 4 rfl ?_
  refine V_iload X dL_law_607 0 rfl ?_
  refine V_iconst (v := nI 1) X dL_law_609 (by decide) ?_
  refine V_iaddN X dL_law_610 ?_
  refine V_sld X hXs hb (vp_in_nI (by omega) (by omega)) dL_law_611 (V.topi (fun a1 ea1 => ?_))
  refine V_aload_n X dL_law_612 1 rfl ?_
  refine V.so (σ' := (t, cW g X0 F (zup (rO g ad N S G B0) Oa (.inr (10, [.long m]))))) (congrArg (Prod.mk _) (zW_c hK (fun k hk => (hd k hk).2))) ?_
  refine V_callSX (rest := []) X Hh mw_L_night st_L_night (by decide) (by decide) (k_L_night hX hG hO gO hR.1 a1 (hR.bd hIr) hR.2.2.2.1) rfl rfl (Nat.le_of_ble_eq_true rfl) ⟨by omega, by omega⟩ dL_law_613 (fun v9 σ' hp9 => ?_)
  obtain ⟨x2, rfl, t3, F4, m5, rfl, hc6⟩ := hp9
  show V g κ 7 (k + 1) (n + 6) (t3, cW g X0 F4 (zup (rO g ad N S G B0) Oa (.inr (10, [.long m5])))) 616 [(4, .int (nI i)), (3, .ref Oa), (2, .ref (ad 0)), (1, .ref X0), (0, .ref b)] [.int x2]
  refine V_istore X [(5, .int x2), (4, .int (nI i)), (3, .ref Oa), (2, .ref (ad 0)), (1, .ref X0), (0, .ref b)] dL_law_616 (by decide) rfl ?_
  refine V_aload_n X dL_law_618 3 rfl ?_
  refine V_aload_n X dL_law_619 5 rfl ?_
  refine V_iload X dL_law_620 1 rfl ?_
  refine V_iconst (v := nI 1) X dL_law_622 (by decide) ?_
  refine V_iaddN X dL_law_623 ?_
  refine V_sld X hXs hb (vp_in_nI (by omega) (by omega)) dL_law_624 (V.topi (fun a7 ea7 => ?_))
  rw [ea7.trans ea1.symm]
  refine V.fr (fun hfr => ?_)
  have hf : X0 + 61 ≤ t3.1 ∧ Oa < t3.1 := zW_fr hO hfr
  obtain ⟨hf1, hf2⟩ := hf
  refine V.so (σ' := (t3, rO g ad N S G (cW g X0 F4 (zup B0 Oa (.inr (10, [.long m5])))))) (congrArg (Prod.mk _) ((zW_c hK (fun k hk => (hd k hk).2)).symm.trans (zW_r hK hd))) ?_
  obtain ⟨b9, g9, hb9⟩ := rBs_ex (N := N) (G := G)
  refine V_callV (rest := []) X Hh ml_L_129 in_X12_night (ci := 16) rfl se_X12_night (R_recv hK (q := 0) (rlv (by omega)) rfl) (by decide) (by decide) (k_X12_night hK hIr a1 hR.2.2.2.2 b9 g9 hb9) rfl rfl (Nat.le_of_ble_eq_true rfl) ⟨by omega, by omega⟩ dL_law_625 (fun _ _ h => False.elim h) (fun v8 σ' hp8 => ?_)
  obtain ⟨x8, rfl, t9, G10, rfl, hI12, hM11⟩ := hp8
  obtain ⟨hR13, hx14, hv15⟩ := ab_night hR hIr hc6 hM11
  refine V.so (σ' := (t9, zW g X0 F4 ad N S G10 B0 Oa m5)) (congrArg (Prod.mk _) (zW_r hK hd).symm) ?_
  show V g κ 7 (k + 1) (n + 6) (t9, zW g X0 F4 ad N S G10 B0 Oa m5) 628 [(5, .int x2), (4, .int (nI i)), (3, .ref Oa), (2, .ref (ad 0)), (1, .ref X0), (0, .ref b)] [.int x8]
  refine V_istore X [(6, .int x8), (5, .int x2), (4, .int (nI i)), (3, .ref Oa), (2, .ref (ad 0)), (1, .ref X0), (0, .ref b)] dL_law_628 (by decide) rfl ?_
  refine V_goto (tgt := 1049) X dL_law_630 (by decide) ?_
  exact V.sub [2, 3, 4, 5, 6] rfl (V.widen (by omega) (by omega) (done t9 ad N S G10 F4 m5 ⟨hK, hd, h43, hI12, hR13, rfl⟩))
set_option maxRecDepth 100000 in
set_option maxHeartbeats 4000000 in
theorem lc_10 {g : zG} {κ : zC} {X0 Oa b L : Nat} {xs : Nat → Int32} (Cx : zCx g κ X0 Oa b L xs) {M : Nat} {B0 : Nat → Option va_E} {k n i : Nat} (hi : i + 4 ≤ L) (hk : k + 410 ≤ 823735) (hn : n + 2050 ≤ 6624900) (done : ∀ (t : Nat × Nat) (ad N : Nat → Nat) (S : Int64) (G F : Nat → Nat → Int32) (m : Int64), zLI g X0 Oa M ad N G F → V g κ 7 (k + 410) (n + 2050) (t, zW g X0 F ad N S G B0 Oa m) 1049 [(4, .int (nI i)), (3, .ref Oa), (2, .ref M), (1, .ref X0), (0, .ref b)] []) {t : Nat × Nat} {ad N : Nat → Nat} {S : Int64} {G F : Nat → Nat → Int32} {m : Int64} (I : zLI g X0 Oa M ad N G F) : V g κ 7 k n (t, zW g X0 F ad N S G B0 Oa m) 633 [(4, .int (nI i)), (3, .ref Oa), (2, .ref M), (1, .ref X0), (0, .ref b)] [] := by
  obtain ⟨X, Hh, hXs, hb, hL, hG, hEm, hX, hO, gO⟩ := Cx
  obtain ⟨hK, hd, h43, hIr, hR, rfl⟩ := I
  refine V_aload_n X dL_law_633 3 rfl ?_
  refine V_callV (rest := []) X Hh ml_L_130 in_X5_knock (ci := 9) rfl se_X5_knock (C_recv (q := 0) (by decide) rfl) (by decide) (by decide) (k_X5_knock hX hR.1) rfl rfl (Nat.le_of_ble_eq_true rfl) ⟨by omega, by omega⟩ dL_law_634 (fun _ _ h => False.elim h) (fun v9 σ' hp9 => ?_)
  obtain ⟨rfl, F3, rfl, hIk, hm4⟩ := hp9
  show V g κ 7 (k + 0) (n + 0) (t, zW g X0 F3 ad N S G B0 Oa m) 637 [(4, .int (nI i)), (3, .ref Oa), (2, .ref (ad 0)), (1, .ref X0), (0, .ref b)] [.int (F 0 8 + nI 1)]
  refine V_pop X dL_law_637 rfl ?_
  refine V_aload_n X dL_law_638 2 rfl ?_
  refine V.so (σ' := (t, rO g ad N S G (cW g X0 F3 (zup B0 Oa (.inr (10, [.long m])))))) (congrArg (Prod.mk _) (zW_r hK hd)) ?_
  refine V_callV (rest := []) X Hh ml_L_133 in_X12_knock (ci := 16) rfl se_X12_knock (R_recv hK (q := 0) (rlv (by omega)) rfl) (by decide) (by decide) (k_X12_knock hK hIr) rfl rfl (Nat.le_of_ble_eq_true rfl) ⟨by omega, by omega⟩ dL_law_639 (fun _ _ h => False.elim h) (fun v8 σ' hp8 => ?_)
  obtain ⟨rfl, G7, rfl, hI9, hM8⟩ := hp8
  have hR10 := ab_knock hR hIk hm4 hM8
  refine V.so (σ' := (t, zW g X0 F3 ad N S G7 B0 Oa m)) (congrArg (Prod.mk _) (zW_r hK hd).symm) ?_
  show V g κ 7 (k + 0) (n + 0) (t, zW g X0 F3 ad N S G7 B0 Oa m) 642 [(4, .int (nI i)), (3, .ref Oa), (2, .ref (ad 0)), (1, .ref X0), (0, .ref b)] [.int (G 0 9 + nI 1)]
  refine V_pop X dL_law_642 rfl ?_
  refine V_goto (tgt := 1049) X dL_law_643 (by decide) ?_
  exact V.sub [0, 1, 2, 3, 4] rfl (V.widen (by omega) (by omega) (done t ad N S G7 F3 m ⟨hK, hd, h43, hI9, hR10, rfl⟩))
set_option maxRecDepth 100000 in
set_option maxHeartbeats 4000000 in
theorem lc_11 {g : zG} {κ : zC} {X0 Oa b L : Nat} {xs : Nat → Int32} (Cx : zCx g κ X0 Oa b L xs) {M : Nat} {B0 : Nat → Option va_E} {k n i : Nat} (hi : i + 4 ≤ L) (hk : k + 410 ≤ 823735) (hn : n + 2050 ≤ 6624900) (done : ∀ (t : Nat × Nat) (ad N : Nat → Nat) (S : Int64) (G F : Nat → Nat → Int32) (m : Int64), zLI g X0 Oa M ad N G F → V g κ 7 (k + 410) (n + 2050) (t, zW g X0 F ad N S G B0 Oa m) 1049 [(4, .int (nI i)), (3, .ref Oa), (2, .ref M), (1, .ref X0), (0, .ref b)] []) {t : Nat × Nat} {ad N : Nat → Nat} {S : Int64} {G F : Nat → Nat → Int32} {m : Int64} (I : zLI g X0 Oa M ad N G F) : V g κ 7 k n (t, zW g X0 F ad N S G B0 Oa m) 646 [(4, .int (nI i)), (3, .ref Oa), (2, .ref M), (1, .ref X0), (0, .ref b)] [] := by
  obtain ⟨X, Hh, hXs, hb, hL, hG, hEm, hX, hO, gO⟩ := Cx
  obtain ⟨hK, hd, h43, hIr, hR, rfl⟩ := I
  refine V_aload_n X dL_law_646 3 rfl ?_
  refine V_aload_n X dL_law_647 4 rfl ?_
  refine V_iload X dL_law_648 0 rfl ?_
  refine V_iconst (v := nI 1) X dL_law_650 (by decide) ?_
  refine V_iaddN X dL_law_651 ?_
  refine V_sld X hXs hb (vp_in_nI (by omega) (by omega)) dL_law_652 (V.topi (fun a1 ea1 => ?_))
  refine V_aload_n X dL_law_653 4 rfl ?_
  refine V_iload X dL_law_654 0 rfl ?_
  refine V_iconst (v := nI 2) X dL_law_656 (by decide) ?_
  refine V_iaddN X dL_law_657 ?_
  refine V_sld X hXs hb (vp_in_nI (by omega) (by omega)) dL_law_658 (V.topi (fun a2 ea2 => ?_))
  refine V_aload_n X dL_law_659 1 rfl ?_
  refine V.so (σ' := (t, cW g X0 F (zup (rO g ad N S G B0) Oa (.inr (10, [.long m]))))) (congrArg (Prod.mk _) (zW_c hK (fun k hk => (hd k hk).2))) ?_
  refine V_callSX (rest := []) X Hh mw_L_ofPart st_L_ofPart (by decide) (by decide) (k_L_ofPart hX hG hO gO hR.1 a1 a2 (hR.bd hIr) hR.2.2.2.1) rfl rfl (Nat.le_of_ble_eq_true rfl) ⟨by omega, by omega⟩ dL_law_660 (fun v9 σ' hp9 => ?_)
  obtain ⟨x3, rfl, t4, F5, m6, rfl, hc7⟩ := hp9
  show V g κ 7 (k + 1) (n + 6) (t4, cW g X0 F5 (zup (rO g ad N S G B0) Oa (.inr (10, [.long m6])))) 663 [(4, .int (nI i)), (3, .ref Oa), (2, .ref (ad 0)), (1, .ref X0), (0, .ref b)] [.int x3]
  refine V_istore X [(5, .int x3), (4, .int (nI i)), (3, .ref Oa), (2, .ref (ad 0)), (1, .ref X0), (0, .ref b)] dL_law_663 (by decide) rfl ?_
  refine V_aload_n X dL_law_665 3 rfl ?_
  refine V_aload_n X dL_law_666 5 rfl ?_
  refine V_iload X dL_law_667 1 rfl ?_
  refine V_iconst (v := nI 1) X dL_law_669 (by decide) ?_
  refine V_iaddN X dL_law_670 ?_
  refine V_sld X hXs hb (vp_in_nI (by omega) (by omega)) dL_law_671 (V.topi (fun a8 ea8 => ?_))
  rw [ea8.trans ea1.symm]
  refine V_aload_n X dL_law_672 5 rfl ?_
  refine V_iload X dL_law_673 1 rfl ?_
  refine V_iconst (v := nI 2) X dL_law_675 (by decide) ?_
  refine V_iaddN X dL_law_676 ?_
  refine V_sld X hXs hb (vp_in_nI (by omega) (by omega)) dL_law_677 (V.topi (fun a9 ea9 => ?_))
  rw [ea9.trans ea2.symm]
  refine V.fr (fun hfr => ?_)
  have hf : X0 + 61 ≤ t4.1 ∧ Oa < t4.1 := zW_fr hO hfr
  obtain ⟨hf1, hf2⟩ := hf
  refine V.so (σ' := (t4, rO g ad N S G (cW g X0 F5 (zup B0 Oa (.inr (10, [.long m6])))))) (congrArg (Prod.mk _) ((zW_c hK (fun k hk => (hd k hk).2)).symm.trans (zW_r hK hd))) ?_
  obtain ⟨b9, g9, hb9⟩ := rBs_ex (N := N) (G := G)
  refine V_callV (rest := []) X Hh ml_L_136 in_X12_ofPart (ci := 16) rfl se_X12_ofPart (R_recv hK (q := 0) (rlv (by omega)) rfl) (by decide) (by decide) (k_X12_ofPart hK hIr a1 a2 hR.2.2.2.2 b9 g9 hb9) rfl rfl (Nat.le_of_ble_eq_true rfl) ⟨by omega, by omega⟩ dL_law_678 (fun _ _ h => False.elim h) (fun v8 σ' hp8 => ?_)
  obtain ⟨x10, rfl, t11, G12, rfl, hI14, hM13⟩ := hp8
  obtain ⟨hR15, hx16, hv17⟩ := ab_ofPart hR hIr hc7 hM13
  refine V.so (σ' := (t11, zW g X0 F5 ad N S G12 B0 Oa m6)) (congrArg (Prod.mk _) (zW_r hK hd).symm) ?_
  show V g κ 7 (k + 1) (n + 6) (t11, zW g X0 F5 ad N S G12 B0 Oa m6) 681 [(5, .int x3), (4, .int (nI i)), (3, .ref Oa), (2, .ref (ad 0)), (1, .ref X0), (0, .ref b)] [.int x10]
  refine V_istore X [(6, .int x10), (5, .int x3), (4, .int (nI i)), (3, .ref Oa), (2, .ref (ad 0)), (1, .ref X0), (0, .ref b)] dL_law_681 (by decide) rfl ?_
  refine V_goto (tgt := 1049) X dL_law_683 (by decide) ?_
  exact V.sub [2, 3, 4, 5, 6] rfl (V.widen (by omega) (by omega) (done t11 ad N S G12 F5 m6 ⟨hK, hd, h43, hI14, hR15, rfl⟩))
set_option maxRecDepth 100000 in
set_option maxHeartbeats 4000000 in
theorem lc_12 {g : zG} {κ : zC} {X0 Oa b L : Nat} {xs : Nat → Int32} (Cx : zCx g κ X0 Oa b L xs) {M : Nat} {B0 : Nat → Option va_E} {k n i : Nat} (hi : i + 4 ≤ L) (hk : k + 410 ≤ 823735) (hn : n + 2050 ≤ 6624900) (done : ∀ (t : Nat × Nat) (ad N : Nat → Nat) (S : Int64) (G F : Nat → Nat → Int32) (m : Int64), zLI g X0 Oa M ad N G F → V g κ 7 (k + 410) (n + 2050) (t, zW g X0 F ad N S G B0 Oa m) 1049 [(4, .int (nI i)), (3, .ref Oa), (2, .ref M), (1, .ref X0), (0, .ref b)] []) {t : Nat × Nat} {ad N : Nat → Nat} {S : Int64} {G F : Nat → Nat → Int32} {m : Int64} (I : zLI g X0 Oa M ad N G F) : V g κ 7 k n (t, zW g X0 F ad N S G B0 Oa m) 686 [(4, .int (nI i)), (3, .ref Oa), (2, .ref M), (1, .ref X0), (0, .ref b)] [] := by
  obtain ⟨X, Hh, hXs, hb, hL, hG, hEm, hX, hO, gO⟩ := Cx
  obtain ⟨hK, hd, h43, hIr, hR, rfl⟩ := I
  refine V_aload_n X dL_law_686 3 rfl ?_
  refine V_aload_n X dL_law_687 4 rfl ?_
  refine V_iload X dL_law_688 0 rfl ?_
  refine V_iconst (v := nI 1) X dL_law_690 (by decide) ?_
  refine V_iaddN X dL_law_691 ?_
  refine V_sld X hXs hb (vp_in_nI (by omega) (by omega)) dL_law_692 (V.topi (fun a1 ea1 => ?_))
  refine V_aload_n X dL_law_693 4 rfl ?_
  refine V_iload X dL_law_694 0 rfl ?_
  refine V_iconst (v := nI 2) X dL_law_696 (by decide) ?_
  refine V_iaddN X dL_law_697 ?_
  refine V_sld X hXs hb (vp_in_nI (by omega) (by omega)) dL_law_698 (V.topi (fun a2 ea2 => ?_))
  refine V_aload_n X dL_law_699 1 rfl ?_
  refine V.so (σ' := (t, cW g X0 F (zup (rO g ad N S G B0) Oa (.inr (10, [.long m]))))) (congrArg (Prod.mk _) (zW_c hK (fun k hk => (hd k hk).2))) ?_
  refine V_callSX (rest := []) X Hh mw_L_ofPlayer st_L_ofPlayer (by decide) (by decide) (k_L_ofPlayer hX hG hO gO hR.1 a1 a2 (hR.bd hIr) hR.2.2.2.1) rfl rfl (Nat.le_of_ble_eq_true rfl) ⟨by omega, by omega⟩ dL_law_700 (fun v9 σ' hp9 => ?_)
  obtain ⟨x3, rfl, t4, F5, m6, rfl, hc7⟩ := hp9
  show V g κ 7 (k + 1) (n + 6) (t4, cW g X0 F5 (zup (rO g ad N S G B0) Oa (.inr (10, [.long m6])))) 703 [(4, .int (nI i)), (3, .ref Oa), (2, .ref (ad 0)), (1, .ref X0), (0, .ref b)] [.int x3]
  refine V_istore X [(5, .int x3), (4, .int (nI i)), (3, .ref Oa), (2, .ref (ad 0)), (1, .ref X0), (0, .ref b)] dL_law_703 (by decide) rfl ?_
  refine V_aload_n X dL_law_705 3 rfl ?_
  refine V_aload_n X dL_law_706 5 rfl ?_
  refine V_iload X dL_law_707 1 rfl ?_
  refine V_iconst (v := nI 1) X dL_law_709 (by decide) ?_
  refine V_iaddN X dL_law_710 ?_
  refine V_sld X hXs hb (vp_in_nI (by omega) (by omega)) dL_law_711 (V.topi (fun a8 ea8 => ?_))
  rw [ea8.trans ea1.symm]
  refine V_aload_n X dL_law_712 5 rfl ?_
  refine V_iload X dL_law_713 1 rfl ?_
  refine V_iconst (v := nI 2) X dL_law_715 (by decide) ?_
  refine V_iaddN X dL_law_716 ?_
  refine V_sld X hXs hb (vp_in_nI (by omega) (by omega)) dL_law_717 (V.topi (fun a9 ea9 => ?_))
  rw [ea9.trans ea2.symm]
  refine V.fr (fun hfr => ?_)
  have hf : X0 + 61 ≤ t4.1 ∧ Oa < t4.1 := zW_fr hO hfr
  obtain ⟨hf1, hf2⟩ := hf
  refine V.so (σ' := (t4, rO g ad N S G (cW g X0 F5 (zup B0 Oa (.inr (10, [.long m6])))))) (congrArg (Prod.mk _) ((zW_c hK (fun k hk => (hd k hk).2)).symm.trans (zW_r hK hd))) ?_
  obtain ⟨b9, g9, hb9⟩ := rBs_ex (N := N) (G := G)
  refine V_callV (rest := []) X Hh ml_L_139 in_X12_ofPlayer (ci := 16) rfl se_X12_ofPlayer (R_recv hK (q := 0) (rlv (by omega)) rfl) (by decide) (by decide) (k_X12_ofPlayer hK hIr a1 a2 hR.2.2.2.2 b9 g9 hb9) rfl rfl (Nat.le_of_ble_eq_true rfl) ⟨by omega, by omega⟩ dL_law_718 (fun _ _ h => False.elim h) (fun v8 σ' hp8 => ?_)
  obtain ⟨x10, rfl, t11, G12, rfl, hI14, hM13⟩ := hp8
  obtain ⟨hR15, hx16, hv17⟩ := ab_ofPlayer hR hIr hc7 hM13
  refine V.so (σ' := (t11, zW g X0 F5 ad N S G12 B0 Oa m6)) (congrArg (Prod.mk _) (zW_r hK hd).symm) ?_
  show V g κ 7 (k + 1) (n + 6) (t11, zW g X0 F5 ad N S G12 B0 Oa m6) 721 [(5, .int x3), (4, .int (nI i)), (3, .ref Oa), (2, .ref (ad 0)), (1, .ref X0), (0, .ref b)] [.int x10]
  refine V_istore X [(6, .int x10), (5, .int x3), (4, .int (nI i)), (3, .ref Oa), (2, .ref (ad 0)), (1, .ref X0), (0, .ref b)] dL_law_721 (by decide) rfl ?_
  refine V_goto (tgt := 1049) X dL_law_723 (by decide) ?_
  exact V.sub [2, 3, 4, 5, 6] rfl (V.widen (by omega) (by omega) (done t11 ad N S G12 F5 m6 ⟨hK, hd, h43, hI14, hR15, rfl⟩))
set_option maxRecDepth 100000 in
set_option maxHeartbeats 4000000 in
theorem lc_13 {g : zG} {κ : zC} {X0 Oa b L : Nat} {xs : Nat → Int32} (Cx : zCx g κ X0 Oa b L xs) {M : Nat} {B0 : Nat → Option va_E} {k n i : Nat} (hi : i + 4 ≤ L) (hk : k + 410 ≤ 823735) (hn : n + 2050 ≤ 6624900) (done : ∀ (t : Nat × Nat) (ad N : Nat → Nat) (S : Int64) (G F : Nat → Nat → Int32) (m : Int64), zLI g X0 Oa M ad N G F → V g κ 7 (k + 410) (n + 2050) (t, zW g X0 F ad N S G B0 Oa m) 1049 [(4, .int (nI i)), (3, .ref Oa), (2, .ref M), (1, .ref X0), (0, .ref b)] []) {t : Nat × Nat} {ad N : Nat → Nat} {S : Int64} {G F : Nat → Nat → Int32} {m : Int64} (I : zLI g X0 Oa M ad N G F) : V g κ 7 k n (t, zW g X0 F ad N S G B0 Oa m) 726 [(4, .int (nI i)), (3, .ref Oa), (2, .ref M), (1, .ref X0), (0, .ref b)] [] := by
  obtain ⟨X, Hh, hXs, hb, hL, hG, hEm, hX, hO, gO⟩ := Cx
  obtain ⟨hK, hd, h43, hIr, hR, rfl⟩ := I
  refine V_aload_n X dL_law_726 3 rfl ?_
  refine V_aload_n X dL_law_727 4 rfl ?_
  refine V_iload X dL_law_728 0 rfl ?_
  refine V_iconst (v := nI 1) X dL_law_730 (by decide) ?_
  refine V_iaddN X dL_law_731 ?_
  refine V_sld X hXs hb (vp_in_nI (by omega) (by omega)) dL_law_732 (V.topi (fun a1 ea1 => ?_))
  refine V_aload_n X dL_law_733 4 rfl ?_
  refine V_iload X dL_law_734 0 rfl ?_
  refine V_iconst (v := nI 2) X dL_law_736 (by decide) ?_
  refine V_iaddN X dL_law_737 ?_
  refine V_sld X hXs hb (vp_in_nI (by omega) (by omega)) dL_law_738 (V.topi (fun a2 ea2 => ?_))
  refine V_aload_n X dL_law_739 1 rfl ?_
  refine V.so (σ' := (t, cW g X0 F (zup (rO g ad N S G B0) Oa (.inr (10, [.long m]))))) (congrArg (Prod.mk _) (zW_c hK (fun k hk => (hd k hk).2))) ?_
  refine V_callSX (rest := []) X Hh mw_L_ofScene st_L_ofScene (by decide) (by decide) (k_L_ofScene hX hG hO gO hR.1 a1 a2 (hR.bd hIr) hR.2.2.2.1) rfl rfl (Nat.le_of_ble_eq_true rfl) ⟨by omega, by omega⟩ dL_law_740 (fun v9 σ' hp9 => ?_)
  obtain ⟨x3, rfl, t4, F5, m6, rfl, hc7⟩ := hp9
  show V g κ 7 (k + 1) (n + 6) (t4, cW g X0 F5 (zup (rO g ad N S G B0) Oa (.inr (10, [.long m6])))) 743 [(4, .int (nI i)), (3, .ref Oa), (2, .ref (ad 0)), (1, .ref X0), (0, .ref b)] [.int x3]
  refine V_istore X [(5, .int x3), (4, .int (nI i)), (3, .ref Oa), (2, .ref (ad 0)), (1, .ref X0), (0, .ref b)] dL_law_743 (by decide) rfl ?_
  refine V_aload_n X dL_law_745 3 rfl ?_
  refine V_aload_n X dL_law_746 5 rfl ?_
  refine V_iload X dL_law_747 1 rfl ?_
  refine V_iconst (v := nI 1) X dL_law_749 (by decide) ?_
  refine V_iaddN X dL_law_750 ?_
  refine V_sld X hXs hb (vp_in_nI (by omega) (by omega)) dL_law_751 (V.topi (fun a8 ea8 => ?_))
  rw [ea8.trans ea1.symm]
  refine V_aload_n X dL_law_752 5 rfl ?_
  refine V_iload X dL_law_753 1 rfl ?_
  refine V_iconst (v := nI 2) X dL_law_755 (by decide) ?_
  refine V_iaddN X dL_law_756 ?_
  refine V_sld X hXs hb (vp_in_nI (by omega) (by omega)) dL_law_757 (V.topi (fun a9 ea9 => ?_))
  rw [ea9.trans ea2.symm]
  refine V.fr (fun hfr => ?_)
  have hf : X0 + 61 ≤ t4.1 ∧ Oa < t4.1 := zW_fr hO hfr
  obtain ⟨hf1, hf2⟩ := hf
  refine V.so (σ' := (t4, rO g ad N S G (cW g X0 F5 (zup B0 Oa (.inr (10, [.long m6])))))) (congrArg (Prod.mk _) ((zW_c hK (fun k hk => (hd k hk).2)).symm.trans (zW_r hK hd))) ?_
  refine V_callV (rest := []) X Hh ml_L_142 in_X12_ofScene (ci := 16) rfl se_X12_ofScene (R_recv hK (q := 0) (rlv (by omega)) rfl) (by decide) (by decide) (k_X12_ofScene hK hIr a1 a2) rfl rfl (Nat.le_of_ble_eq_true rfl) ⟨by omega, by omega⟩ dL_law_758 (fun _ _ h => False.elim h) (fun v8 σ' hp8 => ?_)
  obtain ⟨⟨x10, rfl⟩, t11, G12, rfl, hM13, hI14⟩ := hp8
  refine V.so (σ' := (t11, zW g X0 F5 ad N S G12 B0 Oa m6)) (congrArg (Prod.mk _) (zW_r hK hd).symm) ?_
  show V g κ 7 (k + 9) (n + 46) (t11, zW g X0 F5 ad N S G12 B0 Oa m6) 761 [(5, .int x3), (4, .int (nI i)), (3, .ref Oa), (2, .ref (ad 0)), (1, .ref X0), (0, .ref b)] [.int x10]
  refine V_istore X [(6, .int x10), (5, .int x3), (4, .int (nI i)), (3, .ref Oa), (2, .ref (ad 0)), (1, .ref X0), (0, .ref b)] dL_law_761 (by decide) rfl ?_
  refine V_goto (tgt := 1049) X dL_law_763 (by decide) ?_
  exact V.sub [2, 3, 4, 5, 6] rfl (V.widen (by omega) (by omega) (done t11 ad N S G12 F5 m6 ⟨hK, hd, h43, hI14, (hR.mv hc7 hM13), rfl⟩))
set_option maxRecDepth 100000 in
set_option maxHeartbeats 4000000 in
theorem lc_14 {g : zG} {κ : zC} {X0 Oa b L : Nat} {xs : Nat → Int32} (Cx : zCx g κ X0 Oa b L xs) {M : Nat} {B0 : Nat → Option va_E} {k n i : Nat} (hi : i + 4 ≤ L) (hk : k + 410 ≤ 823735) (hn : n + 2050 ≤ 6624900) (done : ∀ (t : Nat × Nat) (ad N : Nat → Nat) (S : Int64) (G F : Nat → Nat → Int32) (m : Int64), zLI g X0 Oa M ad N G F → V g κ 7 (k + 410) (n + 2050) (t, zW g X0 F ad N S G B0 Oa m) 1049 [(4, .int (nI i)), (3, .ref Oa), (2, .ref M), (1, .ref X0), (0, .ref b)] []) {t : Nat × Nat} {ad N : Nat → Nat} {S : Int64} {G F : Nat → Nat → Int32} {m : Int64} (I : zLI g X0 Oa M ad N G F) : V g κ 7 k n (t, zW g X0 F ad N S G B0 Oa m) 766 [(4, .int (nI i)), (3, .ref Oa), (2, .ref M), (1, .ref X0), (0, .ref b)] [] := by
  obtain ⟨X, Hh, hXs, hb, hL, hG, hEm, hX, hO, gO⟩ := Cx
  obtain ⟨hK, hd, h43, hIr, hR, rfl⟩ := I
  refine V_aload_n X dL_law_766 3 rfl ?_
  refine V_aload_n X dL_law_767 4 rfl ?_
  refine V_iload X dL_law_768 0 rfl ?_
  refine V_iconst (v := nI 1) X dL_law_770 (by decide) ?_
  refine V_iaddN X dL_law_771 ?_
  refine V_sld X hXs hb (vp_in_nI (by omega) (by omega)) dL_law_772 (V.topi (fun a1 ea1 => ?_))
  refine V_aload_n X dL_law_773 4 rfl ?_
  refine V_iload X dL_law_774 0 rfl ?_
  refine V_iconst (v := nI 2) X dL_law_776 (by decide) ?_
  refine V_iaddN X dL_law_777 ?_
  refine V_sld X hXs hb (vp_in_nI (by omega) (by omega)) dL_law_778 (V.topi (fun a2 ea2 => ?_))
  refine V_aload_n X dL_law_779 1 rfl ?_
  refine V.so (σ' := (t, cW g X0 F (zup (rO g ad N S G B0) Oa (.inr (10, [.long m]))))) (congrArg (Prod.mk _) (zW_c hK (fun k hk => (hd k hk).2))) ?_
  refine V_callSX (rest := []) X Hh mw_L_ofCoat st_L_ofCoat (by decide) (by decide) (k_L_ofCoat hX hG hO gO hR.1 a1 a2 (hR.bd hIr) hR.2.2.2.1) rfl rfl (Nat.le_of_ble_eq_true rfl) ⟨by omega, by omega⟩ dL_law_780 (fun v9 σ' hp9 => ?_)
  obtain ⟨x3, rfl, t4, F5, m6, rfl, hc7⟩ := hp9
  show V g κ 7 (k + 1) (n + 6) (t4, cW g X0 F5 (zup (rO g ad N S G B0) Oa (.inr (10, [.long m6])))) 783 [(4, .int (nI i)), (3, .ref Oa), (2, .ref (ad 0)), (1, .ref X0), (0, .ref b)] [.int x3]
  refine V_istore X [(5, .int x3), (4, .int (nI i)), (3, .ref Oa), (2, .ref (ad 0)), (1, .ref X0), (0, .ref b)] dL_law_783 (by decide) rfl ?_
  refine V_aload_n X dL_law_785 3 rfl ?_
  refine V_aload_n X dL_law_786 5 rfl ?_
  refine V_iload X dL_law_787 1 rfl ?_
  refine V_iconst (v := nI 1) X dL_law_789 (by decide) ?_
  refine V_iaddN X dL_law_790 ?_
  refine V_sld X hXs hb (vp_in_nI (by omega) (by omega)) dL_law_791 (V.topi (fun a8 ea8 => ?_))
  rw [ea8.trans ea1.symm]
  refine V_aload_n X dL_law_792 5 rfl ?_
  refine V_iload X dL_law_793 1 rfl ?_
  refine V_iconst (v := nI 2) X dL_law_795 (by decide) ?_
  refine V_iaddN X dL_law_796 ?_
  refine V_sld X hXs hb (vp_in_nI (by omega) (by omega)) dL_law_797 (V.topi (fun a9 ea9 => ?_))
  rw [ea9.trans ea2.symm]
  refine V.fr (fun hfr => ?_)
  have hf : X0 + 61 ≤ t4.1 ∧ Oa < t4.1 := zW_fr hO hfr
  obtain ⟨hf1, hf2⟩ := hf
  refine V.so (σ' := (t4, rO g ad N S G (cW g X0 F5 (zup B0 Oa (.inr (10, [.long m6])))))) (congrArg (Prod.mk _) ((zW_c hK (fun k hk => (hd k hk).2)).symm.trans (zW_r hK hd))) ?_
  obtain ⟨b9, g9, hb9⟩ := rBs_ex (N := N) (G := G)
  refine V_callV (rest := []) X Hh ml_L_145 in_X12_ofCoat (ci := 16) rfl se_X12_ofCoat (R_recv hK (q := 0) (rlv (by omega)) rfl) (by decide) (by decide) (k_X12_ofCoat hK hIr a1 a2 hR.2.2.2.2 b9 g9 hb9) rfl rfl (Nat.le_of_ble_eq_true rfl) ⟨by omega, by omega⟩ dL_law_798 (fun _ _ h => False.elim h) (fun v8 σ' hp8 => ?_)
  obtain ⟨x10, rfl, t11, G12, rfl, hI14, hM13⟩ := hp8
  obtain ⟨hR15, hx16, hv17⟩ := ab_ofCoat hR hIr hc7 hM13
  refine V.so (σ' := (t11, zW g X0 F5 ad N S G12 B0 Oa m6)) (congrArg (Prod.mk _) (zW_r hK hd).symm) ?_
  show V g κ 7 (k + 1) (n + 6) (t11, zW g X0 F5 ad N S G12 B0 Oa m6) 801 [(5, .int x3), (4, .int (nI i)), (3, .ref Oa), (2, .ref (ad 0)), (1, .ref X0), (0, .ref b)] [.int x10]
  refine V_istore X [(6, .int x10), (5, .int x3), (4, .int (nI i)), (3, .ref Oa), (2, .ref (ad 0)), (1, .ref X0), (0, .ref b)] dL_law_801 (by decide) rfl ?_
  refine V_goto (tgt := 1049) X dL_law_803 (by decide) ?_
  exact V.sub [2, 3, 4, 5, 6] rfl (V.widen (by omega) (by omega) (done t11 ad N S G12 F5 m6 ⟨hK, hd, h43, hI14, hR15, rfl⟩))
set_option maxRecDepth 100000 in
set_option maxHeartbeats 4000000 in
theorem lc_15 {g : zG} {κ : zC} {X0 Oa b L : Nat} {xs : Nat → Int32} (Cx : zCx g κ X0 Oa b L xs) {M : Nat} {B0 : Nat → Option va_E} {k n i : Nat} (hi : i + 4 ≤ L) (hk : k + 410 ≤ 823735) (hn : n + 2050 ≤ 6624900) (done : ∀ (t : Nat × Nat) (ad N : Nat → Nat) (S : Int64) (G F : Nat → Nat → Int32) (m : Int64), zLI g X0 Oa M ad N G F → V g κ 7 (k + 410) (n + 2050) (t, zW g X0 F ad N S G B0 Oa m) 1049 [(4, .int (nI i)), (3, .ref Oa), (2, .ref M), (1, .ref X0), (0, .ref b)] []) {t : Nat × Nat} {ad N : Nat → Nat} {S : Int64} {G F : Nat → Nat → Int32} {m : Int64} (I : zLI g X0 Oa M ad N G F) : V g κ 7 k n (t, zW g X0 F ad N S G B0 Oa m) 806 [(4, .int (nI i)), (3, .ref Oa), (2, .ref M), (1, .ref X0), (0, .ref b)] [] := by
  obtain ⟨X, Hh, hXs, hb, hL, hG, hEm, hX, hO, gO⟩ := Cx
  obtain ⟨hK, hd, h43, hIr, hR, rfl⟩ := I
  refine V_aload_n X dL_law_806 3 rfl ?_
  refine V_aload_n X dL_law_807 4 rfl ?_
  refine V_iload X dL_law_808 0 rfl ?_
  refine V_iconst (v := nI 1) X dL_law_810 (by decide) ?_
  refine V_iaddN X dL_law_811 ?_
  refine V_sld X hXs hb (vp_in_nI (by omega) (by omega)) dL_law_812 (V.topi (fun a1 ea1 => ?_))
  refine V_aload_n X dL_law_813 4 rfl ?_
  refine V_iload X dL_law_814 0 rfl ?_
  refine V_iconst (v := nI 2) X dL_law_816 (by decide) ?_
  refine V_iaddN X dL_law_817 ?_
  refine V_sld X hXs hb (vp_in_nI (by omega) (by omega)) dL_law_818 (V.topi (fun a2 ea2 => ?_))
  refine V_aload_n X dL_law_819 1 rfl ?_
  refine V.so (σ' := (t, cW g X0 F (zup (rO g ad N S G B0) Oa (.inr (10, [.long m]))))) (congrArg (Prod.mk _) (zW_c hK (fun k hk => (hd k hk).2))) ?_
  refine V_callSX (rest := []) X Hh mw_L_ofTown st_L_ofTown (by decide) (by decide) (k_L_ofTown hX hG hO gO hR.1 a1 a2 (hR.bd hIr) hR.2.2.2.1) rfl rfl (Nat.le_of_ble_eq_true rfl) ⟨by omega, by omega⟩ dL_law_820 (fun v9 σ' hp9 => ?_)
  obtain ⟨x3, rfl, t4, F5, m6, rfl, hc7⟩ := hp9
  show V g κ 7 (k + 1) (n + 6) (t4, cW g X0 F5 (zup (rO g ad N S G B0) Oa (.inr (10, [.long m6])))) 823 [(4, .int (nI i)), (3, .ref Oa), (2, .ref (ad 0)), (1, .ref X0), (0, .ref b)] [.int x3]
  refine V_istore X [(5, .int x3), (4, .int (nI i)), (3, .ref Oa), (2, .ref (ad 0)), (1, .ref X0), (0, .ref b)] dL_law_823 (by decide) rfl ?_
  refine V_aload_n X dL_law_825 3 rfl ?_
  refine V_aload_n X dL_law_826 5 rfl ?_
  refine V_iload X dL_law_827 1 rfl ?_
  refine V_iconst (v := nI 1) X dL_law_829 (by decide) ?_
  refine V_iaddN X dL_law_830 ?_
  refine V_sld X hXs hb (vp_in_nI (by omega) (by omega)) dL_law_831 (V.topi (fun a8 ea8 => ?_))
  rw [ea8.trans ea1.symm]
  refine V_aload_n X dL_law_832 5 rfl ?_
  refine V_iload X dL_law_833 1 rfl ?_
  refine V_iconst (v := nI 2) X dL_law_835 (by decide) ?_
  refine V_iaddN X dL_law_836 ?_
  refine V_sld X hXs hb (vp_in_nI (by omega) (by omega)) dL_law_837 (V.topi (fun a9 ea9 => ?_))
  rw [ea9.trans ea2.symm]
  refine V.fr (fun hfr => ?_)
  have hf : X0 + 61 ≤ t4.1 ∧ Oa < t4.1 := zW_fr hO hfr
  obtain ⟨hf1, hf2⟩ := hf
  refine V.so (σ' := (t4, rO g ad N S G (cW g X0 F5 (zup B0 Oa (.inr (10, [.long m6])))))) (congrArg (Prod.mk _) ((zW_c hK (fun k hk => (hd k hk).2)).symm.trans (zW_r hK hd))) ?_
  obtain ⟨b9, g9, hb9⟩ := rBs_ex (N := N) (G := G)
  refine V_callV (rest := []) X Hh ml_L_148 in_X12_ofTown (ci := 16) rfl se_X12_ofTown (R_recv hK (q := 0) (rlv (by omega)) rfl) (by decide) (by decide) (k_X12_ofTown hK hIr a1 a2 hR.2.2.2.2 b9 g9 hb9) rfl rfl (Nat.le_of_ble_eq_true rfl) ⟨by omega, by omega⟩ dL_law_838 (fun _ _ h => False.elim h) (fun v8 σ' hp8 => ?_)
  obtain ⟨x10, rfl, t11, G12, rfl, hI14, hM13⟩ := hp8
  obtain ⟨hR15, hx16, hv17⟩ := ab_ofTown hR hIr hc7 hM13
  refine V.so (σ' := (t11, zW g X0 F5 ad N S G12 B0 Oa m6)) (congrArg (Prod.mk _) (zW_r hK hd).symm) ?_
  show V g κ 7 (k + 1) (n + 6) (t11, zW g X0 F5 ad N S G12 B0 Oa m6) 841 [(5, .int x3), (4, .int (nI i)), (3, .ref Oa), (2, .ref (ad 0)), (1, .ref X0), (0, .ref b)] [.int x10]
  refine V_istore X [(6, .int x10), (5, .int x3), (4, .int (nI i)), (3, .ref Oa), (2, .ref (ad 0)), (1, .ref X0), (0, .ref b)] dL_law_841 (by decide) rfl ?_
  refine V_goto (tgt := 1049) X dL_law_843 (by decide) ?_
  exact V.sub [2, 3, 4, 5, 6] rfl (V.widen (by omega) (by omega) (done t11 ad N S G12 F5 m6 ⟨hK, hd, h43, hI14, hR15, rfl⟩))
set_option maxRecDepth 100000 in
set_option maxHeartbeats 4000000 in
theorem lc_16 {g : zG} {κ : zC} {X0 Oa b L : Nat} {xs : Nat → Int32} (Cx : zCx g κ X0 Oa b L xs) {M : Nat} {B0 : Nat → Option va_E} {k n i : Nat} (hi : i + 4 ≤ L) (hk : k + 410 ≤ 823735) (hn : n + 2050 ≤ 6624900) (done : ∀ (t : Nat × Nat) (ad N : Nat → Nat) (S : Int64) (G F : Nat → Nat → Int32) (m : Int64), zLI g X0 Oa M ad N G F → V g κ 7 (k + 410) (n + 2050) (t, zW g X0 F ad N S G B0 Oa m) 1049 [(4, .int (nI i)), (3, .ref Oa), (2, .ref M), (1, .ref X0), (0, .ref b)] []) {t : Nat × Nat} {ad N : Nat → Nat} {S : Int64} {G F : Nat → Nat → Int32} {m : Int64} (I : zLI g X0 Oa M ad N G F) : V g κ 7 k n (t, zW g X0 F ad N S G B0 Oa m) 846 [(4, .int (nI i)), (3, .ref Oa), (2, .ref M), (1, .ref X0), (0, .ref b)] [] := by
  obtain ⟨X, Hh, hXs, hb, hL, hG, hEm, hX, hO, gO⟩ := Cx
  obtain ⟨hK, hd, h43, hIr, hR, rfl⟩ := I
  refine V_aload_n X dL_law_846 3 rfl ?_
  refine V_aload_n X dL_law_847 4 rfl ?_
  refine V_iload X dL_law_848 0 rfl ?_
  refine V_iconst (v := nI 1) X dL_law_850 (by decide) ?_
  refine V_iaddN X dL_law_851 ?_
  refine V_sld X hXs hb (vp_in_nI (by omega) (by omega)) dL_law_852 (V.topi (fun a1 ea1 => ?_))
  refine V_aload_n X dL_law_853 1 rfl ?_
  refine V.so (σ' := (t, cW g X0 F (zup (rO g ad N S G B0) Oa (.inr (10, [.long m]))))) (congrArg (Prod.mk _) (zW_c hK (fun k hk => (hd k hk).2))) ?_
  refine V_callSX (rest := []) X Hh mw_L_house st_L_house (by decide) (by decide) (k_L_house hX hG hO gO hR.1 a1 (hR.bd hIr) hR.2.2.2.1) rfl rfl (Nat.le_of_ble_eq_true rfl) ⟨by omega, by omega⟩ dL_law_854 (fun v9 σ' hp9 => ?_)
  obtain ⟨x2, rfl, t3, F4, m5, rfl, hc6⟩ := hp9
  show V g κ 7 (k + 1) (n + 6) (t3, cW g X0 F4 (zup (rO g ad N S G B0) Oa (.inr (10, [.long m5])))) 857 [(4, .int (nI i)), (3, .ref Oa), (2, .ref (ad 0)), (1, .ref X0), (0, .ref b)] [.int x2]
  refine V_istore X [(5, .int x2), (4, .int (nI i)), (3, .ref Oa), (2, .ref (ad 0)), (1, .ref X0), (0, .ref b)] dL_law_857 (by decide) rfl ?_
  refine V_aload_n X dL_law_859 3 rfl ?_
  refine V_aload_n X dL_law_860 5 rfl ?_
  refine V_iload X dL_law_861 1 rfl ?_
  refine V_iconst (v := nI 1) X dL_law_863 (by decide) ?_
  refine V_iaddN X dL_law_864 ?_
  refine V_sld X hXs hb (vp_in_nI (by omega) (by omega)) dL_law_865 (V.topi (fun a7 ea7 => ?_))
  rw [ea7.trans ea1.symm]
  refine V.fr (fun hfr => ?_)
  have hf : X0 + 61 ≤ t3.1 ∧ Oa < t3.1 := zW_fr hO hfr
  obtain ⟨hf1, hf2⟩ := hf
  refine V.so (σ' := (t3, rO g ad N S G (cW g X0 F4 (zup B0 Oa (.inr (10, [.long m5])))))) (congrArg (Prod.mk _) ((zW_c hK (fun k hk => (hd k hk).2)).symm.trans (zW_r hK hd))) ?_
  refine V_callV (rest := []) X Hh ml_L_151 in_X12_house (ci := 16) rfl se_X12_house (R_recv hK (q := 0) (rlv (by omega)) rfl) (by decide) (by decide) (k_X12_house hK hIr a1) rfl rfl (Nat.le_of_ble_eq_true rfl) ⟨by omega, by omega⟩ dL_law_866 (fun _ _ h => False.elim h) (fun v8 σ' hp8 => ?_)
  obtain ⟨⟨x8, rfl⟩, t9, G10, rfl, hM11, hI12⟩ := hp8
  refine V.so (σ' := (t9, zW g X0 F4 ad N S G10 B0 Oa m5)) (congrArg (Prod.mk _) (zW_r hK hd).symm) ?_
  show V g κ 7 (k + 2) (n + 10) (t9, zW g X0 F4 ad N S G10 B0 Oa m5) 869 [(5, .int x2), (4, .int (nI i)), (3, .ref Oa), (2, .ref (ad 0)), (1, .ref X0), (0, .ref b)] [.int x8]
  refine V_istore X [(6, .int x8), (5, .int x2), (4, .int (nI i)), (3, .ref Oa), (2, .ref (ad 0)), (1, .ref X0), (0, .ref b)] dL_law_869 (by decide) rfl ?_
  refine V_goto (tgt := 1049) X dL_law_871 (by decide) ?_
  exact V.sub [2, 3, 4, 5, 6] rfl (V.widen (by omega) (by omega) (done t9 ad N S G10 F4 m5 ⟨hK, hd, h43, hI12, (hR.mv hc6 hM11), rfl⟩))
set_option maxRecDepth 100000 in
set_option maxHeartbeats 4000000 in
theorem lc_17 {g : zG} {κ : zC} {X0 Oa b L : Nat} {xs : Nat → Int32} (Cx : zCx g κ X0 Oa b L xs) {M : Nat} {B0 : Nat → Option va_E} {k n i : Nat} (hi : i + 4 ≤ L) (hk : k + 410 ≤ 823735) (hn : n + 2050 ≤ 6624900) (done : ∀ (t : Nat × Nat) (ad N : Nat → Nat) (S : Int64) (G F : Nat → Nat → Int32) (m : Int64), zLI g X0 Oa M ad N G F → V g κ 7 (k + 410) (n + 2050) (t, zW g X0 F ad N S G B0 Oa m) 1049 [(4, .int (nI i)), (3, .ref Oa), (2, .ref M), (1, .ref X0), (0, .ref b)] []) {t : Nat × Nat} {ad N : Nat → Nat} {S : Int64} {G F : Nat → Nat → Int32} {m : Int64} (I : zLI g X0 Oa M ad N G F) : V g κ 7 k n (t, zW g X0 F ad N S G B0 Oa m) 874 [(4, .int (nI i)), (3, .ref Oa), (2, .ref M), (1, .ref X0), (0, .ref b)] [] := by
  obtain ⟨X, Hh, hXs, hb, hL, hG, hEm, hX, hO, gO⟩ := Cx
  obtain ⟨hK, hd, h43, hIr, hR, rfl⟩ := I
  refine V_aload_n X dL_law_874 3 rfl ?_
  refine V_callV (rest := []) X Hh ml_L_152 in_X5_cast (ci := 9) rfl se_X5_cast (C_recv (q := 0) (by decide) rfl) (by decide) (by decide) (k_X5_cast hX hR.1 (hR.bd hIr) hR.2.2.2.1) rfl rfl (Nat.le_of_ble_eq_true rfl) ⟨by omega, by omega⟩ dL_law_875 (fun _ _ h => False.elim h) (fun v9 σ' hp9 => ?_)
  obtain ⟨t2, F3, hm4, hp9⟩ := hp9
  rcases hp9 with ⟨rfl, rfl⟩ | ⟨Sx, nx, fw, hnx, rfl, rfl, fS, fW⟩
  · show V g κ 7 (k + 4) (n + 31) (t2, zW g X0 F3 ad N S G B0 Oa m) 878 [(4, .int (nI i)), (3, .ref Oa), (2, .ref (ad 0)), (1, .ref X0), (0, .ref b)] [.ref (g.2.2.2 6)]
    refine V_pop X dL_law_878 rfl ?_
    refine V_aload_n X dL_law_879 2 rfl ?_
    refine V.so (σ' := (t2, rO g ad N S G (cW g X0 F3 (zup B0 Oa (.inr (10, [.long m])))))) (congrArg (Prod.mk _) (zW_r hK hd)) ?_
    refine V_callV (rest := []) X Hh ml_L_156 in_X12_cast (ci := 16) rfl se_X12_cast (R_recv hK (q := 0) (rlv (by omega)) rfl) (by decide) (by decide) (k_X12_cast hK hIr) rfl rfl (Nat.le_of_ble_eq_true rfl) ⟨by omega, by omega⟩ dL_law_880 (fun _ _ h => False.elim h) (fun v8 σ' hp8 => ?_)
    obtain ⟨t6, G7, hM8, hI9, hp8⟩ := hp8
    rcases hp8 with ⟨rfl, rfl⟩ | ⟨Sx, nx, fw, hnx, rfl, rfl, fS, fW⟩
    · show V g κ 7 (k + 8) (n + 62) (t6, rO g ad N S G7 (cW g X0 F3 (zup B0 Oa (.inr (10, [.long m]))))) 883 [(4, .int (nI i)), (3, .ref Oa), (2, .ref (ad 0)), (1, .ref X0), (0, .ref b)] [.ref (g.2.2.2 7)]
      refine V.so (σ' := (t6, zW g X0 F3 ad N S G7 B0 Oa m)) (congrArg (Prod.mk _) (zW_r hK hd).symm) ?_
      refine V_pop X dL_law_883 rfl ?_
      refine V_goto (tgt := 1049) X dL_law_884 (by decide) ?_
      exact V.sub [0, 1, 2, 3, 4] rfl (V.widen (by omega) (by omega) (done t6 ad N S G7 F3 m ⟨hK, hd, h43, hI9, (hR.mv hm4 hM8), rfl⟩))
    · refine V.weak (f' := rO g ad N S G7 (cW g X0 F3 (zup B0 Oa (.inr (10, [.long m]))))) (rO_sub (zSx_sub fS.2 fW.2)) ?_
      show V g κ 7 (k + 8) (n + 62) (t6, rO g ad N S G7 (cW g X0 F3 (zup B0 Oa (.inr (10, [.long m]))))) 883 [(4, .int (nI i)), (3, .ref Oa), (2, .ref (ad 0)), (1, .ref X0), (0, .ref b)] [.ref Sx]
      refine V.so (σ' := (t6, zW g X0 F3 ad N S G7 B0 Oa m)) (congrArg (Prod.mk _) (zW_r hK hd).symm) ?_
      refine V_pop X dL_law_883 rfl ?_
      refine V_goto (tgt := 1049) X dL_law_884 (by decide) ?_
      exact V.sub [0, 1, 2, 3, 4] rfl (V.widen (by omega) (by omega) (done t6 ad N S G7 F3 m ⟨hK, hd, h43, hI9, (hR.mv hm4 hM8), rfl⟩))
  · refine V.weak (f' := zW g X0 F3 ad N S G B0 Oa m) (cW_sub (zSx_sub fS.2 fW.2)) ?_
    show V g κ 7 (k + 4) (n + 31) (t2, zW g X0 F3 ad N S G B0 Oa m) 878 [(4, .int (nI i)), (3, .ref Oa), (2, .ref (ad 0)), (1, .ref X0), (0, .ref b)] [.ref Sx]
    refine V_pop X dL_law_878 rfl ?_
    refine V_aload_n X dL_law_879 2 rfl ?_
    refine V.so (σ' := (t2, rO g ad N S G (cW g X0 F3 (zup B0 Oa (.inr (10, [.long m])))))) (congrArg (Prod.mk _) (zW_r hK hd)) ?_
    refine V_callV (rest := []) X Hh ml_L_156 in_X12_cast (ci := 16) rfl se_X12_cast (R_recv hK (q := 0) (rlv (by omega)) rfl) (by decide) (by decide) (k_X12_cast hK hIr) rfl rfl (Nat.le_of_ble_eq_true rfl) ⟨by omega, by omega⟩ dL_law_880 (fun _ _ h => False.elim h) (fun v8 σ' hp8 => ?_)
    obtain ⟨t6, G7, hM8, hI9, hp8⟩ := hp8
    rcases hp8 with ⟨rfl, rfl⟩ | ⟨Sx, nx, fw, hnx, rfl, rfl, fS, fW⟩
    · show V g κ 7 (k + 8) (n + 62) (t6, rO g ad N S G7 (cW g X0 F3 (zup B0 Oa (.inr (10, [.long m]))))) 883 [(4, .int (nI i)), (3, .ref Oa), (2, .ref (ad 0)), (1, .ref X0), (0, .ref b)] [.ref (g.2.2.2 7)]
      refine V.so (σ' := (t6, zW g X0 F3 ad N S G7 B0 Oa m)) (congrArg (Prod.mk _) (zW_r hK hd).symm) ?_
      refine V_pop X dL_law_883 rfl ?_
      refine V_goto (tgt := 1049) X dL_law_884 (by decide) ?_
      exact V.sub [0, 1, 2, 3, 4] rfl (V.widen (by omega) (by omega) (done t6 ad N S G7 F3 m ⟨hK, hd, h43, hI9, (hR.mv hm4 hM8), rfl⟩))
    · refine V.weak (f' := rO g ad N S G7 (cW g X0 F3 (zup B0 Oa (.inr (10, [.long m]))))) (rO_sub (zSx_sub fS.2 fW.2)) ?_
      show V g κ 7 (k + 8) (n + 62) (t6, rO g ad N S G7 (cW g X0 F3 (zup B0 Oa (.inr (10, [.long m]))))) 883 [(4, .int (nI i)), (3, .ref Oa), (2, .ref (ad 0)), (1, .ref X0), (0, .ref b)] [.ref Sx]
      refine V.so (σ' := (t6, zW g X0 F3 ad N S G7 B0 Oa m)) (congrArg (Prod.mk _) (zW_r hK hd).symm) ?_
      refine V_pop X dL_law_883 rfl ?_
      refine V_goto (tgt := 1049) X dL_law_884 (by decide) ?_
      exact V.sub [0, 1, 2, 3, 4] rfl (V.widen (by omega) (by omega) (done t6 ad N S G7 F3 m ⟨hK, hd, h43, hI9, (hR.mv hm4 hM8), rfl⟩))
set_option maxRecDepth 100000 in
set_option maxHeartbeats 4000000 in
theorem lc_18 {g : zG} {κ : zC} {X0 Oa b L : Nat} {xs : Nat → Int32} (Cx : zCx g κ X0 Oa b L xs) {M : Nat} {B0 : Nat → Option va_E} {k n i : Nat} (hi : i + 4 ≤ L) (hk : k + 410 ≤ 823735) (hn : n + 2050 ≤ 6624900) (done : ∀ (t : Nat × Nat) (ad N : Nat → Nat) (S : Int64) (G F : Nat → Nat → Int32) (m : Int64), zLI g X0 Oa M ad N G F → V g κ 7 (k + 410) (n + 2050) (t, zW g X0 F ad N S G B0 Oa m) 1049 [(4, .int (nI i)), (3, .ref Oa), (2, .ref M), (1, .ref X0), (0, .ref b)] []) {t : Nat × Nat} {ad N : Nat → Nat} {S : Int64} {G F : Nat → Nat → Int32} {m : Int64} (I : zLI g X0 Oa M ad N G F) : V g κ 7 k n (t, zW g X0 F ad N S G B0 Oa m) 887 [(4, .int (nI i)), (3, .ref Oa), (2, .ref M), (1, .ref X0), (0, .ref b)] [] := by
  obtain ⟨X, Hh, hXs, hb, hL, hG, hEm, hX, hO, gO⟩ := Cx
  obtain ⟨hK, hd, h43, hIr, hR, rfl⟩ := I
  refine V_aload_n X dL_law_887 3 rfl ?_
  refine V_aload_n X dL_law_888 4 rfl ?_
  refine V_iload X dL_law_889 0 rfl ?_
  refine V_iconst (v := nI 1) X dL_law_891 (by decide) ?_
  refine V_iaddN X dL_law_892 ?_
  refine V_sld X hXs hb (vp_in_nI (by omega) (by omega)) dL_law_893 (V.topi (fun a1 ea1 => ?_))
  refine V_aload_n X dL_law_894 4 rfl ?_
  refine V_iload X dL_law_895 0 rfl ?_
  refine V_iconst (v := nI 2) X dL_law_897 (by decide) ?_
  refine V_iaddN X dL_law_898 ?_
  refine V_sld X hXs hb (vp_in_nI (by omega) (by omega)) dL_law_899 (V.topi (fun a2 ea2 => ?_))
  refine V_aload_n X dL_law_900 1 rfl ?_
  refine V.so (σ' := (t, cW g X0 F (zup (rO g ad N S G B0) Oa (.inr (10, [.long m]))))) (congrArg (Prod.mk _) (zW_c hK (fun k hk => (hd k hk).2))) ?_
  refine V_callSX (rest := []) X Hh mw_L_tour st_L_tour (by decide) (by decide) (k_L_tour hX hG hO gO hR.1 a1 a2 (hR.bd hIr) hR.2.2.2.1) rfl rfl (Nat.le_of_ble_eq_true rfl) ⟨by omega, by omega⟩ dL_law_901 (fun v9 σ' hp9 => ?_)
  obtain ⟨x3, rfl, t4, F5, m6, rfl, hc7⟩ := hp9
  show V g κ 7 (k + 1) (n + 6) (t4, cW g X0 F5 (zup (rO g ad N S G B0) Oa (.inr (10, [.long m6])))) 904 [(4, .int (nI i)), (3, .ref Oa), (2, .ref (ad 0)), (1, .ref X0), (0, .ref b)] [.int x3]
  refine V_istore X [(5, .int x3), (4, .int (nI i)), (3, .ref Oa), (2, .ref (ad 0)), (1, .ref X0), (0, .ref b)] dL_law_904 (by decide) rfl ?_
  refine V_aload_n X dL_law_906 3 rfl ?_
  refine V_aload_n X dL_law_907 5 rfl ?_
  refine V_iload X dL_law_908 1 rfl ?_
  refine V_iconst (v := nI 1) X dL_law_910 (by decide) ?_
  refine V_iaddN X dL_law_911 ?_
  refine V_sld X hXs hb (vp_in_nI (by omega) (by omega)) dL_law_912 (V.topi (fun a8 ea8 => ?_))
  rw [ea8.trans ea1.symm]
  refine V_aload_n X dL_law_913 5 rfl ?_
  refine V_iload X dL_law_914 1 rfl ?_
  refine V_iconst (v := nI 2) X dL_law_916 (by decide) ?_
  refine V_iaddN X dL_law_917 ?_
  refine V_sld X hXs hb (vp_in_nI (by omega) (by omega)) dL_law_918 (V.topi (fun a9 ea9 => ?_))
  rw [ea9.trans ea2.symm]
  refine V.fr (fun hfr => ?_)
  have hf : X0 + 61 ≤ t4.1 ∧ Oa < t4.1 := zW_fr hO hfr
  obtain ⟨hf1, hf2⟩ := hf
  refine V.so (σ' := (t4, rO g ad N S G (cW g X0 F5 (zup B0 Oa (.inr (10, [.long m6])))))) (congrArg (Prod.mk _) ((zW_c hK (fun k hk => (hd k hk).2)).symm.trans (zW_r hK hd))) ?_
  refine V_callV (rest := []) X Hh ml_L_159 in_X12_tour (ci := 16) rfl se_X12_tour (R_recv hK (q := 0) (rlv (by omega)) rfl) (by decide) (by decide) (k_X12_tour hK hIr a1 a2) rfl rfl (Nat.le_of_ble_eq_true rfl) ⟨by omega, by omega⟩ dL_law_919 (fun _ _ h => False.elim h) (fun v8 σ' hp8 => ?_)
  obtain ⟨⟨x10, rfl⟩, t11, G12, rfl, hM13, hI14⟩ := hp8
  refine V.so (σ' := (t11, zW g X0 F5 ad N S G12 B0 Oa m6)) (congrArg (Prod.mk _) (zW_r hK hd).symm) ?_
  show V g κ 7 (k + 1) (n + 6) (t11, zW g X0 F5 ad N S G12 B0 Oa m6) 922 [(5, .int x3), (4, .int (nI i)), (3, .ref Oa), (2, .ref (ad 0)), (1, .ref X0), (0, .ref b)] [.int x10]
  refine V_istore X [(6, .int x10), (5, .int x3), (4, .int (nI i)), (3, .ref Oa), (2, .ref (ad 0)), (1, .ref X0), (0, .ref b)] dL_law_922 (by decide) rfl ?_
  refine V_goto (tgt := 1049) X dL_law_924 (by decide) ?_
  exact V.sub [2, 3, 4, 5, 6] rfl (V.widen (by omega) (by omega) (done t11 ad N S G12 F5 m6 ⟨hK, hd, h43, hI14, (hR.mv hc7 hM13), rfl⟩))
set_option maxRecDepth 100000 in
set_option maxHeartbeats 4000000 in
theorem lc_19 {g : zG} {κ : zC} {X0 Oa b L : Nat} {xs : Nat → Int32} (Cx : zCx g κ X0 Oa b L xs) {M : Nat} {B0 : Nat → Option va_E} {k n i : Nat} (hi : i + 4 ≤ L) (hk : k + 410 ≤ 823735) (hn : n + 2050 ≤ 6624900) (done : ∀ (t : Nat × Nat) (ad N : Nat → Nat) (S : Int64) (G F : Nat → Nat → Int32) (m : Int64), zLI g X0 Oa M ad N G F → V g κ 7 (k + 410) (n + 2050) (t, zW g X0 F ad N S G B0 Oa m) 1049 [(4, .int (nI i)), (3, .ref Oa), (2, .ref M), (1, .ref X0), (0, .ref b)] []) {t : Nat × Nat} {ad N : Nat → Nat} {S : Int64} {G F : Nat → Nat → Int32} {m : Int64} (I : zLI g X0 Oa M ad N G F) : V g κ 7 k n (t, zW g X0 F ad N S G B0 Oa m) 927 [(4, .int (nI i)), (3, .ref Oa), (2, .ref M), (1, .ref X0), (0, .ref b)] [] := by
  obtain ⟨X, Hh, hXs, hb, hL, hG, hEm, hX, hO, gO⟩ := Cx
  obtain ⟨hK, hd, h43, hIr, hR, rfl⟩ := I
  refine V_aload_n X dL_law_927 3 rfl ?_
  refine V_aload_n X dL_law_928 4 rfl ?_
  refine V_iload X dL_law_929 0 rfl ?_
  refine V_iconst (v := nI 1) X dL_law_931 (by decide) ?_
  refine V_iaddN X dL_law_932 ?_
  refine V_sld X hXs hb (vp_in_nI (by omega) (by omega)) dL_law_933 (V.topi (fun a1 ea1 => ?_))
  refine V_aload_n X dL_law_934 1 rfl ?_
  refine V.so (σ' := (t, cW g X0 F (zup (rO g ad N S G B0) Oa (.inr (10, [.long m]))))) (congrArg (Prod.mk _) (zW_c hK (fun k hk => (hd k hk).2))) ?_
  refine V_callSX (rest := []) X Hh mw_L_would st_L_would (by decide) (by decide) (k_L_would hX hG hO gO hR.1 a1 (hR.bd hIr) hR.2.2.2.1) rfl rfl (Nat.le_of_ble_eq_true rfl) ⟨by omega, by omega⟩ dL_law_935 (fun v9 σ' hp9 => ?_)
  obtain ⟨x2, rfl, t3, F4, m5, rfl, hc6⟩ := hp9
  show V g κ 7 (k + 1) (n + 6) (t3, cW g X0 F4 (zup (rO g ad N S G B0) Oa (.inr (10, [.long m5])))) 938 [(4, .int (nI i)), (3, .ref Oa), (2, .ref (ad 0)), (1, .ref X0), (0, .ref b)] [.int x2]
  refine V_istore X [(5, .int x2), (4, .int (nI i)), (3, .ref Oa), (2, .ref (ad 0)), (1, .ref X0), (0, .ref b)] dL_law_938 (by decide) rfl ?_
  refine V_aload_n X dL_law_940 3 rfl ?_
  refine V_aload_n X dL_law_941 5 rfl ?_
  refine V_iload X dL_law_942 1 rfl ?_
  refine V_iconst (v := nI 1) X dL_law_944 (by decide) ?_
  refine V_iaddN X dL_law_945 ?_
  refine V_sld X hXs hb (vp_in_nI (by omega) (by omega)) dL_law_946 (V.topi (fun a7 ea7 => ?_))
  rw [ea7.trans ea1.symm]
  refine V.fr (fun hfr => ?_)
  have hf : X0 + 61 ≤ t3.1 ∧ Oa < t3.1 := zW_fr hO hfr
  obtain ⟨hf1, hf2⟩ := hf
  refine V.so (σ' := (t3, rO g ad N S G (cW g X0 F4 (zup B0 Oa (.inr (10, [.long m5])))))) (congrArg (Prod.mk _) ((zW_c hK (fun k hk => (hd k hk).2)).symm.trans (zW_r hK hd))) ?_
  refine V_callV (rest := []) X Hh ml_L_162 in_X12_would (ci := 16) rfl se_X12_would (R_recv hK (q := 0) (rlv (by omega)) rfl) (by decide) (by decide) (k_X12_would hK hIr a1) rfl rfl (Nat.le_of_ble_eq_true rfl) ⟨by omega, by omega⟩ dL_law_947 (fun _ _ h => False.elim h) (fun v8 σ' hp8 => ?_)
  obtain ⟨x8, rfl, t9, G10, rfl, hI12, hM11⟩ := hp8
  obtain ⟨hR13, hx14, hv15⟩ := ab_would hR hIr hc6 hM11
  refine V.so (σ' := (t9, zW g X0 F4 ad N S G10 B0 Oa m5)) (congrArg (Prod.mk _) (zW_r hK hd).symm) ?_
  show V g κ 7 (k + 1) (n + 6) (t9, zW g X0 F4 ad N S G10 B0 Oa m5) 950 [(5, .int x2), (4, .int (nI i)), (3, .ref Oa), (2, .ref (ad 0)), (1, .ref X0), (0, .ref b)] [.int x8]
  refine V_istore X [(6, .int x8), (5, .int x2), (4, .int (nI i)), (3, .ref Oa), (2, .ref (ad 0)), (1, .ref X0), (0, .ref b)] dL_law_950 (by decide) rfl ?_
  refine V_goto (tgt := 1049) X dL_law_952 (by decide) ?_
  exact V.sub [2, 3, 4, 5, 6] rfl (V.widen (by omega) (by omega) (done t9 ad N S G10 F4 m5 ⟨hK, hd, h43, hI12, hR13, rfl⟩))
set_option maxRecDepth 100000 in
set_option maxHeartbeats 4000000 in
theorem lc_20 {g : zG} {κ : zC} {X0 Oa b L : Nat} {xs : Nat → Int32} (Cx : zCx g κ X0 Oa b L xs) {M : Nat} {B0 : Nat → Option va_E} {k n i : Nat} (hi : i + 4 ≤ L) (hk : k + 410 ≤ 823735) (hn : n + 2050 ≤ 6624900) (done : ∀ (t : Nat × Nat) (ad N : Nat → Nat) (S : Int64) (G F : Nat → Nat → Int32) (m : Int64), zLI g X0 Oa M ad N G F → V g κ 7 (k + 410) (n + 2050) (t, zW g X0 F ad N S G B0 Oa m) 1049 [(4, .int (nI i)), (3, .ref Oa), (2, .ref M), (1, .ref X0), (0, .ref b)] []) {t : Nat × Nat} {ad N : Nat → Nat} {S : Int64} {G F : Nat → Nat → Int32} {m : Int64} (I : zLI g X0 Oa M ad N G F) : V g κ 7 k n (t, zW g X0 F ad N S G B0 Oa m) 955 [(4, .int (nI i)), (3, .ref Oa), (2, .ref M), (1, .ref X0), (0, .ref b)] [] := by
  obtain ⟨X, Hh, hXs, hb, hL, hG, hEm, hX, hO, gO⟩ := Cx
  obtain ⟨hK, hd, h43, hIr, hR, rfl⟩ := I
  refine V_aload_n X dL_law_955 3 rfl ?_
  refine V_aload_n X dL_law_956 4 rfl ?_
  refine V_iload X dL_law_957 0 rfl ?_
  refine V_iconst (v := nI 1) X dL_law_959 (by decide) ?_
  refine V_iaddN X dL_law_960 ?_
  refine V_sld X hXs hb (vp_in_nI (by omega) (by omega)) dL_law_961 (V.topi (fun a1 ea1 => ?_))
  refine V_aload_n X dL_law_962 1 rfl ?_
  refine V.so (σ' := (t, cW g X0 F (zup (rO g ad N S G B0) Oa (.inr (10, [.long m]))))) (congrArg (Prod.mk _) (zW_c hK (fun k hk => (hd k hk).2))) ?_
  refine V_callSX (rest := []) X Hh mw_L_without st_L_without (by decide) (by decide) (k_L_without hX hG hO gO hR.1 a1 (hR.bd hIr) hR.2.2.2.1) rfl rfl (Nat.le_of_ble_eq_true rfl) ⟨by omega, by omega⟩ dL_law_963 (fun v9 σ' hp9 => ?_)
  obtain ⟨x2, rfl, t3, F4, m5, rfl, hc6⟩ := hp9
  show V g κ 7 (k + 1) (n + 6) (t3, cW g X0 F4 (zup (rO g ad N S G B0) Oa (.inr (10, [.long m5])))) 966 [(4, .int (nI i)), (3, .ref Oa), (2, .ref (ad 0)), (1, .ref X0), (0, .ref b)] [.int x2]
  refine V_istore X [(5, .int x2), (4, .int (nI i)), (3, .ref Oa), (2, .ref (ad 0)), (1, .ref X0), (0, .ref b)] dL_law_966 (by decide) rfl ?_
  refine V_aload_n X dL_law_968 3 rfl ?_
  refine V_aload_n X dL_law_969 5 rfl ?_
  refine V_iload X dL_law_970 1 rfl ?_
  refine V_iconst (v := nI 1) X dL_law_972 (by decide) ?_
  refine V_iaddN X dL_law_973 ?_
  refine V_sld X hXs hb (vp_in_nI (by omega) (by omega)) dL_law_974 (V.topi (fun a7 ea7 => ?_))
  rw [ea7.trans ea1.symm]
  refine V.fr (fun hfr => ?_)
  have hf : X0 + 61 ≤ t3.1 ∧ Oa < t3.1 := zW_fr hO hfr
  obtain ⟨hf1, hf2⟩ := hf
  refine V.so (σ' := (t3, rO g ad N S G (cW g X0 F4 (zup B0 Oa (.inr (10, [.long m5])))))) (congrArg (Prod.mk _) ((zW_c hK (fun k hk => (hd k hk).2)).symm.trans (zW_r hK hd))) ?_
  refine V_callV (rest := []) X Hh ml_L_165 in_X12_without (ci := 16) rfl se_X12_without (R_recv hK (q := 0) (rlv (by omega)) rfl) (by decide) (by decide) (k_X12_without hK hIr a1) rfl rfl (Nat.le_of_ble_eq_true rfl) ⟨by omega, by omega⟩ dL_law_975 (fun _ _ h => False.elim h) (fun v8 σ' hp8 => ?_)
  obtain ⟨x8, rfl, t9, G10, rfl, hI12, hM11⟩ := hp8
  obtain ⟨hR13, hx14, hv15⟩ := ab_without hR hIr hc6 hM11
  refine V.so (σ' := (t9, zW g X0 F4 ad N S G10 B0 Oa m5)) (congrArg (Prod.mk _) (zW_r hK hd).symm) ?_
  show V g κ 7 (k + 1) (n + 6) (t9, zW g X0 F4 ad N S G10 B0 Oa m5) 978 [(5, .int x2), (4, .int (nI i)), (3, .ref Oa), (2, .ref (ad 0)), (1, .ref X0), (0, .ref b)] [.int x8]
  refine V_istore X [(6, .int x8), (5, .int x2), (4, .int (nI i)), (3, .ref Oa), (2, .ref (ad 0)), (1, .ref X0), (0, .ref b)] dL_law_978 (by decide) rfl ?_
  refine V_goto (tgt := 1049) X dL_law_980 (by decide) ?_
  exact V.sub [2, 3, 4, 5, 6] rfl (V.widen (by omega) (by omega) (done t9 ad N S G10 F4 m5 ⟨hK, hd, h43, hI12, hR13, rfl⟩))
set_option maxRecDepth 100000 in
set_option maxHeartbeats 4000000 in
theorem lc_21 {g : zG} {κ : zC} {X0 Oa b L : Nat} {xs : Nat → Int32} (Cx : zCx g κ X0 Oa b L xs) {M : Nat} {B0 : Nat → Option va_E} {k n i : Nat} (hi : i + 4 ≤ L) (hk : k + 410 ≤ 823735) (hn : n + 2050 ≤ 6624900) (done : ∀ (t : Nat × Nat) (ad N : Nat → Nat) (S : Int64) (G F : Nat → Nat → Int32) (m : Int64), zLI g X0 Oa M ad N G F → V g κ 7 (k + 410) (n + 2050) (t, zW g X0 F ad N S G B0 Oa m) 1049 [(4, .int (nI i)), (3, .ref Oa), (2, .ref M), (1, .ref X0), (0, .ref b)] []) {t : Nat × Nat} {ad N : Nat → Nat} {S : Int64} {G F : Nat → Nat → Int32} {m : Int64} (I : zLI g X0 Oa M ad N G F) : V g κ 7 k n (t, zW g X0 F ad N S G B0 Oa m) 983 [(4, .int (nI i)), (3, .ref Oa), (2, .ref M), (1, .ref X0), (0, .ref b)] [] := by
  obtain ⟨X, Hh, hXs, hb, hL, hG, hEm, hX, hO, gO⟩ := Cx
  obtain ⟨hK, hd, h43, hIr, hR, rfl⟩ := I
  refine V_aload_n X dL_law_983 3 rfl ?_
  refine V_aload_n X dL_law_984 4 rfl ?_
  refine V_iload X dL_law_985 0 rfl ?_
  refine V_iconst (v := nI 1) X dL_law_987 (by decide) ?_
  refine V_iaddN X dL_law_988 ?_
  refine V_sld X hXs hb (vp_in_nI (by omega) (by omega)) dL_law_989 (V.topi (fun a1 ea1 => ?_))
  refine V_aload_n X dL_law_990 4 rfl ?_
  refine V_iload X dL_law_991 0 rfl ?_
  refine V_iconst (v := nI 2) X dL_law_993 (by decide) ?_
  refine V_iaddN X dL_law_994 ?_
  refine V_sld X hXs hb (vp_in_nI (by omega) (by omega)) dL_law_995 (V.topi (fun a2 ea2 => ?_))
  refine V_aload_n X dL_law_996 1 rfl ?_
  refine V.so (σ' := (t, cW g X0 F (zup (rO g ad N S G B0) Oa (.inr (10, [.long m]))))) (congrArg (Prod.mk _) (zW_c hK (fun k hk => (hd k hk).2))) ?_
  refine V_callSX (rest := []) X Hh mw_L_shareOf st_L_shareOf (by decide) (by decide) (k_L_shareOf hX hG hO gO hR.1 a1 a2 (hR.bd hIr) hR.2.2.2.1) rfl rfl (Nat.le_of_ble_eq_true rfl) ⟨by omega, by omega⟩ dL_law_997 (fun v9 σ' hp9 => ?_)
  obtain ⟨x3, rfl, t4, F5, m6, rfl, hc7⟩ := hp9
  show V g κ 7 (k + 1) (n + 6) (t4, cW g X0 F5 (zup (rO g ad N S G B0) Oa (.inr (10, [.long m6])))) 1000 [(4, .int (nI i)), (3, .ref Oa), (2, .ref (ad 0)), (1, .ref X0), (0, .ref b)] [.int x3]
  refine V_istore X [(5, .int x3), (4, .int (nI i)), (3, .ref Oa), (2, .ref (ad 0)), (1, .ref X0), (0, .ref b)] dL_law_1000 (by decide) rfl ?_
  refine V_aload_n X dL_law_1002 3 rfl ?_
  refine V_aload_n X dL_law_1003 5 rfl ?_
  refine V_iload X dL_law_1004 1 rfl ?_
  refine V_iconst (v := nI 1) X dL_law_1006 (by decide) ?_
  refine V_iaddN X dL_law_1007 ?_
  refine V_sld X hXs hb (vp_in_nI (by omega) (by omega)) dL_law_1008 (V.topi (fun a8 ea8 => ?_))
  rw [ea8.trans ea1.symm]
  refine V_aload_n X dL_law_1009 5 rfl ?_
  refine V_iload X dL_law_1010 1 rfl ?_
  refine V_iconst (v := nI 2) X dL_law_1012 (by decide) ?_
  refine V_iaddN X dL_law_1013 ?_
  refine V_sld X hXs hb (vp_in_nI (by omega) (by omega)) dL_law_1014 (V.topi (fun a9 ea9 => ?_))
  rw [ea9.trans ea2.symm]
  refine V.fr (fun hfr => ?_)
  have hf : X0 + 61 ≤ t4.1 ∧ Oa < t4.1 := zW_fr hO hfr
  obtain ⟨hf1, hf2⟩ := hf
  refine V.so (σ' := (t4, rO g ad N S G (cW g X0 F5 (zup B0 Oa (.inr (10, [.long m6])))))) (congrArg (Prod.mk _) ((zW_c hK (fun k hk => (hd k hk).2)).symm.trans (zW_r hK hd))) ?_
  obtain ⟨b9, g9, hb9⟩ := rBs_ex (N := N) (G := G)
  refine V_callV (rest := []) X Hh ml_L_168 in_X12_shareOf (ci := 16) rfl se_X12_shareOf (R_recv hK (q := 0) (rlv (by omega)) rfl) (by decide) (by decide) (k_X12_shareOf hK hIr a1 a2 hR.2.2.2.2 b9 g9 hb9) rfl rfl (Nat.le_of_ble_eq_true rfl) ⟨by omega, by omega⟩ dL_law_1015 (fun _ _ h => False.elim h) (fun v8 σ' hp8 => ?_)
  obtain ⟨x10, rfl, t11, G12, rfl, hI14, hM13⟩ := hp8
  obtain ⟨hR15, hx16, hv17⟩ := ab_shareOf hR hIr hc7 hM13
  refine V.so (σ' := (t11, zW g X0 F5 ad N S G12 B0 Oa m6)) (congrArg (Prod.mk _) (zW_r hK hd).symm) ?_
  show V g κ 7 (k + 1) (n + 6) (t11, zW g X0 F5 ad N S G12 B0 Oa m6) 1018 [(5, .int x3), (4, .int (nI i)), (3, .ref Oa), (2, .ref (ad 0)), (1, .ref X0), (0, .ref b)] [.int x10]
  refine V_istore X [(6, .int x10), (5, .int x3), (4, .int (nI i)), (3, .ref Oa), (2, .ref (ad 0)), (1, .ref X0), (0, .ref b)] dL_law_1018 (by decide) rfl ?_
  refine V_goto (tgt := 1049) X dL_law_1020 (by decide) ?_
  exact V.sub [2, 3, 4, 5, 6] rfl (V.widen (by omega) (by omega) (done t11 ad N S G12 F5 m6 ⟨hK, hd, h43, hI14, hR15, rfl⟩))
set_option maxRecDepth 100000 in
set_option maxHeartbeats 4000000 in
theorem lc_22 {g : zG} {κ : zC} {X0 Oa b L : Nat} {xs : Nat → Int32} (Cx : zCx g κ X0 Oa b L xs) {M : Nat} {B0 : Nat → Option va_E} {k n i : Nat} (hi : i + 4 ≤ L) (hk : k + 410 ≤ 823735) (hn : n + 2050 ≤ 6624900) (done : ∀ (t : Nat × Nat) (ad N : Nat → Nat) (S : Int64) (G F : Nat → Nat → Int32) (m : Int64), zLI g X0 Oa M ad N G F → V g κ 7 (k + 410) (n + 2050) (t, zW g X0 F ad N S G B0 Oa m) 1049 [(4, .int (nI i)), (3, .ref Oa), (2, .ref M), (1, .ref X0), (0, .ref b)] []) {t : Nat × Nat} {ad N : Nat → Nat} {S : Int64} {G F : Nat → Nat → Int32} {m : Int64} (I : zLI g X0 Oa M ad N G F) : V g κ 7 k n (t, zW g X0 F ad N S G B0 Oa m) 1023 [(4, .int (nI i)), (3, .ref Oa), (2, .ref M), (1, .ref X0), (0, .ref b)] [] := by
  obtain ⟨X, Hh, hXs, hb, hL, hG, hEm, hX, hO, gO⟩ := Cx
  obtain ⟨hK, hd, h43, hIr, hR, rfl⟩ := I
  refine V_aload_n X dL_law_1023 3 rfl ?_
  refine V_callV (rest := []) X Hh ml_L_169 in_X5_isSound (ci := 9) rfl se_X5_isSound (C_recv (q := 0) (by decide) rfl) (by decide) (by decide) (k_X5_isSound hX hR.1 (hR.bd hIr) hR.2.2.2.1) rfl rfl (Nat.le_of_ble_eq_true rfl) ⟨by omega, by omega⟩ dL_law_1024 (fun _ _ h => False.elim h) (fun v9 σ' hp9 => ?_)
  obtain ⟨⟨x1, rfl, -⟩, F3, rfl, hm4⟩ := hp9
  show V g κ 7 (k + 0) (n + 0) (t, zW g X0 F3 ad N S G B0 Oa m) 1027 [(4, .int (nI i)), (3, .ref Oa), (2, .ref (ad 0)), (1, .ref X0), (0, .ref b)] [.int x1]
  refine V_pop X dL_law_1027 rfl ?_
  refine V_aload_n X dL_law_1028 2 rfl ?_
  refine V.so (σ' := (t, rO g ad N S G (cW g X0 F3 (zup B0 Oa (.inr (10, [.long m])))))) (congrArg (Prod.mk _) (zW_r hK hd)) ?_
  refine V_callV (rest := []) X Hh ml_L_173 in_X12_isSound (ci := 16) rfl se_X12_isSound (R_recv hK (q := 0) (rlv (by omega)) rfl) (by decide) (by decide) (k_X12_isSound hK hIr) rfl rfl (Nat.le_of_ble_eq_true rfl) ⟨by omega, by omega⟩ dL_law_1029 (fun _ _ h => False.elim h) (fun v8 σ' hp8 => ?_)
  obtain ⟨⟨x5, rfl, -⟩, t6, G7, rfl, hM8, hI9⟩ := hp8
  refine V.so (σ' := (t6, zW g X0 F3 ad N S G7 B0 Oa m)) (congrArg (Prod.mk _) (zW_r hK hd).symm) ?_
  show V g κ 7 (k + 51) (n + 252) (t6, zW g X0 F3 ad N S G7 B0 Oa m) 1032 [(4, .int (nI i)), (3, .ref Oa), (2, .ref (ad 0)), (1, .ref X0), (0, .ref b)] [.int x5]
  refine V_pop X dL_law_1032 rfl ?_
  refine V_goto (tgt := 1049) X dL_law_1033 (by decide) ?_
  exact V.sub [0, 1, 2, 3, 4] rfl (V.widen (by omega) (by omega) (done t6 ad N S G7 F3 m ⟨hK, hd, h43, hI9, (hR.mv hm4 hM8), rfl⟩))
set_option maxRecDepth 100000 in
set_option maxHeartbeats 4000000 in
theorem lc_23 {g : zG} {κ : zC} {X0 Oa b L : Nat} {xs : Nat → Int32} (Cx : zCx g κ X0 Oa b L xs) {M : Nat} {B0 : Nat → Option va_E} {k n i : Nat} (hi : i + 4 ≤ L) (hk : k + 410 ≤ 823735) (hn : n + 2050 ≤ 6624900) (done : ∀ (t : Nat × Nat) (ad N : Nat → Nat) (S : Int64) (G F : Nat → Nat → Int32) (m : Int64), zLI g X0 Oa M ad N G F → V g κ 7 (k + 410) (n + 2050) (t, zW g X0 F ad N S G B0 Oa m) 1049 [(4, .int (nI i)), (3, .ref Oa), (2, .ref M), (1, .ref X0), (0, .ref b)] []) {t : Nat × Nat} {ad N : Nat → Nat} {S : Int64} {G F : Nat → Nat → Int32} {m : Int64} (I : zLI g X0 Oa M ad N G F) : V g κ 7 k n (t, zW g X0 F ad N S G B0 Oa m) 1036 [(4, .int (nI i)), (3, .ref Oa), (2, .ref M), (1, .ref X0), (0, .ref b)] [] := by
  obtain ⟨X, Hh, hXs, hb, hL, hG, hEm, hX, hO, gO⟩ := Cx
  obtain ⟨hK, hd, h43, hIr, hR, rfl⟩ := I
  refine V_aload_n X dL_law_1036 3 rfl ?_
  refine V_callV (rest := []) X Hh ml_L_174 in_X5_digest (ci := 9) rfl se_X5_digest (C_recv (q := 0) (by decide) rfl) (by decide) (by decide) (k_X5_digest hX hR.1 hG (hR.bd hIr) hR.2.2.2.1) rfl rfl (Nat.le_of_ble_eq_true rfl) ⟨by omega, by omega⟩ dL_law_1037 (fun _ _ h => False.elim h) (fun v9 σ' hp9 => ?_)
  obtain ⟨⟨x1, rfl⟩, t2, F3, rfl, hm4⟩ := hp9
  show V g κ 7 (k + 5) (n + 40) (t2, zW g X0 F3 ad N S G B0 Oa m) 1040 [(4, .int (nI i)), (3, .ref Oa), (2, .ref (ad 0)), (1, .ref X0), (0, .ref b)] [.long x1]
  refine V_pop2 X dL_law_1040 rfl ?_
  refine V_aload_n X dL_law_1041 2 rfl ?_
  refine V.so (σ' := (t2, rO g ad N S G (cW g X0 F3 (zup B0 Oa (.inr (10, [.long m])))))) (congrArg (Prod.mk _) (zW_r hK hd)) ?_
  obtain ⟨b9, g9, hb9⟩ := rBs_ex (N := N) (G := G)
  refine V_callV (rest := []) X Hh ml_L_178 in_X12_digest (ci := 16) rfl se_X12_digest (R_recv hK (q := 0) (rlv (by omega)) rfl) (by decide) (by decide) (k_X12_digest hK hIr hR.2.2.2.2 b9 g9 hb9) rfl rfl (Nat.le_of_ble_eq_true rfl) ⟨by omega, by omega⟩ dL_law_1042 (fun _ _ h => False.elim h) (fun v8 σ' hp8 => ?_)
  obtain ⟨⟨x5, rfl⟩, t6, S13, G7, rfl, hM8, hI9⟩ := hp8
  refine V.so (σ' := (t6, zW g X0 F3 ad N S13 G7 B0 Oa m)) (congrArg (Prod.mk _) (zW_r hK hd).symm) ?_
  show V g κ 7 (k + 405) (n + 2040) (t6, zW g X0 F3 ad N S13 G7 B0 Oa m) 1045 [(4, .int (nI i)), (3, .ref Oa), (2, .ref (ad 0)), (1, .ref X0), (0, .ref b)] [.long x5]
  refine V_pop2 X dL_law_1045 rfl ?_
  refine V_goto (tgt := 1049) X dL_law_1046 (by decide) ?_
  exact V.sub [0, 1, 2, 3, 4] rfl (V.widen (by omega) (by omega) (done t6 ad N S13 G7 F3 m ⟨hK, hd, h43, hI9, (hR.mv hm4 hM8), rfl⟩))
