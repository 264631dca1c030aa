/-! ===== tours of the reference: all ways on from a place ===== -/
/-- what is weighed from a place, s behind, a taken, v miles out -/
def tE (X Y K : Nat → Nat) (nT mo : Nat) : Nat → Nat → Nat → Nat → Nat → Nat → Nat → Nat → Nat → Prop
  | 0, xx, yy, s, a, v, A, B, E => v + (xx + yy) ≤ mo ∧ (A = a ∧ B = v + (xx + yy) ∧ E = s)
  | r + 1, xx, yy, s, a, v, A, B, E => v + (xx + yy) ≤ mo ∧ ((A = a ∧ B = v + (xx + yy) ∧ E = s) ∨ ∃ t, t < nT ∧ s.testBit t = false ∧ tE X Y K nT mo r (X t) (Y t) (s ||| 2 ^ t) (a + K t) (v + (((xx - X t) + (X t - xx)) + ((yy - Y t) + (Y t - yy)))) A B E)
/-- behind the first i towns -/
def tEk (X Y K : Nat → Nat) (nT mo r xx yy s a v i A B E : Nat) : Prop := (A = a ∧ B = v + (xx + yy) ∧ E = s) ∨ ∃ t, t < i ∧ s.testBit t = false ∧ tE X Y K nT mo r (X t) (Y t) (s ||| 2 ^ t) (a + K t) (v + (((xx - X t) + (X t - xx)) + ((yy - Y t) + (Y t - yy)))) A B E
/-- the best so far, as it is kept -/
def tBs (P : Nat → Nat → Nat → Prop) (s b e : Int32) : Prop := (s = -1 ∧ ∀ A B E, ¬ P A B E) ∨ ∃ A B E : Nat, s = nI A ∧ b = nI B ∧ e = nI E ∧ A < 2 ^ 31 ∧ B < 2 ^ 31 ∧ E < 2 ^ 31 ∧ tW P A B E
/-- the towns of the reference -/
def rTc (X Y K : Nat → Nat) (N : Nat → Nat) (F : Nat → Nat → Int32) : Prop := (∀ i, X i ≤ 99) ∧ (∀ i, Y i ≤ 99) ∧ ∀ q, q < N 4 → F (38 + q) 0 = nI (X q) ∧ F (38 + q) 1 = nI (Y q) ∧ F (38 + q) 2 = nI (K q) ∧ K q ≤ 999
section RTOUR
variable {X Y K : Nat → Nat} {N : Nat → Nat} {F F1 F2 F3 : Nat → Nat → Int32} {P Q : Nat → Nat → Nat → Prop} {nT mo r xx yy s a v i A B E n l t w m h : Nat} {x y b e : Int32}
theorem rTc.mv (hT : rTc X Y K N F) (e : ∀ k j, 38 ≤ k → k < 43 → F1 k j = F k j) (h5 : N 4 ≤ 5) : rTc X Y K N F1 := ⟨hT.1, hT.2.1, fun q hq => by
  rw [e (38 + q) 0 (by omega) (by omega), e (38 + q) 1 (by omega) (by omega), e (38 + q) 2 (by omega) (by omega)]
  exact hT.2.2 q hq⟩
theorem tBs_cg (q : ∀ A B E, P A B E ↔ Q A B E) (h : tBs P x y e) : tBs Q x y e := by
  rcases h with ⟨z, k⟩ | ⟨A, B, E, z1, z2, z3, z4, z5, z6, k⟩
  · exact Or.inl ⟨z, fun A B E u => k A B E ((q A B E).mpr u)⟩
  · exact Or.inr ⟨A, B, E, z1, z2, z3, z4, z5, z6, tW_cg q k⟩
theorem tEk_0 : tEk X Y K nT mo r xx yy s a v 0 A B E ↔ (A = a ∧ B = v + (xx + yy) ∧ E = s) := ⟨fun h => h.resolve_right (fun ⟨t, q, _⟩ => absurd q (Nat.not_lt_zero t)), Or.inl⟩
/-- a place is weighed: it is better -/
theorem tBs_new (hl : tBs P x b e) (ha : a < 2 ^ 31) (hh : h < 2 ^ 31) (hm : m < 2 ^ 31) (hc : x < nI a ∨ (nI a = x ∧ (nI h < b ∨ (nI h = b ∧ nI m < e)))) : tBs (fun A B E => P A B E ∨ (A = a ∧ B = h ∧ E = m)) (nI a) (nI h) (nI m) := by
  refine Or.inr ⟨a, h, m, rfl, rfl, rfl, ha, hh, hm, Or.inr ⟨rfl, rfl, rfl⟩, fun A B E k => ?_⟩
  rcases k with k | ⟨rfl, rfl, rfl⟩
  · rcases hl with ⟨-, z⟩ | ⟨A', B', E', rfl, rfl, rfl, z4, z5, z6, z7, z8⟩
    · exact absurd k (z A B E)
    · have q := z8 A B E k
      rw [nI_ltI z4 ha, nI_eq ha z4, nI_ltI hh z5, nI_eq hh z5, nI_ltI hm z6] at hc
      omega
  · omega
theorem tBs_old (hl : tBs P x b e) (ha : a < 2 ^ 31) (hh : h < 2 ^ 31) (hm : m < 2 ^ 31) (hc : ¬ (x < nI a ∨ (nI a = x ∧ (nI h < b ∨ (nI h = b ∧ nI m < e))))) : tBs (fun A B E => P A B E ∨ (A = a ∧ B = h ∧ E = m)) x b e := by
  rcases hl with ⟨rfl, z⟩ | ⟨A', B', E', rfl, rfl, rfl, z4, z5, z6, z7, z8⟩
  · refine absurd (Or.inl ?_) hc
    rw [Int32.lt_iff_toInt_lt, nI_toInt ha, show (-1 : Int32).toInt = -1 from rfl]
    omega
  · rw [nI_ltI z4 ha, nI_eq ha z4, nI_ltI hh z5, nI_eq hh z5, nI_ltI hm z6] at hc
    refine Or.inr ⟨A', B', E', rfl, rfl, rfl, z4, z5, z6, Or.inl z7, fun A B E k => ?_⟩
    rcases k with k | ⟨rfl, rfl, rfl⟩
    · exact z8 A B E k
    · omega
theorem tBs_go1 (hl : tBs P (F 0 16) (F 0 17) (F 0 18)) (h1 : F1 = fset F 0 16 (nI a)) (h2 : F2 = fset F1 0 17 (nI (v + (xx + yy)))) (h3 : F3 = fset F2 0 18 (nI s)) (ha : a < 2 ^ 31) (hh : v + (xx + yy) < 2 ^ 31) (hm : s < 2 ^ 31) (hc : F 0 16 < nI a ∨ (nI a = F 0 16 ∧ (nI (v + (xx + yy)) < F 0 17 ∨ (nI (v + (xx + yy)) = F 0 17 ∧ nI s < F 0 18)))) : tBs (fun A B E => P A B E ∨ tEk X Y K nT mo r xx yy s a v 0 A B E) (F3 0 16) (F3 0 17) (F3 0 18) := by
  rw [show F3 0 16 = nI a by rw [h3, fset_ne (by omega), h2, fset_ne (by omega), h1, fset_eq], show F3 0 17 = nI (v + (xx + yy)) by rw [h3, fset_ne (by omega), h2, fset_eq], show F3 0 18 = nI s by rw [h3, fset_eq]]
  exact tBs_cg (fun A B E => or_congr_right tEk_0.symm) (tBs_new hl ha hh hm hc)
theorem tBs_go0 (hl : tBs P (F 0 16) (F 0 17) (F 0 18)) (ha : a < 2 ^ 31) (hh : v + (xx + yy) < 2 ^ 31) (hm : s < 2 ^ 31) (hc : ¬ (F 0 16 < nI a ∨ (nI a = F 0 16 ∧ (nI (v + (xx + yy)) < F 0 17 ∨ (nI (v + (xx + yy)) = F 0 17 ∧ nI s < F 0 18))))) : tBs (fun A B E => P A B E ∨ tEk X Y K nT mo r xx yy s a v 0 A B E) (F 0 16) (F 0 17) (F 0 18) := tBs_cg (fun A B E => or_congr_right tEk_0.symm) (tBs_old hl ha hh hm hc)
theorem tEk_skip (hb : s.testBit i = true) : tEk X Y K nT mo r xx yy s a v i A B E ↔ tEk X Y K nT mo r xx yy s a v (i + 1) A B E := or_congr_right (exists_congr fun t => ⟨fun ⟨q, k⟩ => ⟨by omega, k⟩, fun ⟨q, k⟩ => ⟨by
  by_cases z : t = i
  · subst z
    rw [hb] at k
    exact absurd k.1 (by decide)
  · omega, k⟩⟩)
theorem tEk_step (hb : s.testBit i = false) : (P A B E ∨ tEk X Y K nT mo r xx yy s a v i A B E) ∨ tE X Y K nT mo r (X i) (Y i) (s ||| 2 ^ i) (a + K i) (v + (((xx - X i) + (X i - xx)) + ((yy - Y i) + (Y i - yy)))) A B E ↔ P A B E ∨ tEk X Y K nT mo r xx yy s a v (i + 1) A B E := by
  constructor
  · rintro ((k | k | ⟨t, q, k⟩) | k)
    · exact Or.inl k
    · exact Or.inr (Or.inl k)
    · exact Or.inr (Or.inr ⟨t, by omega, k⟩)
    · exact Or.inr (Or.inr ⟨i, Nat.lt_succ_self i, hb, k⟩)
  · rintro (k | k | ⟨t, q, k⟩)
    · exact Or.inl (Or.inl k)
    · exact Or.inl (Or.inr (Or.inl k))
    · by_cases z : t = i
      · subst z
        exact Or.inr k.2
      · exact Or.inl (Or.inr (Or.inr ⟨t, by omega, k⟩))
theorem tE_end (hs : s < 32) (hr : 5 ≤ zpc s + r) (hh : v + (xx + yy) ≤ mo) (h5 : nT ≤ 5) : tEk X Y K nT mo (r - 1) xx yy s a v nT A B E ↔ tE X Y K nT mo r xx yy s a v A B E := by
  cases r with
  | zero =>
    constructor
    · rintro (k | ⟨t, q, k, -⟩)
      · exact ⟨hh, k⟩
      · have z := tk_full 5 (by decide) s hs hs (by omega) t (by omega)
        rw [z] at k
        cases k
    · exact fun k => Or.inl k.2
  | succ r => exact ⟨fun k => ⟨hh, k⟩, And.right⟩
theorem tE_far (hh : mo < v + (xx + yy)) : ¬ tE X Y K nT mo r xx yy s a v A B E := by
  cases r with
  | zero => exact fun k => absurd k.1 (by omega)
  | succ r => exact fun k => absurd k.1 (by omega)
theorem tS_add (hn : t < n) (hb : s.testBit t = false) : tS K n (s ||| 2 ^ t) = tS K n s + K t := by
  have low : ∀ n, n ≤ t → tS K n (s ||| 2 ^ t) = tS K n s := by
    intro n
    induction n with
    | zero => exact fun _ => rfl
    | succ n ih =>
      intro hn
      show tS K n (s ||| 2 ^ t) + (if (s ||| 2 ^ t).testBit n = true then K n else 0) = tS K n s + (if s.testBit n = true then K n else 0)
      rw [ih (by omega)]
      have e : (s ||| 2 ^ t).testBit n = true ↔ s.testBit n = true := tb_or2.trans (or_iff_left (by omega))
      by_cases z : s.testBit n = true
      · rw [if_pos z, if_pos (e.mpr z)]
      · rw [if_neg z, if_neg (fun q => z (e.mp q))]
  induction n with
  | zero => exact absurd hn (Nat.not_lt_zero t)
  | succ n ih =>
    show tS K n (s ||| 2 ^ t) + (if (s ||| 2 ^ t).testBit n = true then K n else 0) = tS K n s + (if s.testBit n = true then K n else 0) + K t
    by_cases z : t = n
    · subst z
      rw [low t (Nat.le_refl t), if_pos (tb_or2.mpr (Or.inr rfl)), if_neg (by rw [hb]; decide), Nat.add_zero]
    · rw [ih (by omega)]
      have e : (s ||| 2 ^ t).testBit n = true ↔ s.testBit n = true := tb_or2.trans (or_iff_left (fun q => z q.symm))
      by_cases z : s.testBit n = true
      · rw [if_pos z, if_pos (e.mpr z)]
        omega
      · rw [if_neg z, if_neg (fun q => z (e.mp q))]
        omega
theorem tS_0 : tS K n 0 = 0 := by
  induction n with
  | zero => rfl
  | succ n ih =>
    show tS K n 0 + (if (0 : Nat).testBit n = true then K n else 0) = 0
    rw [ih, Nat.zero_testBit, if_neg (by decide)]
/-- where one stands -/
def tAt (X Y : Nat → Nat) (nT xx yy s v : Nat) : Prop := s < 2 ^ nT ∧ ((s = 0 ∧ xx = 0 ∧ yy = 0 ∧ v = 0) ∨ ∃ n l, tO X Y n s l v ∧ xx = X l ∧ yy = Y l)
theorem tAt_key (h : tAt X Y nT xx yy s v) (ha : a = tS K nT s) (hh : v + (xx + yy) ≤ mo) : tKey X Y K nT mo a (v + (xx + yy)) s := by
  refine ⟨h.1, ha, hh, ?_⟩
  rcases h.2 with ⟨rfl, rfl, rfl, rfl⟩ | ⟨n, l, k, rfl, rfl⟩
  · exact Or.inl ⟨rfl, rfl⟩
  · exact Or.inr ⟨l, v, ⟨n, k⟩, rfl⟩
theorem tAt_on (h5 : nT ≤ 5) (h : tAt X Y nT xx yy s v) (ht : t < nT) (hb : s.testBit t = false) : tAt X Y nT (X t) (Y t) (s ||| 2 ^ t) (v + (((xx - X t) + (X t - xx)) + ((yy - Y t) + (Y t - yy)))) := by
  refine ⟨Nat.or_lt_two_pow h.1 (Nat.pow_lt_pow_right (by decide) ht), Or.inr ?_⟩
  rcases h.2 with ⟨rfl, rfl, rfl, rfl⟩ | ⟨n, l, k, rfl, rfl⟩
  · refine ⟨0, t, ⟨by omega, by rw [Nat.zero_or], ?_⟩, rfl, rfl⟩
    unfold tH
    omega
  · exact ⟨n + 1, t, ⟨s, l, v, k, by omega, hb, rfl, rfl⟩, rfl, rfl⟩
theorem tE_key (h5 : nT ≤ 5) : ∀ (r : Nat) {xx yy s a v : Nat}, tAt X Y nT xx yy s v → a = tS K nT s → tE X Y K nT mo r xx yy s a v A B E → tKey X Y K nT mo A B E := by
  intro r
  induction r with
  | zero =>
    rintro xx yy s a v h ha ⟨hh, rfl, rfl, rfl⟩
    exact tAt_key h ha hh
  | succ r ih =>
    rintro xx yy s a v h ha ⟨hh, ⟨rfl, rfl, rfl⟩ | ⟨t, ht, hb, k⟩⟩
    · exact tAt_key h ha hh
    · exact ih (tAt_on h5 h ht hb) (by rw [tS_add ht hb, ha]) k
theorem tE_self (hh : v + (xx + yy) ≤ mo) : tE X Y K nT mo r xx yy s a v a (v + (xx + yy)) s := by
  cases r with
  | zero => exact ⟨hh, rfl, rfl, rfl⟩
  | succ r => exact ⟨hh, Or.inl ⟨rfl, rfl, rfl⟩⟩
theorem tE_path : ∀ (n : Nat) {s l v : Nat}, tO X Y n s l v → s < 2 ^ nT → v + (X l + Y l) ≤ mo → ∀ r, tE X Y K nT mo r (X l) (Y l) s (tS K nT s) v A B E → tE X Y K nT mo (r + n + 1) 0 0 0 0 0 A B E := by
  intro n
  induction n with
  | zero =>
    intro s l v h hs hh r k
    obtain ⟨h1, rfl, rfl⟩ := h
    have hl : l < nT := tk_n hs (tk_one l h1).2.1
    refine ⟨by omega, Or.inr ⟨l, hl, Nat.zero_testBit l, ?_⟩⟩
    have e := tS_add (K := K) (s := 0) hl (Nat.zero_testBit l)
    rw [tS_0, Nat.zero_or] at e
    rw [Nat.zero_or, ← e, show 0 + (((0 - X l) + (X l - 0)) + ((0 - Y l) + (Y l - 0))) = tH X Y l from by unfold tH; omega]
    exact k
  | succ n ih =>
    intro s l v h hs hh r k
    obtain ⟨s', t, v', h1, h2, h3, rfl, rfl⟩ := h
    have hl : l < nT := tk_n hs (tb_or2.mpr (Or.inr rfl))
    have hs' : s' < 2 ^ nT := Nat.lt_of_le_of_lt Nat.left_le_or hs
    have tri : v' + (X t + Y t) ≤ mo := by
      unfold tD at hh
      omega
    have key := ih h1 hs' tri (r + 1) ⟨tri, Or.inr ⟨l, hl, h3, by
      rw [← tS_add hl h3]
      exact k⟩⟩
    rw [show r + 1 + n + 1 = r + (n + 1) + 1 from by omega] at key
    exact key
theorem tE_top (h5 : nT ≤ 5) : tE X Y K nT mo 5 0 0 0 0 0 A B E ↔ tKey X Y K nT mo A B E := by
  constructor
  · exact tE_key h5 5 ⟨Nat.two_pow_pos nT, Or.inl ⟨rfl, rfl, rfl, rfl⟩⟩ tS_0.symm
  · rintro ⟨h1, rfl, h3, ⟨rfl, rfl⟩ | ⟨l, u, ⟨n, k⟩, rfl⟩⟩
    · rw [tS_0]
      exact tE_self (v := 0) (xx := 0) (yy := 0) (Nat.zero_le _)
    · obtain ⟨e1, e2, e3, e4⟩ := tO_b k
      have := tk_le5 E e1
      have q := tE_path (K := K) (A := tS K nT E) (B := u + tH X Y l) (E := E) n k h1 h3 (4 - n) (tE_self h3)
      rw [show 4 - n + n + 1 = 5 from by omega] at q
      exact q
theorem tBs_ans (h5 : nT ≤ 5) (h : tBs (fun A B E => False ∨ tE X Y K nT mo 5 0 0 0 0 0 A B E) x b e) : tAns X Y K nT mo 0 e ∧ tAns X Y K nT mo 1 x ∧ tAns X Y K nT mo 2 b := by
  have h' : tBs (tKey X Y K nT mo) x b e := tBs_cg (fun A B E => (or_iff_right id).trans (tE_top h5)) h
  rcases h' with ⟨-, k⟩ | ⟨A, B, E, rfl, rfl, rfl, -, -, -, k⟩
  · exact absurd ⟨Nat.two_pow_pos nT, tS_0.symm, Nat.zero_le _, Or.inl ⟨rfl, rfl⟩⟩ (k 0 0 0)
  · exact ⟨⟨A, B, E, k, Or.inl ⟨rfl, rfl⟩⟩, ⟨A, B, E, k, Or.inr (Or.inl ⟨rfl, rfl⟩)⟩, ⟨A, B, E, k, Or.inr (Or.inr ⟨rfl, rfl⟩)⟩⟩
end RTOUR
set_option maxRecDepth 100000 in
set_option maxHeartbeats 4000000 in
theorem k_X12_go_x {g : zG} {t : Nat × Nat} {ad N : Nat → Nat} {S : Int64} {σ0 : Nat → Option va_E} {F0 : Nat → Nat → Int32} {xs ys ks : Nat → Nat} (hK : rK g ad N) (hC : rTc xs ys ks N F0) (mo : Nat) (hmo : mo ≤ 2000) : ∀ (r : Nat) {F : Nat → Nat → Int32} (hI : rI N F) (hJ0 : rJ F0 F) (m : Nat) (hm : m < 32) (hr : 5 ≤ zpc m + r) (xx yy a v : Nat) (hx : xx ≤ 99) (hy : yy ≤ 99) (ha : a ≤ 999 * zpc m) (hv : v ≤ 198 * zpc m) (P : Nat → Nat → Nat → Prop) (hl : tBs P (F 0 16) (F 0 17) (F 0 18)), Ct g (15 + r) yX12_go cX12_go 10 none 0 0 [.ref (ad (0)), .int (nI xx), .int (nI yy), .int (nI m), .int (nI a), .int (nI v), .int (nI mo)] (t, rO g ad N S F σ0) (fun w σ' => w = none ∧ ∃ F' : Nat → Nat → Int32, σ' = (t, rO g ad N S F' σ0) ∧ rJ F F' ∧ F' 0 0 = F 0 0 ∧ tBs (fun A B E => P A B E ∨ tE xs ys ks (N 4) mo r xx yy m a v A B E) (F' 0 16) (F' 0 17) (F' 0 18)) zNo := by
  intro r
  induction r using Nat.strongRecOn with
  | ind r ihr =>
  intro F hI hJ0 m hm hr xx yy a v hx hy ha hv P hl
  refine Ct.of (lv := [(0, .ref (ad (0))), (1, .int (nI (xx))), (2, .int (nI (yy))), (3, .int (nI (m))), (4, .int (nI (a))), (5, .int (nI (v))), (6, .int (nI (mo)))]) (by decide) (Nat.le_of_ble_eq_true rfl) rfl ?_
  intro κ X E B _
  have X : zX g κ RX12 cX12_go 10 := X
  obtain ⟨b0, b1, b2, b3, b4⟩ := hI.bnd
  have ho5 := zpc_5 m hm
  refine V_iload X dX12_go_0 5 rfl ?_
  refine V_iload_n X dX12_go_2 1 rfl ?_
  refine V_iload_n X dX12_go_3 2 rfl ?_
  refine V_iconst (v := nI 0) X dX12_go_4 (by decide) ?_
  refine V_iconst (v := nI 0) X dX12_go_5 (by decide) ?_
  refine V_callS (rest := [.int (nI (v))]) X E.room ml_X12_241 st_X12_miles (by omega) (by decide) (k_X12_miles (σ := (t, rO g ad N S F σ0)) (nI (xx)) (nI (yy)) (nI (0)) (nI (0))) rfl rfl (Nat.le_of_ble_eq_true rfl) ⟨by omega, by omega⟩ dX12_go_6 (fun _ _ h => False.elim h) (fun v6 σ' hp6 => ?_)
  obtain ⟨⟨w1, rfl, fw1⟩, rfl⟩ := hp6
  rw [tab99 (xx) (Nat.lt_succ_of_le hx) (0) (by decide), tab99 (yy) (Nat.lt_succ_of_le hy) (0) (by decide), nI_add] at fw1
  rw [show ((xx - 0) + (0 - xx)) + ((yy - 0) + (0 - yy)) = xx + yy from by omega] at fw1
  subst fw1
  show V g κ 10 (0) (0) (t, rO g ad N S F σ0) 9 [(0, .ref (ad (0))), (1, .int (nI (xx))), (2, .int (nI (yy))), (3, .int (nI (m))), (4, .int (nI (a))), (5, .int (nI (v))), (6, .int (nI (mo)))] [.int (nI ((xx + yy))), .int (nI (v))]
  refine V_iaddN X dX12_go_9 ?_
  refine V_istore X [(7, .int (nI (v + (xx + yy)))), (0, .ref (ad (0))), (1, .int (nI (xx))), (2, .int (nI (yy))), (3, .int (nI (m))), (4, .int (nI (a))), (5, .int (nI (v))), (6, .int (nI (mo)))] dX12_go_10 (by decide) rfl ?_
  refine V_iload X dX12_go_12 0 rfl ?_
  refine V_iload X dX12_go_14 7 rfl ?_
  refine V_icmpleN X (by omega) (by omega) (tgt := 20) dX12_go_16 (by decide) (fun h2 => ?_) (fun h2 => ?_)
  · -- 16 true
    refine V_iload X dX12_go_20 5 rfl ?_
    refine V_aload_n X dX12_go_22 1 rfl ?_
    refine R_getf X fl_X12_245 hK (0) (rlv (by omega)) rfl rfl dX12_go_23 (V.topi (fun x3 ex3 => ?_))
    refine V_icmpgt X (tgt := 64) dX12_go_26 (by decide) (fun h4 => ?_) (fun h4 => ?_)
    · -- 26 true
      refine V_aload_n X dX12_go_64 1 rfl ?_
      refine V_iload X dX12_go_65 5 rfl ?_
      refine R_putf X fl_X12_245 zt_X12 hK (0) (rlv (by omega)) (by omega) rfl (Nat.le_of_ble_eq_true rfl) rfl rfl rfl rfl rfl dX12_go_67 (fun F5 hF5 => ?_)
      have hJF5 := (rJ.rfl' : rJ F F).set hF5 (rsc_t (by omega))
      refine V_aload_n X dX12_go_70 1 rfl ?_
      refine V_iload X dX12_go_71 0 rfl ?_
      refine R_putf X fl_X12_248 zt_X12 hK (0) (rlv (by omega)) (by omega) rfl (Nat.le_of_ble_eq_true rfl) rfl rfl rfl rfl rfl dX12_go_73 (fun F6 hF6 => ?_)
      have hJF6 := (hJF5 : rJ F F5).set hF6 (rsc_t (by omega))
      refine V_aload_n X dX12_go_76 1 rfl ?_
      refine V_iload_n X dX12_go_77 4 rfl ?_
      refine R_putf X fl_X12_251 zt_X12 hK (0) (rlv (by omega)) (by omega) rfl (Nat.le_of_ble_eq_true rfl) rfl rfl rfl rfl rfl dX12_go_78 (fun F7 hF7 => ?_)
      have hJF7 := (hJF6 : rJ F F6).set hF7 (rsc_t (by omega))
      refine V_iconst (v := nI 0) X dX12_go_81 (by decide) ?_
      refine V_istore X [(8, .int (nI (0))), (7, .int (nI (v + (xx + yy)))), (0, .ref (ad (0))), (1, .int (nI (xx))), (2, .int (nI (yy))), (3, .int (nI (m))), (4, .int (nI (a))), (5, .int (nI (v))), (6, .int (nI (mo)))] dX12_go_82 (by decide) rfl ?_
      have L84 : ∀ (n84 : Nat) (i84 : Nat) (G84 : Nat → Nat → Int32), n84 = N 4 - i84 → i84 ≤ N 4 → rJ F G84 → (tBs (fun A B E => P A B E ∨ tEk xs ys ks (N 4) mo (r - 1) xx yy m a v i84 A B E) (G84 0 16) (G84 0 17) (G84 0 18)) → (G84 0 0 = F 0 0) → V g κ 10 (0) (0) (t, rO g ad N S G84 σ0) 84 [(8, .int (nI (i84))), (7, .int (nI (v + (xx + yy)))), (0, .ref (ad (0))), (1, .int (nI (xx))), (2, .int (nI (yy))), (3, .int (nI (m))), (4, .int (nI (a))), (5, .int (nI (v))), (6, .int (nI (mo)))] [] := by
        intro n84
        induction n84 using Nat.strongRecOn with
        | ind n84 ih84 =>
          intro i84 G84 hn84 hi84 hJ84 hv84_0 hv84_1
          refine V_iload X dX12_go_84 0 rfl ?_
          refine V_aload_n X dX12_go_86 2 rfl ?_
          refine R_getf X fl_X12_25 hK (0) (rlv (by omega)) rfl rfl dX12_go_87 ?_
          refine V_callV (rest := [.int (nI (i84))]) X E.room ml_X12_42 in_Jx4a65c_size_8abf5 (ci := 3) rfl se_Jx4a65c_size_8abf5 (rO_list hK (i := 4) (by decide)) (by omega) (by decide) (r_size hK 4 (by decide)) rfl rfl (Nat.le_of_ble_eq_true rfl) ⟨by omega, by omega⟩ dX12_go_90 (fun _ _ h => False.elim h) (fun v8 σ' hp9 => ?_)
          obtain ⟨hp9, rfl⟩ := hp9
          cases (hp9 : _ = some (Value.int (nI (N 4))))
          show V g κ 10 (0) (0) (t, rO g ad N S G84 σ0) 93 [(8, .int (nI (i84))), (7, .int (nI (v + (xx + yy)))), (0, .ref (ad (0))), (1, .int (nI (xx))), (2, .int (nI (yy))), (3, .int (nI (m))), (4, .int (nI (a))), (5, .int (nI (v))), (6, .int (nI (mo)))] [.int (nI (N 4)), .int (nI (i84))]
          refine V_icmpgeN X (by omega) (by omega) (tgt := 173) dX12_go_93 (by decide) (fun h10 => ?_) (fun h10 => ?_)
          · -- 93 true
            exact V_vret X E (by omega) (by omega) ⟨rfl, _, rfl, hJ84, hv84_1, tBs_cg (P := fun A B E => P A B E ∨ tEk xs ys ks (N 4) mo (r - 1) xx yy m a v (N 4) A B E) (fun A B E => or_congr_right (tE_end hm hr h2 b4)) (by have z := hv84_0; rw [show i84 = N 4 by omega] at z; exact z)⟩ dX12_go_173
          · -- 93 false
            refine V_aload_n X dX12_go_96 2 rfl ?_
            refine R_getf X fl_X12_25 hK (0) (rlv (by omega)) rfl rfl dX12_go_97 ?_
            refine V_iload X dX12_go_100 0 rfl ?_
            refine V_callV (rest := []) X E.room ml_X12_97 in_Jx4a65c_get_915e3 (ci := 3) rfl se_Jx4a65c_get_915e3 (rO_list hK (i := 4) (by decide)) (by omega) (by decide) (r_get hK 4 (by decide) (j := i84) (by omega) (by omega)) rfl rfl (Nat.le_of_ble_eq_true rfl) ⟨by omega, by omega⟩ dX12_go_102 (fun _ _ h => False.elim h) (fun v11 σ' hp12 => ?_)
            obtain ⟨hp12, rfl⟩ := hp12
            cases (hp12 : _ = some (Value.ref (ad (38 + (i84)))))
            show V g κ 10 (0) (0) (t, rO g ad N S G84 σ0) 105 [(8, .int (nI (i84))), (7, .int (nI (v + (xx + yy)))), (0, .ref (ad (0))), (1, .int (nI (xx))), (2, .int (nI (yy))), (3, .int (nI (m))), (4, .int (nI (a))), (5, .int (nI (v))), (6, .int (nI (mo)))] [.ref (ad (38 + (i84)))]
            refine V_cast X (C := RX11) rfl cl_X12_147 (R_recv hK (q := 38 + (i84)) (rlv (by omega)) (rCell_town (by omega))) dX12_go_105 ?_
            refine V_astore X [(9, .ref (ad (38 + (i84)))), (8, .int (nI (i84))), (7, .int (nI (v + (xx + yy)))), (0, .ref (ad (0))), (1, .int (nI (xx))), (2, .int (nI (yy))), (3, .int (nI (m))), (4, .int (nI (a))), (5, .int (nI (v))), (6, .int (nI (mo)))] dX12_go_108 (by decide) rfl ?_
            refine V_iload_n X dX12_go_110 6 rfl ?_
            refine V_iload X dX12_go_111 1 rfl ?_
            refine V_callS (rest := []) X E.room ml_X12_159 st_X12_isIn (by omega) (by decide) (k_X12_isIn (σ := (t, rO g ad N S G84 σ0)) (nI (m)) (nI (i84))) rfl rfl (Nat.le_of_ble_eq_true rfl) ⟨by omega, by omega⟩ dX12_go_113 (fun _ _ h => False.elim h) (fun v113 σ' hp113 => ?_)
            obtain ⟨hp113, rfl⟩ := hp113
            rcases hp113 with ⟨rfl, z13⟩ | ⟨rfl, z13⟩
            · -- yes
              show V g κ 10 (0) (0) (t, rO g ad N S G84 σ0) 116 [(9, .ref (ad (38 + (i84)))), (8, .int (nI (i84))), (7, .int (nI (v + (xx + yy)))), (0, .ref (ad (0))), (1, .int (nI (xx))), (2, .int (nI (yy))), (3, .int (nI (m))), (4, .int (nI (a))), (5, .int (nI (v))), (6, .int (nI (mo)))] [.int (nI (1))]
              refine V_ifneN X (by omega) (tgt := 167) dX12_go_116 (by decide) (fun h14 => ?_) (fun h14 => absurd h14 (by omega))
              refine V_iinc X (nI (i84 + 1)) [(8, .int (nI (i84 + 1))), (9, .ref (ad (38 + (i84)))), (7, .int (nI (v + (xx + yy)))), (0, .ref (ad (0))), (1, .int (nI (xx))), (2, .int (nI (yy))), (3, .int (nI (m))), (4, .int (nI (a))), (5, .int (nI (v))), (6, .int (nI (mo)))] dX12_go_167 1 rfl (zinc _) (by decide) rfl ?_
              refine V_goto (tgt := 84) X dX12_go_170 (by decide) ?_
              exact V.sub [0, 2, 3, 4, 5, 6, 7, 8, 9] rfl (ih84 _ (by omega) (i84 + 1) G84 rfl (by omega) hJ84 (tBs_cg (fun A B E => or_congr_right (tEk_skip ((zIn_nat (by omega) (by omega)).mp z13))) hv84_0) (hv84_1))
            · -- no
              have hbit : m.testBit i84 = false := by cases hb : m.testBit i84 with | true => exact absurd ((zIn_nat (by omega) (by omega)).mpr hb) z13 | false => rfl
              have hor := zpc_or m hm i84 (by omega) hbit
              have ho5 := zpc_5 m hm
              have hlt5 : m ||| 2 ^ i84 < 32 := zor (n := 5) hm (by omega)
              have hr1 := zpc_5 _ hlt5
              show V g κ 10 (0) (0) (t, rO g ad N S G84 σ0) 116 [(9, .ref (ad (38 + (i84)))), (8, .int (nI (i84))), (7, .int (nI (v + (xx + yy)))), (0, .ref (ad (0))), (1, .int (nI (xx))), (2, .int (nI (yy))), (3, .int (nI (m))), (4, .int (nI (a))), (5, .int (nI (v))), (6, .int (nI (mo)))] [.int (nI (0))]
              refine V_ifneN X (by omega) (tgt := 167) dX12_go_116 (by decide) (fun h15 => absurd h15 (by omega)) (fun h15 => ?_)
              refine V_aload_n X dX12_go_119 3 rfl ?_
              refine V_aload X dX12_go_120 0 rfl ?_
              have hJz := hJ0.trans (hJ84 : rJ F G84)
              refine R_getfN (z := nI (xs i84)) X fl_X12_150 hK (38 + (i84)) (rlv (by omega)) (rCell_town (by omega)) rfl ((hJz (38 + (i84)) 0 (rsc_f (by omega))).trans (hC.2.2 (i84) (by omega)).1) dX12_go_122 ?_
              refine V_aload X dX12_go_125 0 rfl ?_
              refine R_getfN (z := nI (ys i84)) X fl_X12_153 hK (38 + (i84)) (rlv (by omega)) (rCell_town (by omega)) rfl ((hJz (38 + (i84)) 1 (rsc_f (by omega))).trans (hC.2.2 (i84) (by omega)).2.1) dX12_go_127 ?_
              refine V_iload_n X dX12_go_130 6 rfl ?_
              refine V_iconst (v := nI 1) X dX12_go_131 (by decide) ?_
              refine V_iload X dX12_go_132 1 rfl ?_
              refine V_ishl1 X (by omega) dX12_go_134 ?_
              refine V_iorN X dX12_go_135 ?_
              refine V_iload X dX12_go_136 7 rfl ?_
              refine V_aload X dX12_go_138 0 rfl ?_
              refine R_getfN (z := nI (ks i84)) X fl_X12_156 hK (38 + (i84)) (rlv (by omega)) (rCell_town (by omega)) rfl ((hJz (38 + (i84)) 2 (rsc_f (by omega))).trans (hC.2.2 (i84) (by omega)).2.2.1) dX12_go_140 ?_
              refine V_iaddN X dX12_go_143 ?_
              refine V_iload X dX12_go_144 8 rfl ?_
              refine V_iload_n X dX12_go_146 4 rfl ?_
              refine V_iload_n X dX12_go_147 5 rfl ?_
              refine V_aload X dX12_go_148 0 rfl ?_
              refine R_getfN (z := nI (xs i84)) X fl_X12_150 hK (38 + (i84)) (rlv (by omega)) (rCell_town (by omega)) rfl ((hJz (38 + (i84)) 0 (rsc_f (by omega))).trans (hC.2.2 (i84) (by omega)).1) dX12_go_150 ?_
              refine V_aload X dX12_go_153 0 rfl ?_
              refine R_getfN (z := nI (ys i84)) X fl_X12_153 hK (38 + (i84)) (rlv (by omega)) (rCell_town (by omega)) rfl ((hJz (38 + (i84)) 1 (rsc_f (by omega))).trans (hC.2.2 (i84) (by omega)).2.1) dX12_go_155 ?_
              refine V_callS (rest := [.int (nI (v)), .int (nI (a + ks i84)), .int (nI ((m) ||| (2 ^ (i84)))), .int (nI (ys i84)), .int (nI (xs i84)), .ref (ad (0))]) X E.room ml_X12_241 st_X12_miles (by omega) (by decide) (k_X12_miles (σ := (t, rO g ad N S G84 σ0)) (nI (xx)) (nI (yy)) (nI (xs i84)) (nI (ys i84))) rfl rfl (Nat.le_of_ble_eq_true rfl) ⟨by omega, by omega⟩ dX12_go_158 (fun _ _ h => False.elim h) (fun v158 σ' hp158 => ?_)
              obtain ⟨⟨w16, rfl, fw16⟩, rfl⟩ := hp158
              rw [tab99 (xx) (Nat.lt_succ_of_le hx) (xs i84) (Nat.lt_succ_of_le (hC.1 _)), tab99 (yy) (Nat.lt_succ_of_le hy) (ys i84) (Nat.lt_succ_of_le (hC.2.1 _)), nI_add] at fw16
              subst fw16
              show V g κ 10 (0) (0) (t, rO g ad N S G84 σ0) 161 [(9, .ref (ad (38 + (i84)))), (8, .int (nI (i84))), (7, .int (nI (v + (xx + yy)))), (0, .ref (ad (0))), (1, .int (nI (xx))), (2, .int (nI (yy))), (3, .int (nI (m))), (4, .int (nI (a))), (5, .int (nI (v))), (6, .int (nI (mo)))] [.int (nI ((((xx - xs i84) + (xs i84 - xx)) + ((yy - ys i84) + (ys i84 - yy))))), .int (nI (v)), .int (nI (a + ks i84)), .int (nI ((m) ||| (2 ^ (i84)))), .int (nI (ys i84)), .int (nI (xs i84)), .ref (ad (0))]
              refine V_iaddN X dX12_go_161 ?_
              refine V_iload X dX12_go_162 9 rfl ?_
              refine V_callV (rest := []) X E.room ml_X12_254 in_X12_go (ci := 16) rfl se_X12_go (R_recv hK (q := 0) (rlv (by omega)) rfl) (by omega) (by decide) (ihr (r - 1) (by omega) (hI.mv hJ84) hJz (m ||| 2 ^ i84) hlt5 (by omega) (xs i84) (ys i84) (a + ks i84) (v + (((xx - xs i84) + (xs i84 - xx)) + ((yy - ys i84) + (ys i84 - yy)))) (hC.1 _) (hC.2.1 _) (by rw [hor]; have := (hC.2.2 i84 (by omega)).2.2.2; omega) (by rw [hor]; have := hC.1 i84; have := hC.2.1 i84; omega) (fun A B E => P A B E ∨ tEk xs ys ks (N 4) mo (r - 1) xx yy m a v i84 A B E) hv84_0) rfl rfl (Nat.le_of_ble_eq_true rfl) ⟨by omega, by omega⟩ dX12_go_164 (fun _ _ h => False.elim h) (fun v164 σ' hp164 => ?_)
              obtain ⟨rfl, F17, rfl, hKF17, hZF17, hLF17⟩ := hp164
              have hJF17 : rJ F F17 := (hJ84 : rJ F G84).trans hKF17
              show V g κ 10 (0) (0) (t, rO g ad N S F17 σ0) 167 [(9, .ref (ad (38 + (i84)))), (8, .int (nI (i84))), (7, .int (nI (v + (xx + yy)))), (0, .ref (ad (0))), (1, .int (nI (xx))), (2, .int (nI (yy))), (3, .int (nI (m))), (4, .int (nI (a))), (5, .int (nI (v))), (6, .int (nI (mo)))] []
              refine V_iinc X (nI (i84 + 1)) [(8, .int (nI (i84 + 1))), (9, .ref (ad (38 + (i84)))), (7, .int (nI (v + (xx + yy)))), (0, .ref (ad (0))), (1, .int (nI (xx))), (2, .int (nI (yy))), (3, .int (nI (m))), (4, .int (nI (a))), (5, .int (nI (v))), (6, .int (nI (mo)))] dX12_go_167 1 rfl (zinc _) (by decide) rfl ?_
              refine V_goto (tgt := 84) X dX12_go_170 (by decide) ?_
              exact V.sub [0, 2, 3, 4, 5, 6, 7, 8, 9] rfl (ih84 _ (by omega) (i84 + 1) F17 rfl (by omega) hJF17 (tBs_cg (fun A B E => tEk_step hbit) hLF17) (hZF17.trans hv84_1))
      exact L84 _ (0) F7 rfl (by omega) hJF7 (tBs_go1 hl hF5 hF6 hF7 (by omega) (by omega) (by omega) (Or.inl (by rw [← ex3]; exact h4))) (by rw [hF7, fset_ne (by omega), hF6, fset_ne (by omega), hF5, fset_ne (by omega)])
    · -- 26 false
      refine V_iload X dX12_go_29 5 rfl ?_
      refine V_aload_n X dX12_go_31 1 rfl ?_
      refine R_getf X fl_X12_245 hK (0) (rlv (by omega)) rfl rfl dX12_go_32 (V.topi (fun x18 ex18 => ?_))
      refine V_icmpne X (tgt := 81) dX12_go_35 (by decide) (fun h19 => ?_) (fun h19 => ?_)
      · -- 35 true
        refine V_iconst (v := nI 0) X dX12_go_81 (by decide) ?_
        refine V_istore X [(8, .int (nI (0))), (7, .int (nI (v + (xx + yy)))), (0, .ref (ad (0))), (1, .int (nI (xx))), (2, .int (nI (yy))), (3, .int (nI (m))), (4, .int (nI (a))), (5, .int (nI (v))), (6, .int (nI (mo)))] dX12_go_82 (by decide) rfl ?_
        have L84 : ∀ (n84 : Nat) (i84 : Nat) (G84 : Nat → Nat → Int32), n84 = N 4 - i84 → i84 ≤ N 4 → rJ F G84 → (tBs (fun A B E => P A B E ∨ tEk xs ys ks (N 4) mo (r - 1) xx yy m a v i84 A B E) (G84 0 16) (G84 0 17) (G84 0 18)) → (G84 0 0 = F 0 0) → V g κ 10 (0) (0) (t, rO g ad N S G84 σ0) 84 [(8, .int (nI (i84))), (7, .int (nI (v + (xx + yy)))), (0, .ref (ad (0))), (1, .int (nI (xx))), (2, .int (nI (yy))), (3, .int (nI (m))), (4, .int (nI (a))), (5, .int (nI (v))), (6, .int (nI (mo)))] [] := by
          intro n84
          induction n84 using Nat.strongRecOn with
          | ind n84 ih84 =>
            intro i84 G84 hn84 hi84 hJ84 hv84_0 hv84_1
            refine V_iload X dX12_go_84 0 rfl ?_
            refine V_aload_n X dX12_go_86 2 rfl ?_
            refine R_getf X fl_X12_25 hK (0) (rlv (by omega)) rfl rfl dX12_go_87 ?_
            refine V_callV (rest := [.int (nI (i84))]) X E.room ml_X12_42 in_Jx4a65c_size_8abf5 (ci := 3) rfl se_Jx4a65c_size_8abf5 (rO_list hK (i := 4) (by decide)) (by omega) (by decide) (r_size hK 4 (by decide)) rfl rfl (Nat.le_of_ble_eq_true rfl) ⟨by omega, by omega⟩ dX12_go_90 (fun _ _ h => False.elim h) (fun v20 σ' hp21 => ?_)
            obtain ⟨hp21, rfl⟩ := hp21
            cases (hp21 : _ = some (Value.int (nI (N 4))))
            show V g κ 10 (0) (0) (t, rO g ad N S G84 σ0) 93 [(8, .int (nI (i84))), (7, .int (nI (v + (xx + yy)))), (0, .ref (ad (0))), (1, .int (nI (xx))), (2, .int (nI (yy))), (3, .int (nI (m))), (4, .int (nI (a))), (5, .int (nI (v))), (6, .int (nI (mo)))] [.int (nI (N 4)), .int (nI (i84))]
            refine V_icmpgeN X (by omega) (by omega) (tgt := 173) dX12_go_93 (by decide) (fun h22 => ?_) (fun h22 => ?_)
            · -- 93 true
              exact V_vret X E (by omega) (by omega) ⟨rfl, _, rfl, hJ84, hv84_1, tBs_cg (P := fun A B E => P A B E ∨ tEk xs ys ks (N 4) mo (r - 1) xx yy m a v (N 4) A B E) (fun A B E => or_congr_right (tE_end hm hr h2 b4)) (by have z := hv84_0; rw [show i84 = N 4 by omega] at z; exact z)⟩ dX12_go_173
            · -- 93 false
              refine V_aload_n X dX12_go_96 2 rfl ?_
              refine R_getf X fl_X12_25 hK (0) (rlv (by omega)) rfl rfl dX12_go_97 ?_
              refine V_iload X dX12_go_100 0 rfl ?_
              refine V_callV (rest := []) X E.room ml_X12_97 in_Jx4a65c_get_915e3 (ci := 3) rfl se_Jx4a65c_get_915e3 (rO_list hK (i := 4) (by decide)) (by omega) (by decide) (r_get hK 4 (by decide) (j := i84) (by omega) (by omega)) rfl rfl (Nat.le_of_ble_eq_true rfl) ⟨by omega, by omega⟩ dX12_go_102 (fun _ _ h => False.elim h) (fun v23 σ' hp24 => ?_)
              obtain ⟨hp24, rfl⟩ := hp24
              cases (hp24 : _ = some (Value.ref (ad (38 + (i84)))))
              show V g κ 10 (0) (0) (t, rO g ad N S G84 σ0) 105 [(8, .int (nI (i84))), (7, .int (nI (v + (xx + yy)))), (0, .ref (ad (0))), (1, .int (nI (xx))), (2, .int (nI (yy))), (3, .int (nI (m))), (4, .int (nI (a))), (5, .int (nI (v))), (6, .int (nI (mo)))] [.ref (ad (38 + (i84)))]
              refine V_cast X (C := RX11) rfl cl_X12_147 (R_recv hK (q := 38 + (i84)) (rlv (by omega)) (rCell_town (by omega))) dX12_go_105 ?_
              refine V_astore X [(9, .ref (ad (38 + (i84)))), (8, .int (nI (i84))), (7, .int (nI (v + (xx + yy)))), (0, .ref (ad (0))), (1, .int (nI (xx))), (2, .int (nI (yy))), (3, .int (nI (m))), (4, .int (nI (a))), (5, .int (nI (v))), (6, .int (nI (mo)))] dX12_go_108 (by decide) rfl ?_
              refine V_iload_n X dX12_go_110 6 rfl ?_
              refine V_iload X dX12_go_111 1 rfl ?_
              refine V_callS (rest := []) X E.room ml_X12_159 st_X12_isIn (by omega) (by decide) (k_X12_isIn (σ := (t, rO g ad N S G84 σ0)) (nI (m)) (nI (i84))) rfl rfl (Nat.le_of_ble_eq_true rfl) ⟨by omega, by omega⟩ dX12_go_113 (fun _ _ h => False.elim h) (fun v113 σ' hp113 => ?_)
              obtain ⟨hp113, rfl⟩ := hp113
              rcases hp113 with ⟨rfl, z25⟩ | ⟨rfl, z25⟩
              · -- yes
                show V g κ 10 (0) (0) (t, rO g ad N S G84 σ0) 116 [(9, .ref (ad (38 + (i84)))), (8, .int (nI (i84))), (7, .int (nI (v + (xx + yy)))), (0, .ref (ad (0))), (1, .int (nI (xx))), (2, .int (nI (yy))), (3, .int (nI (m))), (4, .int (nI (a))), (5, .int (nI (v))), (6, .int (nI (mo)))] [.int (nI (1))]
                refine V_ifneN X (by omega) (tgt := 167) dX12_go_116 (by decide) (fun h26 => ?_) (fun h26 => absurd h26 (by omega))
                refine V_iinc X (nI (i84 + 1)) [(8, .int (nI (i84 + 1))), (9, .ref (ad (38 + (i84)))), (7, .int (nI (v + (xx + yy)))), (0, .ref (ad (0))), (1, .int (nI (xx))), (2, .int (nI (yy))), (3, .int (nI (m))), (4, .int (nI (a))), (5, .int (nI (v))), (6, .int (nI (mo)))] dX12_go_167 1 rfl (zinc _) (by decide) rfl ?_
                refine V_goto (tgt := 84) X dX12_go_170 (by decide) ?_
                exact V.sub [0, 2, 3, 4, 5, 6, 7, 8, 9] rfl (ih84 _ (by omega) (i84 + 1) G84 rfl (by omega) hJ84 (tBs_cg (fun A B E => or_congr_right (tEk_skip ((zIn_nat (by omega) (by omega)).mp z25))) hv84_0) (hv84_1))
              · -- no
                have hbit : m.testBit i84 = false := by cases hb : m.testBit i84 with | true => exact absurd ((zIn_nat (by omega) (by omega)).mpr hb) z25 | false => rfl
                have hor := zpc_or m hm i84 (by omega) hbit
                have ho5 := zpc_5 m hm
                have hlt5 : m ||| 2 ^ i84 < 32 := zor (n := 5) hm (by omega)
                have hr1 := zpc_5 _ hlt5
                show V g κ 10 (0) (0) (t, rO g ad N S G84 σ0) 116 [(9, .ref (ad (38 + (i84)))), (8, .int (nI (i84))), (7, .int (nI (v + (xx + yy)))), (0, .ref (ad (0))), (1, .int (nI (xx))), (2, .int (nI (yy))), (3, .int (nI (m))), (4, .int (nI (a))), (5, .int (nI (v))), (6, .int (nI (mo)))] [.int (nI (0))]
                refine V_ifneN X (by omega) (tgt := 167) dX12_go_116 (by decide) (fun h27 => absurd h27 (by omega)) (fun h27 => ?_)
                refine V_aload_n X dX12_go_119 3 rfl ?_
                refine V_aload X dX12_go_120 0 rfl ?_
                have hJz := hJ0.trans (hJ84 : rJ F G84)
                refine R_getfN (z := nI (xs i84)) X fl_X12_150 hK (38 + (i84)) (rlv (by omega)) (rCell_town (by omega)) rfl ((hJz (38 + (i84)) 0 (rsc_f (by omega))).trans (hC.2.2 (i84) (by omega)).1) dX12_go_122 ?_
                refine V_aload X dX12_go_125 0 rfl ?_
                refine R_getfN (z := nI (ys i84)) X fl_X12_153 hK (38 + (i84)) (rlv (by omega)) (rCell_town (by omega)) rfl ((hJz (38 + (i84)) 1 (rsc_f (by omega))).trans (hC.2.2 (i84) (by omega)).2.1) dX12_go_127 ?_
                refine V_iload_n X dX12_go_130 6 rfl ?_
                refine V_iconst (v := nI 1) X dX12_go_131 (by decide) ?_
                refine V_iload X dX12_go_132 1 rfl ?_
                refine V_ishl1 X (by omega) dX12_go_134 ?_
                refine V_iorN X dX12_go_135 ?_
                refine V_iload X dX12_go_136 7 rfl ?_
                refine V_aload X dX12_go_138 0 rfl ?_
                refine R_getfN (z := nI (ks i84)) X fl_X12_156 hK (38 + (i84)) (rlv (by omega)) (rCell_town (by omega)) rfl ((hJz (38 + (i84)) 2 (rsc_f (by omega))).trans (hC.2.2 (i84) (by omega)).2.2.1) dX12_go_140 ?_
                refine V_iaddN X dX12_go_143 ?_
                refine V_iload X dX12_go_144 8 rfl ?_
                refine V_iload_n X dX12_go_146 4 rfl ?_
                refine V_iload_n X dX12_go_147 5 rfl ?_
                refine V_aload X dX12_go_148 0 rfl ?_
                refine R_getfN (z := nI (xs i84)) X fl_X12_150 hK (38 + (i84)) (rlv (by omega)) (rCell_town (by omega)) rfl ((hJz (38 + (i84)) 0 (rsc_f (by omega))).trans (hC.2.2 (i84) (by omega)).1) dX12_go_150 ?_
                refine V_aload X dX12_go_153 0 rfl ?_
                refine R_getfN (z := nI (ys i84)) X fl_X12_153 hK (38 + (i84)) (rlv (by omega)) (rCell_town (by omega)) rfl ((hJz (38 + (i84)) 1 (rsc_f (by omega))).trans (hC.2.2 (i84) (by omega)).2.1) dX12_go_155 ?_
                refine V_callS (rest := [.int (nI (v)), .int (nI (a + ks i84)), .int (nI ((m) ||| (2 ^ (i84)))), .int (nI (ys i84)), .int (nI (xs i84)), .ref (ad (0))]) X E.room ml_X12_241 st_X12_miles (by omega) (by decide) (k_X12_miles (σ := (t, rO g ad N S G84 σ0)) (nI (xx)) (nI (yy)) (nI (xs i84)) (nI (ys i84))) rfl rfl (Nat.le_of_ble_eq_true rfl) ⟨by omega, by omega⟩ dX12_go_158 (fun _ _ h => False.elim h) (fun v158 σ' hp158 => ?_)
                obtain ⟨⟨w28, rfl, fw28⟩, rfl⟩ := hp158
                rw [tab99 (xx) (Nat.lt_succ_of_le hx) (xs i84) (Nat.lt_succ_of_le (hC.1 _)), tab99 (yy) (Nat.lt_succ_of_le hy) (ys i84) (Nat.lt_succ_of_le (hC.2.1 _)), nI_add] at fw28
                subst fw28
                show V g κ 10 (0) (0) (t, rO g ad N S G84 σ0) 161 [(9, .ref (ad (38 + (i84)))), (8, .int (nI (i84))), (7, .int (nI (v + (xx + yy)))), (0, .ref (ad (0))), (1, .int (nI (xx))), (2, .int (nI (yy))), (3, .int (nI (m))), (4, .int (nI (a))), (5, .int (nI (v))), (6, .int (nI (mo)))] [.int (nI ((((xx - xs i84) + (xs i84 - xx)) + ((yy - ys i84) + (ys i84 - yy))))), .int (nI (v)), .int (nI (a + ks i84)), .int (nI ((m) ||| (2 ^ (i84)))), .int (nI (ys i84)), .int (nI (xs i84)), .ref (ad (0))]
                refine V_iaddN X dX12_go_161 ?_
                refine V_iload X dX12_go_162 9 rfl ?_
                refine V_callV (rest := []) X E.room ml_X12_254 in_X12_go (ci := 16) rfl se_X12_go (R_recv hK (q := 0) (rlv (by omega)) rfl) (by omega) (by decide) (ihr (r - 1) (by omega) (hI.mv hJ84) hJz (m ||| 2 ^ i84) hlt5 (by omega) (xs i84) (ys i84) (a + ks i84) (v + (((xx - xs i84) + (xs i84 - xx)) + ((yy - ys i84) + (ys i84 - yy)))) (hC.1 _) (hC.2.1 _) (by rw [hor]; have := (hC.2.2 i84 (by omega)).2.2.2; omega) (by rw [hor]; have := hC.1 i84; have := hC.2.1 i84; omega) (fun A B E => P A B E ∨ tEk xs ys ks (N 4) mo (r - 1) xx yy m a v i84 A B E) hv84_0) rfl rfl (Nat.le_of_ble_eq_true rfl) ⟨by omega, by omega⟩ dX12_go_164 (fun _ _ h => False.elim h) (fun v164 σ' hp164 => ?_)
                obtain ⟨rfl, F29, rfl, hKF29, hZF29, hLF29⟩ := hp164
                have hJF29 : rJ F F29 := (hJ84 : rJ F G84).trans hKF29
                show V g κ 10 (0) (0) (t, rO g ad N S F29 σ0) 167 [(9, .ref (ad (38 + (i84)))), (8, .int (nI (i84))), (7, .int (nI (v + (xx + yy)))), (0, .ref (ad (0))), (1, .int (nI (xx))), (2, .int (nI (yy))), (3, .int (nI (m))), (4, .int (nI (a))), (5, .int (nI (v))), (6, .int (nI (mo)))] []
                refine V_iinc X (nI (i84 + 1)) [(8, .int (nI (i84 + 1))), (9, .ref (ad (38 + (i84)))), (7, .int (nI (v + (xx + yy)))), (0, .ref (ad (0))), (1, .int (nI (xx))), (2, .int (nI (yy))), (3, .int (nI (m))), (4, .int (nI (a))), (5, .int (nI (v))), (6, .int (nI (mo)))] dX12_go_167 1 rfl (zinc _) (by decide) rfl ?_
                refine V_goto (tgt := 84) X dX12_go_170 (by decide) ?_
                exact V.sub [0, 2, 3, 4, 5, 6, 7, 8, 9] rfl (ih84 _ (by omega) (i84 + 1) F29 rfl (by omega) hJF29 (tBs_cg (fun A B E => tEk_step hbit) hLF29) (hZF29.trans hv84_1))
        exact L84 _ (0) F rfl (by omega) rJ.rfl' (tBs_go0 hl (by omega) (by omega) (by omega) (fun q => q.elim (fun q => h4 (by rw [ex3]; exact q)) (fun q => h19 (q.1.trans ex18.symm)))) (rfl)
      · -- 35 false
        refine V_iload X dX12_go_38 0 rfl ?_
        refine V_aload_n X dX12_go_40 1 rfl ?_
        refine R_getf X fl_X12_248 hK (0) (rlv (by omega)) rfl rfl dX12_go_41 (V.topi (fun x30 ex30 => ?_))
        refine V_icmplt X (tgt := 64) dX12_go_44 (by decide) (fun h31 => ?_) (fun h31 => ?_)
        · -- 44 true
          refine V_aload_n X dX12_go_64 1 rfl ?_
          refine V_iload X dX12_go_65 5 rfl ?_
          refine R_putf X fl_X12_245 zt_X12 hK (0) (rlv (by omega)) (by omega) rfl (Nat.le_of_ble_eq_true rfl) rfl rfl rfl rfl rfl dX12_go_67 (fun F32 hF32 => ?_)
          have hJF32 := (rJ.rfl' : rJ F F).set hF32 (rsc_t (by omega))
          refine V_aload_n X dX12_go_70 1 rfl ?_
          refine V_iload X dX12_go_71 0 rfl ?_
          refine R_putf X fl_X12_248 zt_X12 hK (0) (rlv (by omega)) (by omega) rfl (Nat.le_of_ble_eq_true rfl) rfl rfl rfl rfl rfl dX12_go_73 (fun F33 hF33 => ?_)
          have hJF33 := (hJF32 : rJ F F32).set hF33 (rsc_t (by omega))
          refine V_aload_n X dX12_go_76 1 rfl ?_
          refine V_iload_n X dX12_go_77 4 rfl ?_
          refine R_putf X fl_X12_251 zt_X12 hK (0) (rlv (by omega)) (by omega) rfl (Nat.le_of_ble_eq_true rfl) rfl rfl rfl rfl rfl dX12_go_78 (fun F34 hF34 => ?_)
          have hJF34 := (hJF33 : rJ F F33).set hF34 (rsc_t (by omega))
          refine V_iconst (v := nI 0) X dX12_go_81 (by decide) ?_
          refine V_istore X [(8, .int (nI (0))), (7, .int (nI (v + (xx + yy)))), (0, .ref (ad (0))), (1, .int (nI (xx))), (2, .int (nI (yy))), (3, .int (nI (m))), (4, .int (nI (a))), (5, .int (nI (v))), (6, .int (nI (mo)))] dX12_go_82 (by decide) rfl ?_
          have L84 : ∀ (n84 : Nat) (i84 : Nat) (G84 : Nat → Nat → Int32), n84 = N 4 - i84 → i84 ≤ N 4 → rJ F G84 → (tBs (fun A B E => P A B E ∨ tEk xs ys ks (N 4) mo (r - 1) xx yy m a v i84 A B E) (G84 0 16) (G84 0 17) (G84 0 18)) → (G84 0 0 = F 0 0) → V g κ 10 (0) (0) (t, rO g ad N S G84 σ0) 84 [(8, .int (nI (i84))), (7, .int (nI (v + (xx + yy)))), (0, .ref (ad (0))), (1, .int (nI (xx))), (2, .int (nI (yy))), (3, .int (nI (m))), (4, .int (nI (a))), (5, .int (nI (v))), (6, .int (nI (mo)))] [] := by
            intro n84
            induction n84 using Nat.strongRecOn with
            | ind n84 ih84 =>
              intro i84 G84 hn84 hi84 hJ84 hv84_0 hv84_1
              refine V_iload X dX12_go_84 0 rfl ?_
              refine V_aload_n X dX12_go_86 2 rfl ?_
              refine R_getf X fl_X12_25 hK (0) (rlv (by omega)) rfl rfl dX12_go_87 ?_
              refine V_callV (rest := [.int (nI (i84))]) X E.room ml_X12_42 in_Jx4a65c_size_8abf5 (ci := 3) rfl se_Jx4a65c_size_8abf5 (rO_list hK (i := 4) (by decide)) (by omega) (by decide) (r_size hK 4 (by decide)) rfl rfl (Nat.le_of_ble_eq_true rfl) ⟨by omega, by omega⟩ dX12_go_90 (fun _ _ h => False.elim h) (fun v35 σ' hp36 => ?_)
              obtain ⟨hp36, rfl⟩ := hp36
              cases (hp36 : _ = some (Value.int (nI (N 4))))
              show V g κ 10 (0) (0) (t, rO g ad N S G84 σ0) 93 [(8, .int (nI (i84))), (7, .int (nI (v + (xx + yy)))), (0, .ref (ad (0))), (1, .int (nI (xx))), (2, .int (nI (yy))), (3, .int (nI (m))), (4, .int (nI (a))), (5, .int (nI (v))), (6, .int (nI (mo)))] [.int (nI (N 4)), .int (nI (i84))]
              refine V_icmpgeN X (by omega) (by omega) (tgt := 173) dX12_go_93 (by decide) (fun h37 => ?_) (fun h37 => ?_)
              · -- 93 true
                exact V_vret X E (by omega) (by omega) ⟨rfl, _, rfl, hJ84, hv84_1, tBs_cg (P := fun A B E => P A B E ∨ tEk xs ys ks (N 4) mo (r - 1) xx yy m a v (N 4) A B E) (fun A B E => or_congr_right (tE_end hm hr h2 b4)) (by have z := hv84_0; rw [show i84 = N 4 by omega] at z; exact z)⟩ dX12_go_173
              · -- 93 false
                refine V_aload_n X dX12_go_96 2 rfl ?_
                refine R_getf X fl_X12_25 hK (0) (rlv (by omega)) rfl rfl dX12_go_97 ?_
                refine V_iload X dX12_go_100 0 rfl ?_
                refine V_callV (rest := []) X E.room ml_X12_97 in_Jx4a65c_get_915e3 (ci := 3) rfl se_Jx4a65c_get_915e3 (rO_list hK (i := 4) (by decide)) (by omega) (by decide) (r_get hK 4 (by decide) (j := i84) (by omega) (by omega)) rfl rfl (Nat.le_of_ble_eq_true rfl) ⟨by omega, by omega⟩ dX12_go_102 (fun _ _ h => False.elim h) (fun v38 σ' hp39 => ?_)
                obtain ⟨hp39, rfl⟩ := hp39
                cases (hp39 : _ = some (Value.ref (ad (38 + (i84)))))
                show V g κ 10 (0) (0) (t, rO g ad N S G84 σ0) 105 [(8, .int (nI (i84))), (7, .int (nI (v + (xx + yy)))), (0, .ref (ad (0))), (1, .int (nI (xx))), (2, .int (nI (yy))), (3, .int (nI (m))), (4, .int (nI (a))), (5, .int (nI (v))), (6, .int (nI (mo)))] [.ref (ad (38 + (i84)))]
                refine V_cast X (C := RX11) rfl cl_X12_147 (R_recv hK (q := 38 + (i84)) (rlv (by omega)) (rCell_town (by omega))) dX12_go_105 ?_
                refine V_astore X [(9, .ref (ad (38 + (i84)))), (8, .int (nI (i84))), (7, .int (nI (v + (xx + yy)))), (0, .ref (ad (0))), (1, .int (nI (xx))), (2, .int (nI (yy))), (3, .int (nI (m))), (4, .int (nI (a))), (5, .int (nI (v))), (6, .int (nI (mo)))] dX12_go_108 (by decide) rfl ?_
                refine V_iload_n X dX12_go_110 6 rfl ?_
                refine V_iload X dX12_go_111 1 rfl ?_
                refine V_callS (rest := []) X E.room ml_X12_159 st_X12_isIn (by omega) (by decide) (k_X12_isIn (σ := (t, rO g ad N S G84 σ0)) (nI (m)) (nI (i84))) rfl rfl (Nat.le_of_ble_eq_true rfl) ⟨by omega, by omega⟩ dX12_go_113 (fun _ _ h => False.elim h) (fun v113 σ' hp113 => ?_)
                obtain ⟨hp113, rfl⟩ := hp113
                rcases hp113 with ⟨rfl, z40⟩ | ⟨rfl, z40⟩
                · -- yes
                  show V g κ 10 (0) (0) (t, rO g ad N S G84 σ0) 116 [(9, .ref (ad (38 + (i84)))), (8, .int (nI (i84))), (7, .int (nI (v + (xx + yy)))), (0, .ref (ad (0))), (1, .int (nI (xx))), (2, .int (nI (yy))), (3, .int (nI (m))), (4, .int (nI (a))), (5, .int (nI (v))), (6, .int (nI (mo)))] [.int (nI (1))]
                  refine V_ifneN X (by omega) (tgt := 167) dX12_go_116 (by decide) (fun h41 => ?_) (fun h41 => absurd h41 (by omega))
                  refine V_iinc X (nI (i84 + 1)) [(8, .int (nI (i84 + 1))), (9, .ref (ad (38 + (i84)))), (7, .int (nI (v + (xx + yy)))), (0, .ref (ad (0))), (1, .int (nI (xx))), (2, .int (nI (yy))), (3, .int (nI (m))), (4, .int (nI (a))), (5, .int (nI (v))), (6, .int (nI (mo)))] dX12_go_167 1 rfl (zinc _) (by decide) rfl ?_
                  refine V_goto (tgt := 84) X dX12_go_170 (by decide) ?_
                  exact V.sub [0, 2, 3, 4, 5, 6, 7, 8, 9] rfl (ih84 _ (by omega) (i84 + 1) G84 rfl (by omega) hJ84 (tBs_cg (fun A B E => or_congr_right (tEk_skip ((zIn_nat (by omega) (by omega)).mp z40))) hv84_0) (hv84_1))
                · -- no
                  have hbit : m.testBit i84 = false := by cases hb : m.testBit i84 with | true => exact absurd ((zIn_nat (by omega) (by omega)).mpr hb) z40 | false => rfl
                  have hor := zpc_or m hm i84 (by omega) hbit
                  have ho5 := zpc_5 m hm
                  have hlt5 : m ||| 2 ^ i84 < 32 := zor (n := 5) hm (by omega)
                  have hr1 := zpc_5 _ hlt5
                  show V g κ 10 (0) (0) (t, rO g ad N S G84 σ0) 116 [(9, .ref (ad (38 + (i84)))), (8, .int (nI (i84))), (7, .int (nI (v + (xx + yy)))), (0, .ref (ad (0))), (1, .int (nI (xx))), (2, .int (nI (yy))), (3, .int (nI (m))), (4, .int (nI (a))), (5, .int (nI (v))), (6, .int (nI (mo)))] [.int (nI (0))]
                  refine V_ifneN X (by omega) (tgt := 167) dX12_go_116 (by decide) (fun h42 => absurd h42 (by omega)) (fun h42 => ?_)
                  refine V_aload_n X dX12_go_119 3 rfl ?_
                  refine V_aload X dX12_go_120 0 rfl ?_
                  have hJz := hJ0.trans (hJ84 : rJ F G84)
                  refine R_getfN (z := nI (xs i84)) X fl_X12_150 hK (38 + (i84)) (rlv (by omega)) (rCell_town (by omega)) rfl ((hJz (38 + (i84)) 0 (rsc_f (by omega))).trans (hC.2.2 (i84) (by omega)).1) dX12_go_122 ?_
                  refine V_aload X dX12_go_125 0 rfl ?_
                  refine R_getfN (z := nI (ys i84)) X fl_X12_153 hK (38 + (i84)) (rlv (by omega)) (rCell_town (by omega)) rfl ((hJz (38 + (i84)) 1 (rsc_f (by omega))).trans (hC.2.2 (i84) (by omega)).2.1) dX12_go_127 ?_
                  refine V_iload_n X dX12_go_130 6 rfl ?_
                  refine V_iconst (v := nI 1) X dX12_go_131 (by decide) ?_
                  refine V_iload X dX12_go_132 1 rfl ?_
                  refine V_ishl1 X (by omega) dX12_go_134 ?_
                  refine V_iorN X dX12_go_135 ?_
                  refine V_iload X dX12_go_136 7 rfl ?_
                  refine V_aload X dX12_go_138 0 rfl ?_
                  refine R_getfN (z := nI (ks i84)) X fl_X12_156 hK (38 + (i84)) (rlv (by omega)) (rCell_town (by omega)) rfl ((hJz (38 + (i84)) 2 (rsc_f (by omega))).trans (hC.2.2 (i84) (by omega)).2.2.1) dX12_go_140 ?_
                  refine V_iaddN X dX12_go_143 ?_
                  refine V_iload X dX12_go_144 8 rfl ?_
                  refine V_iload_n X dX12_go_146 4 rfl ?_
                  refine V_iload_n X dX12_go_147 5 rfl ?_
                  refine V_aload X dX12_go_148 0 rfl ?_
                  refine R_getfN (z := nI (xs i84)) X fl_X12_150 hK (38 + (i84)) (rlv (by omega)) (rCell_town (by omega)) rfl ((hJz (38 + (i84)) 0 (rsc_f (by omega))).trans (hC.2.2 (i84) (by omega)).1) dX12_go_150 ?_
                  refine V_aload X dX12_go_153 0 rfl ?_
                  refine R_getfN (z := nI (ys i84)) X fl_X12_153 hK (38 + (i84)) (rlv (by omega)) (rCell_town (by omega)) rfl ((hJz (38 + (i84)) 1 (rsc_f (by omega))).trans (hC.2.2 (i84) (by omega)).2.1) dX12_go_155 ?_
                  refine V_callS (rest := [.int (nI (v)), .int (nI (a + ks i84)), .int (nI ((m) ||| (2 ^ (i84)))), .int (nI (ys i84)), .int (nI (xs i84)), .ref (ad (0))]) X E.room ml_X12_241 st_X12_miles (by omega) (by decide) (k_X12_miles (σ := (t, rO g ad N S G84 σ0)) (nI (xx)) (nI (yy)) (nI (xs i84)) (nI (ys i84))) rfl rfl (Nat.le_of_ble_eq_true rfl) ⟨by omega, by omega⟩ dX12_go_158 (fun _ _ h => False.elim h) (fun v158 σ' hp158 => ?_)
                  obtain ⟨⟨w43, rfl, fw43⟩, rfl⟩ := hp158
                  rw [tab99 (xx) (Nat.lt_succ_of_le hx) (xs i84) (Nat.lt_succ_of_le (hC.1 _)), tab99 (yy) (Nat.lt_succ_of_le hy) (ys i84) (Nat.lt_succ_of_le (hC.2.1 _)), nI_add] at fw43
                  subst fw43
                  show V g κ 10 (0) (0) (t, rO g ad N S G84 σ0) 161 [(9, .ref (ad (38 + (i84)))), (8, .int (nI (i84))), (7, .int (nI (v + (xx + yy)))), (0, .ref (ad (0))), (1, .int (nI (xx))), (2, .int (nI (yy))), (3, .int (nI (m))), (4, .int (nI (a))), (5, .int (nI (v))), (6, .int (nI (mo)))] [.int (nI ((((xx - xs i84) + (xs i84 - xx)) + ((yy - ys i84) + (ys i84 - yy))))), .int (nI (v)), .int (nI (a + ks i84)), .int (nI ((m) ||| (2 ^ (i84)))), .int (nI (ys i84)), .int (nI (xs i84)), .ref (ad (0))]
                  refine V_iaddN X dX12_go_161 ?_
                  refine V_iload X dX12_go_162 9 rfl ?_
                  refine V_callV (rest := []) X E.room ml_X12_254 in_X12_go (ci := 16) rfl se_X12_go (R_recv hK (q := 0) (rlv (by omega)) rfl) (by omega) (by decide) (ihr (r - 1) (by omega) (hI.mv hJ84) hJz (m ||| 2 ^ i84) hlt5 (by omega) (xs i84) (ys i84) (a + ks i84) (v + (((xx - xs i84) + (xs i84 - xx)) + ((yy - ys i84) + (ys i84 - yy)))) (hC.1 _) (hC.2.1 _) (by rw [hor]; have := (hC.2.2 i84 (by omega)).2.2.2; omega) (by rw [hor]; have := hC.1 i84; have := hC.2.1 i84; omega) (fun A B E => P A B E ∨ tEk xs ys ks (N 4) mo (r - 1) xx yy m a v i84 A B E) hv84_0) rfl rfl (Nat.le_of_ble_eq_true rfl) ⟨by omega, by omega⟩ dX12_go_164 (fun _ _ h => False.elim h) (fun v164 σ' hp164 => ?_)
                  obtain ⟨rfl, F44, rfl, hKF44, hZF44, hLF44⟩ := hp164
                  have hJF44 : rJ F F44 := (hJ84 : rJ F G84).trans hKF44
                  show V g κ 10 (0) (0) (t, rO g ad N S F44 σ0) 167 [(9, .ref (ad (38 + (i84)))), (8, .int (nI (i84))), (7, .int (nI (v + (xx + yy)))), (0, .ref (ad (0))), (1, .int (nI (xx))), (2, .int (nI (yy))), (3, .int (nI (m))), (4, .int (nI (a))), (5, .int (nI (v))), (6, .int (nI (mo)))] []
                  refine V_iinc X (nI (i84 + 1)) [(8, .int (nI (i84 + 1))), (9, .ref (ad (38 + (i84)))), (7, .int (nI (v + (xx + yy)))), (0, .ref (ad (0))), (1, .int (nI (xx))), (2, .int (nI (yy))), (3, .int (nI (m))), (4, .int (nI (a))), (5, .int (nI (v))), (6, .int (nI (mo)))] dX12_go_167 1 rfl (zinc _) (by decide) rfl ?_
                  refine V_goto (tgt := 84) X dX12_go_170 (by decide) ?_
                  exact V.sub [0, 2, 3, 4, 5, 6, 7, 8, 9] rfl (ih84 _ (by omega) (i84 + 1) F44 rfl (by omega) hJF44 (tBs_cg (fun A B E => tEk_step hbit) hLF44) (hZF44.trans hv84_1))
          exact L84 _ (0) F34 rfl (by omega) hJF34 (tBs_go1 hl hF32 hF33 hF34 (by omega) (by omega) (by omega) (Or.inr ⟨h19.trans ex18, Or.inl (by rw [← ex30]; exact h31)⟩)) (by rw [hF34, fset_ne (by omega), hF33, fset_ne (by omega), hF32, fset_ne (by omega)])
        · -- 44 false
          refine V_iload X dX12_go_47 0 rfl ?_
          refine V_aload_n X dX12_go_49 1 rfl ?_
          refine R_getf X fl_X12_248 hK (0) (rlv (by omega)) rfl rfl dX12_go_50 (V.topi (fun x45 ex45 => ?_))
          refine V_icmpne X (tgt := 81) dX12_go_53 (by decide) (fun h46 => ?_) (fun h46 => ?_)
          · -- 53 true
            refine V_iconst (v := nI 0) X dX12_go_81 (by decide) ?_
            refine V_istore X [(8, .int (nI (0))), (7, .int (nI (v + (xx + yy)))), (0, .ref (ad (0))), (1, .int (nI (xx))), (2, .int (nI (yy))), (3, .int (nI (m))), (4, .int (nI (a))), (5, .int (nI (v))), (6, .int (nI (mo)))] dX12_go_82 (by decide) rfl ?_
            have L84 : ∀ (n84 : Nat) (i84 : Nat) (G84 : Nat → Nat → Int32), n84 = N 4 - i84 → i84 ≤ N 4 → rJ F G84 → (tBs (fun A B E => P A B E ∨ tEk xs ys ks (N 4) mo (r - 1) xx yy m a v i84 A B E) (G84 0 16) (G84 0 17) (G84 0 18)) → (G84 0 0 = F 0 0) → V g κ 10 (0) (0) (t, rO g ad N S G84 σ0) 84 [(8, .int (nI (i84))), (7, .int (nI (v + (xx + yy)))), (0, .ref (ad (0))), (1, .int (nI (xx))), (2, .int (nI (yy))), (3, .int (nI (m))), (4, .int (nI (a))), (5, .int (nI (v))), (6, .int (nI (mo)))] [] := by
              intro n84
              induction n84 using Nat.strongRecOn with
              | ind n84 ih84 =>
                intro i84 G84 hn84 hi84 hJ84 hv84_0 hv84_1
                refine V_iload X dX12_go_84 0 rfl ?_
                refine V_aload_n X dX12_go_86 2 rfl ?_
                refine R_getf X fl_X12_25 hK (0) (rlv (by omega)) rfl rfl dX12_go_87 ?_
                refine V_callV (rest := [.int (nI (i84))]) X E.room ml_X12_42 in_Jx4a65c_size_8abf5 (ci := 3) rfl se_Jx4a65c_size_8abf5 (rO_list hK (i := 4) (by decide)) (by omega) (by decide) (r_size hK 4 (by decide)) rfl rfl (Nat.le_of_ble_eq_true rfl) ⟨by omega, by omega⟩ dX12_go_90 (fun _ _ h => False.elim h) (fun v47 σ' hp48 => ?_)
                obtain ⟨hp48, rfl⟩ := hp48
                cases (hp48 : _ = some (Value.int (nI (N 4))))
                show V g κ 10 (0) (0) (t, rO g ad N S G84 σ0) 93 [(8, .int (nI (i84))), (7, .int (nI (v + (xx + yy)))), (0, .ref (ad (0))), (1, .int (nI (xx))), (2, .int (nI (yy))), (3, .int (nI (m))), (4, .int (nI (a))), (5, .int (nI (v))), (6, .int (nI (mo)))] [.int (nI (N 4)), .int (nI (i84))]
                refine V_icmpgeN X (by omega) (by omega) (tgt := 173) dX12_go_93 (by decide) (fun h49 => ?_) (fun h49 => ?_)
                · -- 93 true
                  exact V_vret X E (by omega) (by omega) ⟨rfl, _, rfl, hJ84, hv84_1, tBs_cg (P := fun A B E => P A B E ∨ tEk xs ys ks (N 4) mo (r - 1) xx yy m a v (N 4) A B E) (fun A B E => or_congr_right (tE_end hm hr h2 b4)) (by have z := hv84_0; rw [show i84 = N 4 by omega] at z; exact z)⟩ dX12_go_173
                · -- 93 false
                  refine V_aload_n X dX12_go_96 2 rfl ?_
                  refine R_getf X fl_X12_25 hK (0) (rlv (by omega)) rfl rfl dX12_go_97 ?_
                  refine V_iload X dX12_go_100 0 rfl ?_
                  refine V_callV (rest := []) X E.room ml_X12_97 in_Jx4a65c_get_915e3 (ci := 3) rfl se_Jx4a65c_get_915e3 (rO_list hK (i := 4) (by decide)) (by omega) (by decide) (r_get hK 4 (by decide) (j := i84) (by omega) (by omega)) rfl rfl (Nat.le_of_ble_eq_true rfl) ⟨by omega, by omega⟩ dX12_go_102 (fun _ _ h => False.elim h) (fun v50 σ' hp51 => ?_)
                  obtain ⟨hp51, rfl⟩ := hp51
                  cases (hp51 : _ = some (Value.ref (ad (38 + (i84)))))
                  show V g κ 10 (0) (0) (t, rO g ad N S G84 σ0) 105 [(8, .int (nI (i84))), (7, .int (nI (v + (xx + yy)))), (0, .ref (ad (0))), (1, .int (nI (xx))), (2, .int (nI (yy))), (3, .int (nI (m))), (4, .int (nI (a))), (5, .int (nI (v))), (6, .int (nI (mo)))] [.ref (ad (38 + (i84)))]
                  refine V_cast X (C := RX11) rfl cl_X12_147 (R_recv hK (q := 38 + (i84)) (rlv (by omega)) (rCell_town (by omega))) dX12_go_105 ?_
                  refine V_astore X [(9, .ref (ad (38 + (i84)))), (8, .int (nI (i84))), (7, .int (nI (v + (xx + yy)))), (0, .ref (ad (0))), (1, .int (nI (xx))), (2, .int (nI (yy))), (3, .int (nI (m))), (4, .int (nI (a))), (5, .int (nI (v))), (6, .int (nI (mo)))] dX12_go_108 (by decide) rfl ?_
                  refine V_iload_n X dX12_go_110 6 rfl ?_
                  refine V_iload X dX12_go_111 1 rfl ?_
                  refine V_callS (rest := []) X E.room ml_X12_159 st_X12_isIn (by omega) (by decide) (k_X12_isIn (σ := (t, rO g ad N S G84 σ0)) (nI (m)) (nI (i84))) rfl rfl (Nat.le_of_ble_eq_true rfl) ⟨by omega, by omega⟩ dX12_go_113 (fun _ _ h => False.elim h) (fun v113 σ' hp113 => ?_)
                  obtain ⟨hp113, rfl⟩ := hp113
                  rcases hp113 with ⟨rfl, z52⟩ | ⟨rfl, z52⟩
                  · -- yes
                    show V g κ 10 (0) (0) (t, rO g ad N S G84 σ0) 116 [(9, .ref (ad (38 + (i84)))), (8, .int (nI (i84))), (7, .int (nI (v + (xx + yy)))), (0, .ref (ad (0))), (1, .int (nI (xx))), (2, .int (nI (yy))), (3, .int (nI (m))), (4, .int (nI (a))), (5, .int (nI (v))), (6, .int (nI (mo)))] [.int (nI (1))]
                    refine V_ifneN X (by omega) (tgt := 167) dX12_go_116 (by decide) (fun h53 => ?_) (fun h53 => absurd h53 (by omega))
                    refine V_iinc X (nI (i84 + 1)) [(8, .int (nI (i84 + 1))), (9, .ref (ad (38 + (i84)))), (7, .int (nI (v + (xx + yy)))), (0, .ref (ad (0))), (1, .int (nI (xx))), (2, .int (nI (yy))), (3, .int (nI (m))), (4, .int (nI (a))), (5, .int (nI (v))), (6, .int (nI (mo)))] dX12_go_167 1 rfl (zinc _) (by decide) rfl ?_
                    refine V_goto (tgt := 84) X dX12_go_170 (by decide) ?_
                    exact V.sub [0, 2, 3, 4, 5, 6, 7, 8, 9] rfl (ih84 _ (by omega) (i84 + 1) G84 rfl (by omega) hJ84 (tBs_cg (fun A B E => or_congr_right (tEk_skip ((zIn_nat (by omega) (by omega)).mp z52))) hv84_0) (hv84_1))
                  · -- no
                    have hbit : m.testBit i84 = false := by cases hb : m.testBit i84 with | true => exact absurd ((zIn_nat (by omega) (by omega)).mpr hb) z52 | false => rfl
                    have hor := zpc_or m hm i84 (by omega) hbit
                    have ho5 := zpc_5 m hm
                    have hlt5 : m ||| 2 ^ i84 < 32 := zor (n := 5) hm (by omega)
                    have hr1 := zpc_5 _ hlt5
                    show V g κ 10 (0) (0) (t, rO g ad N S G84 σ0) 116 [(9, .ref (ad (38 + (i84)))), (8, .int (nI (i84))), (7, .int (nI (v + (xx + yy)))), (0, .ref (ad (0))), (1, .int (nI (xx))), (2, .int (nI (yy))), (3, .int (nI (m))), (4, .int (nI (a))), (5, .int (nI (v))), (6, .int (nI (mo)))] [.int (nI (0))]
                    refine V_ifneN X (by omega) (tgt := 167) dX12_go_116 (by decide) (fun h54 => absurd h54 (by omega)) (fun h54 => ?_)
                    refine V_aload_n X dX12_go_119 3 rfl ?_
                    refine V_aload X dX12_go_120 0 rfl ?_
                    have hJz := hJ0.trans (hJ84 : rJ F G84)
                    refine R_getfN (z := nI (xs i84)) X fl_X12_150 hK (38 + (i84)) (rlv (by omega)) (rCell_town (by omega)) rfl ((hJz (38 + (i84)) 0 (rsc_f (by omega))).trans (hC.2.2 (i84) (by omega)).1) dX12_go_122 ?_
                    refine V_aload X dX12_go_125 0 rfl ?_
                    refine R_getfN (z := nI (ys i84)) X fl_X12_153 hK (38 + (i84)) (rlv (by omega)) (rCell_town (by omega)) rfl ((hJz (38 + (i84)) 1 (rsc_f (by omega))).trans (hC.2.2 (i84) (by omega)).2.1) dX12_go_127 ?_
                    refine V_iload_n X dX12_go_130 6 rfl ?_
                    refine V_iconst (v := nI 1) X dX12_go_131 (by decide) ?_
                    refine V_iload X dX12_go_132 1 rfl ?_
                    refine V_ishl1 X (by omega) dX12_go_134 ?_
                    refine V_iorN X dX12_go_135 ?_
                    refine V_iload X dX12_go_136 7 rfl ?_
                    refine V_aload X dX12_go_138 0 rfl ?_
                    refine R_getfN (z := nI (ks i84)) X fl_X12_156 hK (38 + (i84)) (rlv (by omega)) (rCell_town (by omega)) rfl ((hJz (38 + (i84)) 2 (rsc_f (by omega))).trans (hC.2.2 (i84) (by omega)).2.2.1) dX12_go_140 ?_
                    refine V_iaddN X dX12_go_143 ?_
                    refine V_iload X dX12_go_144 8 rfl ?_
                    refine V_iload_n X dX12_go_146 4 rfl ?_
                    refine V_iload_n X dX12_go_147 5 rfl ?_
                    refine V_aload X dX12_go_148 0 rfl ?_
                    refine R_getfN (z := nI (xs i84)) X fl_X12_150 hK (38 + (i84)) (rlv (by omega)) (rCell_town (by omega)) rfl ((hJz (38 + (i84)) 0 (rsc_f (by omega))).trans (hC.2.2 (i84) (by omega)).1) dX12_go_150 ?_
                    refine V_aload X dX12_go_153 0 rfl ?_
                    refine R_getfN (z := nI (ys i84)) X fl_X12_153 hK (38 + (i84)) (rlv (by omega)) (rCell_town (by omega)) rfl ((hJz (38 + (i84)) 1 (rsc_f (by omega))).trans (hC.2.2 (i84) (by omega)).2.1) dX12_go_155 ?_
                    refine V_callS (rest := [.int (nI (v)), .int (nI (a + ks i84)), .int (nI ((m) ||| (2 ^ (i84)))), .int (nI (ys i84)), .int (nI (xs i84)), .ref (ad (0))]) X E.room ml_X12_241 st_X12_miles (by omega) (by decide) (k_X12_miles (σ := (t, rO g ad N S G84 σ0)) (nI (xx)) (nI (yy)) (nI (xs i84)) (nI (ys i84))) rfl rfl (Nat.le_of_ble_eq_true rfl) ⟨by omega, by omega⟩ dX12_go_158 (fun _ _ h => False.elim h) (fun v158 σ' hp158 => ?_)
                    obtain ⟨⟨w55, rfl, fw55⟩, rfl⟩ := hp158
                    rw [tab99 (xx) (Nat.lt_succ_of_le hx) (xs i84) (Nat.lt_succ_of_le (hC.1 _)), tab99 (yy) (Nat.lt_succ_of_le hy) (ys i84) (Nat.lt_succ_of_le (hC.2.1 _)), nI_add] at fw55
                    subst fw55
                    show V g κ 10 (0) (0) (t, rO g ad N S G84 σ0) 161 [(9, .ref (ad (38 + (i84)))), (8, .int (nI (i84))), (7, .int (nI (v + (xx + yy)))), (0, .ref (ad (0))), (1, .int (nI (xx))), (2, .int (nI (yy))), (3, .int (nI (m))), (4, .int (nI (a))), (5, .int (nI (v))), (6, .int (nI (mo)))] [.int (nI ((((xx - xs i84) + (xs i84 - xx)) + ((yy - ys i84) + (ys i84 - yy))))), .int (nI (v)), .int (nI (a + ks i84)), .int (nI ((m) ||| (2 ^ (i84)))), .int (nI (ys i84)), .int (nI (xs i84)), .ref (ad (0))]
                    refine V_iaddN X dX12_go_161 ?_
                    refine V_iload X dX12_go_162 9 rfl ?_
                    refine V_callV (rest := []) X E.room ml_X12_254 in_X12_go (ci := 16) rfl se_X12_go (R_recv hK (q := 0) (rlv (by omega)) rfl) (by omega) (by decide) (ihr (r - 1) (by omega) (hI.mv hJ84) hJz (m ||| 2 ^ i84) hlt5 (by omega) (xs i84) (ys i84) (a + ks i84) (v + (((xx - xs i84) + (xs i84 - xx)) + ((yy - ys i84) + (ys i84 - yy)))) (hC.1 _) (hC.2.1 _) (by rw [hor]; have := (hC.2.2 i84 (by omega)).2.2.2; omega) (by rw [hor]; have := hC.1 i84; have := hC.2.1 i84; omega) (fun A B E => P A B E ∨ tEk xs ys ks (N 4) mo (r - 1) xx yy m a v i84 A B E) hv84_0) rfl rfl (Nat.le_of_ble_eq_true rfl) ⟨by omega, by omega⟩ dX12_go_164 (fun _ _ h => False.elim h) (fun v164 σ' hp164 => ?_)
                    obtain ⟨rfl, F56, rfl, hKF56, hZF56, hLF56⟩ := hp164
                    have hJF56 : rJ F F56 := (hJ84 : rJ F G84).trans hKF56
                    show V g κ 10 (0) (0) (t, rO g ad N S F56 σ0) 167 [(9, .ref (ad (38 + (i84)))), (8, .int (nI (i84))), (7, .int (nI (v + (xx + yy)))), (0, .ref (ad (0))), (1, .int (nI (xx))), (2, .int (nI (yy))), (3, .int (nI (m))), (4, .int (nI (a))), (5, .int (nI (v))), (6, .int (nI (mo)))] []
                    refine V_iinc X (nI (i84 + 1)) [(8, .int (nI (i84 + 1))), (9, .ref (ad (38 + (i84)))), (7, .int (nI (v + (xx + yy)))), (0, .ref (ad (0))), (1, .int (nI (xx))), (2, .int (nI (yy))), (3, .int (nI (m))), (4, .int (nI (a))), (5, .int (nI (v))), (6, .int (nI (mo)))] dX12_go_167 1 rfl (zinc _) (by decide) rfl ?_
                    refine V_goto (tgt := 84) X dX12_go_170 (by decide) ?_
                    exact V.sub [0, 2, 3, 4, 5, 6, 7, 8, 9] rfl (ih84 _ (by omega) (i84 + 1) F56 rfl (by omega) hJF56 (tBs_cg (fun A B E => tEk_step hbit) hLF56) (hZF56.trans hv84_1))
            exact L84 _ (0) F rfl (by omega) rJ.rfl' (tBs_go0 hl (by omega) (by omega) (by omega) (fun q => q.elim (fun q => h4 (by rw [ex3]; exact q)) (fun q => q.2.elim (fun q => h31 (by rw [ex30]; exact q)) (fun q => h46 (q.1.trans ex45.symm))))) (rfl)
          · -- 53 false
            refine V_iload_n X dX12_go_56 4 rfl ?_
            refine V_aload_n X dX12_go_57 1 rfl ?_
            refine R_getf X fl_X12_251 hK (0) (rlv (by omega)) rfl rfl dX12_go_58 (V.topi (fun x57 ex57 => ?_))
            refine V_icmpge X (tgt := 81) dX12_go_61 (by decide) (fun h58 => ?_) (fun h58 => ?_)
            · -- 61 true
              refine V_iconst (v := nI 0) X dX12_go_81 (by decide) ?_
              refine V_istore X [(8, .int (nI (0))), (7, .int (nI (v + (xx + yy)))), (0, .ref (ad (0))), (1, .int (nI (xx))), (2, .int (nI (yy))), (3, .int (nI (m))), (4, .int (nI (a))), (5, .int (nI (v))), (6, .int (nI (mo)))] dX12_go_82 (by decide) rfl ?_
              have L84 : ∀ (n84 : Nat) (i84 : Nat) (G84 : Nat → Nat → Int32), n84 = N 4 - i84 → i84 ≤ N 4 → rJ F G84 → (tBs (fun A B E => P A B E ∨ tEk xs ys ks (N 4) mo (r - 1) xx yy m a v i84 A B E) (G84 0 16) (G84 0 17) (G84 0 18)) → (G84 0 0 = F 0 0) → V g κ 10 (0) (0) (t, rO g ad N S G84 σ0) 84 [(8, .int (nI (i84))), (7, .int (nI (v + (xx + yy)))), (0, .ref (ad (0))), (1, .int (nI (xx))), (2, .int (nI (yy))), (3, .int (nI (m))), (4, .int (nI (a))), (5, .int (nI (v))), (6, .int (nI (mo)))] [] := by
                intro n84
                induction n84 using Nat.strongRecOn with
                | ind n84 ih84 =>
                  intro i84 G84 hn84 hi84 hJ84 hv84_0 hv84_1
                  refine V_iload X dX12_go_84 0 rfl ?_
                  refine V_aload_n X dX12_go_86 2 rfl ?_
                  refine R_getf X fl_X12_25 hK (0) (rlv (by omega)) rfl rfl dX12_go_87 ?_
                  refine V_callV (rest := [.int (nI (i84))]) X E.room ml_X12_42 in_Jx4a65c_size_8abf5 (ci := 3) rfl se_Jx4a65c_size_8abf5 (rO_list hK (i := 4) (by decide)) (by omega) (by decide) (r_size hK 4 (by decide)) rfl rfl (Nat.le_of_ble_eq_true rfl) ⟨by omega, by omega⟩ dX12_go_90 (fun _ _ h => False.elim h) (fun v59 σ' hp60 => ?_)
                  obtain ⟨hp60, rfl⟩ := hp60
                  cases (hp60 : _ = some (Value.int (nI (N 4))))
                  show V g κ 10 (0) (0) (t, rO g ad N S G84 σ0) 93 [(8, .int (nI (i84))), (7, .int (nI (v + (xx + yy)))), (0, .ref (ad (0))), (1, .int (nI (xx))), (2, .int (nI (yy))), (3, .int (nI (m))), (4, .int (nI (a))), (5, .int (nI (v))), (6, .int (nI (mo)))] [.int (nI (N 4)), .int (nI (i84))]
                  refine V_icmpgeN X (by omega) (by omega) (tgt := 173) dX12_go_93 (by decide) (fun h61 => ?_) (fun h61 => ?_)
                  · -- 93 true
                    exact V_vret X E (by omega) (by omega) ⟨rfl, _, rfl, hJ84, hv84_1, tBs_cg (P := fun A B E => P A B E ∨ tEk xs ys ks (N 4) mo (r - 1) xx yy m a v (N 4) A B E) (fun A B E => or_congr_right (tE_end hm hr h2 b4)) (by have z := hv84_0; rw [show i84 = N 4 by omega] at z; exact z)⟩ dX12_go_173
                  · -- 93 false
                    refine V_aload_n X dX12_go_96 2 rfl ?_
                    refine R_getf X fl_X12_25 hK (0) (rlv (by omega)) rfl rfl dX12_go_97 ?_
                    refine V_iload X dX12_go_100 0 rfl ?_
                    refine V_callV (rest := []) X E.room ml_X12_97 in_Jx4a65c_get_915e3 (ci := 3) rfl se_Jx4a65c_get_915e3 (rO_list hK (i := 4) (by decide)) (by omega) (by decide) (r_get hK 4 (by decide) (j := i84) (by omega) (by omega)) rfl rfl (Nat.le_of_ble_eq_true rfl) ⟨by omega, by omega⟩ dX12_go_102 (fun _ _ h => False.elim h) (fun v62 σ' hp63 => ?_)
                    obtain ⟨hp63, rfl⟩ := hp63
                    cases (hp63 : _ = some (Value.ref (ad (38 + (i84)))))
                    show V g κ 10 (0) (0) (t, rO g ad N S G84 σ0) 105 [(8, .int (nI (i84))), (7, .int (nI (v + (xx + yy)))), (0, .ref (ad (0))), (1, .int (nI (xx))), (2, .int (nI (yy))), (3, .int (nI (m))), (4, .int (nI (a))), (5, .int (nI (v))), (6, .int (nI (mo)))] [.ref (ad (38 + (i84)))]
                    refine V_cast X (C := RX11) rfl cl_X12_147 (R_recv hK (q := 38 + (i84)) (rlv (by omega)) (rCell_town (by omega))) dX12_go_105 ?_
                    refine V_astore X [(9, .ref (ad (38 + (i84)))), (8, .int (nI (i84))), (7, .int (nI (v + (xx + yy)))), (0, .ref (ad (0))), (1, .int (nI (xx))), (2, .int (nI (yy))), (3, .int (nI (m))), (4, .int (nI (a))), (5, .int (nI (v))), (6, .int (nI (mo)))] dX12_go_108 (by decide) rfl ?_
                    refine V_iload_n X dX12_go_110 6 rfl ?_
                    refine V_iload X dX12_go_111 1 rfl ?_
                    refine V_callS (rest := []) X E.room ml_X12_159 st_X12_isIn (by omega) (by decide) (k_X12_isIn (σ := (t, rO g ad N S G84 σ0)) (nI (m)) (nI (i84))) rfl rfl (Nat.le_of_ble_eq_true rfl) ⟨by omega, by omega⟩ dX12_go_113 (fun _ _ h => False.elim h) (fun v113 σ' hp113 => ?_)
                    obtain ⟨hp113, rfl⟩ := hp113
                    rcases hp113 with ⟨rfl, z64⟩ | ⟨rfl, z64⟩
                    · -- yes
                      show V g κ 10 (0) (0) (t, rO g ad N S G84 σ0) 116 [(9, .ref (ad (38 + (i84)))), (8, .int (nI (i84))), (7, .int (nI (v + (xx + yy)))), (0, .ref (ad (0))), (1, .int (nI (xx))), (2, .int (nI (yy))), (3, .int (nI (m))), (4, .int (nI (a))), (5, .int (nI (v))), (6, .int (nI (mo)))] [.int (nI (1))]
                      refine V_ifneN X (by omega) (tgt := 167) dX12_go_116 (by decide) (fun h65 => ?_) (fun h65 => absurd h65 (by omega))
                      refine V_iinc X (nI (i84 + 1)) [(8, .int (nI (i84 + 1))), (9, .ref (ad (38 + (i84)))), (7, .int (nI (v + (xx + yy)))), (0, .ref (ad (0))), (1, .int (nI (xx))), (2, .int (nI (yy))), (3, .int (nI (m))), (4, .int (nI (a))), (5, .int (nI (v))), (6, .int (nI (mo)))] dX12_go_167 1 rfl (zinc _) (by decide) rfl ?_
                      refine V_goto (tgt := 84) X dX12_go_170 (by decide) ?_
                      exact V.sub [0, 2, 3, 4, 5, 6, 7, 8, 9] rfl (ih84 _ (by omega) (i84 + 1) G84 rfl (by omega) hJ84 (tBs_cg (fun A B E => or_congr_right (tEk_skip ((zIn_nat (by omega) (by omega)).mp z64))) hv84_0) (hv84_1))
                    · -- no
                      have hbit : m.testBit i84 = false := by cases hb : m.testBit i84 with | true => exact absurd ((zIn_nat (by omega) (by omega)).mpr hb) z64 | false => rfl
                      have hor := zpc_or m hm i84 (by omega) hbit
                      have ho5 := zpc_5 m hm
                      have hlt5 : m ||| 2 ^ i84 < 32 := zor (n := 5) hm (by omega)
                      have hr1 := zpc_5 _ hlt5
                      show V g κ 10 (0) (0) (t, rO g ad N S G84 σ0) 116 [(9, .ref (ad (38 + (i84)))), (8, .int (nI (i84))), (7, .int (nI (v + (xx + yy)))), (0, .ref (ad (0))), (1, .int (nI (xx))), (2, .int (nI (yy))), (3, .int (nI (m))), (4, .int (nI (a))), (5, .int (nI (v))), (6, .int (nI (mo)))] [.int (nI (0))]
                      refine V_ifneN X (by omega) (tgt := 167) dX12_go_116 (by decide) (fun h66 => absurd h66 (by omega)) (fun h66 => ?_)
                      refine V_aload_n X dX12_go_119 3 rfl ?_
                      refine V_aload X dX12_go_120 0 rfl ?_
                      have hJz := hJ0.trans (hJ84 : rJ F G84)
                      refine R_getfN (z := nI (xs i84)) X fl_X12_150 hK (38 + (i84)) (rlv (by omega)) (rCell_town (by omega)) rfl ((hJz (38 + (i84)) 0 (rsc_f (by omega))).trans (hC.2.2 (i84) (by omega)).1) dX12_go_122 ?_
                      refine V_aload X dX12_go_125 0 rfl ?_
                      refine R_getfN (z := nI (ys i84)) X fl_X12_153 hK (38 + (i84)) (rlv (by omega)) (rCell_town (by omega)) rfl ((hJz (38 + (i84)) 1 (rsc_f (by omega))).trans (hC.2.2 (i84) (by omega)).2.1) dX12_go_127 ?_
                      refine V_iload_n X dX12_go_130 6 rfl ?_
                      refine V_iconst (v := nI 1) X dX12_go_131 (by decide) ?_
                      refine V_iload X dX12_go_132 1 rfl ?_
                      refine V_ishl1 X (by omega) dX12_go_134 ?_
                      refine V_iorN X dX12_go_135 ?_
                      refine V_iload X dX12_go_136 7 rfl ?_
                      refine V_aload X dX12_go_138 0 rfl ?_
                      refine R_getfN (z := nI (ks i84)) X fl_X12_156 hK (38 + (i84)) (rlv (by omega)) (rCell_town (by omega)) rfl ((hJz (38 + (i84)) 2 (rsc_f (by omega))).trans (hC.2.2 (i84) (by omega)).2.2.1) dX12_go_140 ?_
                      refine V_iaddN X dX12_go_143 ?_
                      refine V_iload X dX12_go_144 8 rfl ?_
                      refine V_iload_n X dX12_go_146 4 rfl ?_
                      refine V_iload_n X dX12_go_147 5 rfl ?_
                      refine V_aload X dX12_go_148 0 rfl ?_
                      refine R_getfN (z := nI (xs i84)) X fl_X12_150 hK (38 + (i84)) (rlv (by omega)) (rCell_town (by omega)) rfl ((hJz (38 + (i84)) 0 (rsc_f (by omega))).trans (hC.2.2 (i84) (by omega)).1) dX12_go_150 ?_
                      refine V_aload X dX12_go_153 0 rfl ?_
                      refine R_getfN (z := nI (ys i84)) X fl_X12_153 hK (38 + (i84)) (rlv (by omega)) (rCell_town (by omega)) rfl ((hJz (38 + (i84)) 1 (rsc_f (by omega))).trans (hC.2.2 (i84) (by omega)).2.1) dX12_go_155 ?_
                      refine V_callS (rest := [.int (nI (v)), .int (nI (a + ks i84)), .int (nI ((m) ||| (2 ^ (i84)))), .int (nI (ys i84)), .int (nI (xs i84)), .ref (ad (0))]) X E.room ml_X12_241 st_X12_miles (by omega) (by decide) (k_X12_miles (σ := (t, rO g ad N S G84 σ0)) (nI (xx)) (nI (yy)) (nI (xs i84)) (nI (ys i84))) rfl rfl (Nat.le_of_ble_eq_true rfl) ⟨by omega, by omega⟩ dX12_go_158 (fun _ _ h => False.elim h) (fun v158 σ' hp158 => ?_)
                      obtain ⟨⟨w67, rfl, fw67⟩, rfl⟩ := hp158
                      rw [tab99 (xx) (Nat.lt_succ_of_le hx) (xs i84) (Nat.lt_succ_of_le (hC.1 _)), tab99 (yy) (Nat.lt_succ_of_le hy) (ys i84) (Nat.lt_succ_of_le (hC.2.1 _)), nI_add] at fw67
                      subst fw67
                      show V g κ 10 (0) (0) (t, rO g ad N S G84 σ0) 161 [(9, .ref (ad (38 + (i84)))), (8, .int (nI (i84))), (7, .int (nI (v + (xx + yy)))), (0, .ref (ad (0))), (1, .int (nI (xx))), (2, .int (nI (yy))), (3, .int (nI (m))), (4, .int (nI (a))), (5, .int (nI (v))), (6, .int (nI (mo)))] [.int (nI ((((xx - xs i84) + (xs i84 - xx)) + ((yy - ys i84) + (ys i84 - yy))))), .int (nI (v)), .int (nI (a + ks i84)), .int (nI ((m) ||| (2 ^ (i84)))), .int (nI (ys i84)), .int (nI (xs i84)), .ref (ad (0))]
                      refine V_iaddN X dX12_go_161 ?_
                      refine V_iload X dX12_go_162 9 rfl ?_
                      refine V_callV (rest := []) X E.room ml_X12_254 in_X12_go (ci := 16) rfl se_X12_go (R_recv hK (q := 0) (rlv (by omega)) rfl) (by omega) (by decide) (ihr (r - 1) (by omega) (hI.mv hJ84) hJz (m ||| 2 ^ i84) hlt5 (by omega) (xs i84) (ys i84) (a + ks i84) (v + (((xx - xs i84) + (xs i84 - xx)) + ((yy - ys i84) + (ys i84 - yy)))) (hC.1 _) (hC.2.1 _) (by rw [hor]; have := (hC.2.2 i84 (by omega)).2.2.2; omega) (by rw [hor]; have := hC.1 i84; have := hC.2.1 i84; omega) (fun A B E => P A B E ∨ tEk xs ys ks (N 4) mo (r - 1) xx yy m a v i84 A B E) hv84_0) rfl rfl (Nat.le_of_ble_eq_true rfl) ⟨by omega, by omega⟩ dX12_go_164 (fun _ _ h => False.elim h) (fun v164 σ' hp164 => ?_)
                      obtain ⟨rfl, F68, rfl, hKF68, hZF68, hLF68⟩ := hp164
                      have hJF68 : rJ F F68 := (hJ84 : rJ F G84).trans hKF68
                      show V g κ 10 (0) (0) (t, rO g ad N S F68 σ0) 167 [(9, .ref (ad (38 + (i84)))), (8, .int (nI (i84))), (7, .int (nI (v + (xx + yy)))), (0, .ref (ad (0))), (1, .int (nI (xx))), (2, .int (nI (yy))), (3, .int (nI (m))), (4, .int (nI (a))), (5, .int (nI (v))), (6, .int (nI (mo)))] []
                      refine V_iinc X (nI (i84 + 1)) [(8, .int (nI (i84 + 1))), (9, .ref (ad (38 + (i84)))), (7, .int (nI (v + (xx + yy)))), (0, .ref (ad (0))), (1, .int (nI (xx))), (2, .int (nI (yy))), (3, .int (nI (m))), (4, .int (nI (a))), (5, .int (nI (v))), (6, .int (nI (mo)))] dX12_go_167 1 rfl (zinc _) (by decide) rfl ?_
                      refine V_goto (tgt := 84) X dX12_go_170 (by decide) ?_
                      exact V.sub [0, 2, 3, 4, 5, 6, 7, 8, 9] rfl (ih84 _ (by omega) (i84 + 1) F68 rfl (by omega) hJF68 (tBs_cg (fun A B E => tEk_step hbit) hLF68) (hZF68.trans hv84_1))
              exact L84 _ (0) F rfl (by omega) rJ.rfl' (tBs_go0 hl (by omega) (by omega) (by omega) (fun q => q.elim (fun q => h4 (by rw [ex3]; exact q)) (fun q => q.2.elim (fun q => h31 (by rw [ex30]; exact q)) (fun q => absurd (Int32.lt_of_lt_of_le q.2 (by rw [← ex57]; exact h58)) Int32.lt_irrefl)))) (rfl)
            · -- 61 false
              refine V_aload_n X dX12_go_64 1 rfl ?_
              refine V_iload X dX12_go_65 5 rfl ?_
              refine R_putf X fl_X12_245 zt_X12 hK (0) (rlv (by omega)) (by omega) rfl (Nat.le_of_ble_eq_true rfl) rfl rfl rfl rfl rfl dX12_go_67 (fun F69 hF69 => ?_)
              have hJF69 := (rJ.rfl' : rJ F F).set hF69 (rsc_t (by omega))
              refine V_aload_n X dX12_go_70 1 rfl ?_
              refine V_iload X dX12_go_71 0 rfl ?_
              refine R_putf X fl_X12_248 zt_X12 hK (0) (rlv (by omega)) (by omega) rfl (Nat.le_of_ble_eq_true rfl) rfl rfl rfl rfl rfl dX12_go_73 (fun F70 hF70 => ?_)
              have hJF70 := (hJF69 : rJ F F69).set hF70 (rsc_t (by omega))
              refine V_aload_n X dX12_go_76 1 rfl ?_
              refine V_iload_n X dX12_go_77 4 rfl ?_
              refine R_putf X fl_X12_251 zt_X12 hK (0) (rlv (by omega)) (by omega) rfl (Nat.le_of_ble_eq_true rfl) rfl rfl rfl rfl rfl dX12_go_78 (fun F71 hF71 => ?_)
              have hJF71 := (hJF70 : rJ F F70).set hF71 (rsc_t (by omega))
              refine V_iconst (v := nI 0) X dX12_go_81 (by decide) ?_
              refine V_istore X [(8, .int (nI (0))), (7, .int (nI (v + (xx + yy)))), (0, .ref (ad (0))), (1, .int (nI (xx))), (2, .int (nI (yy))), (3, .int (nI (m))), (4, .int (nI (a))), (5, .int (nI (v))), (6, .int (nI (mo)))] dX12_go_82 (by decide) rfl ?_
              have L84 : ∀ (n84 : Nat) (i84 : Nat) (G84 : Nat → Nat → Int32), n84 = N 4 - i84 → i84 ≤ N 4 → rJ F G84 → (tBs (fun A B E => P A B E ∨ tEk xs ys ks (N 4) mo (r - 1) xx yy m a v i84 A B E) (G84 0 16) (G84 0 17) (G84 0 18)) → (G84 0 0 = F 0 0) → V g κ 10 (0) (0) (t, rO g ad N S G84 σ0) 84 [(8, .int (nI (i84))), (7, .int (nI (v + (xx + yy)))), (0, .ref (ad (0))), (1, .int (nI (xx))), (2, .int (nI (yy))), (3, .int (nI (m))), (4, .int (nI (a))), (5, .int (nI (v))), (6, .int (nI (mo)))] [] := by
                intro n84
                induction n84 using Nat.strongRecOn with
                | ind n84 ih84 =>
                  intro i84 G84 hn84 hi84 hJ84 hv84_0 hv84_1
                  refine V_iload X dX12_go_84 0 rfl ?_
                  refine V_aload_n X dX12_go_86 2 rfl ?_
                  refine R_getf X fl_X12_25 hK (0) (rlv (by omega)) rfl rfl dX12_go_87 ?_
                  refine V_callV (rest := [.int (nI (i84))]) X E.room ml_X12_42 in_Jx4a65c_size_8abf5 (ci := 3) rfl se_Jx4a65c_size_8abf5 (rO_list hK (i := 4) (by decide)) (by omega) (by decide) (r_size hK 4 (by decide)) rfl rfl (Nat.le_of_ble_eq_true rfl) ⟨by omega, by omega⟩ dX12_go_90 (fun _ _ h => False.elim h) (fun v72 σ' hp73 => ?_)
                  obtain ⟨hp73, rfl⟩ := hp73
                  cases (hp73 : _ = some (Value.int (nI (N 4))))
                  show V g κ 10 (0) (0) (t, rO g ad N S G84 σ0) 93 [(8, .int (nI (i84))), (7, .int (nI (v + (xx + yy)))), (0, .ref (ad (0))), (1, .int (nI (xx))), (2, .int (nI (yy))), (3, .int (nI (m))), (4, .int (nI (a))), (5, .int (nI (v))), (6, .int (nI (mo)))] [.int (nI (N 4)), .int (nI (i84))]
                  refine V_icmpgeN X (by omega) (by omega) (tgt := 173) dX12_go_93 (by decide) (fun h74 => ?_) (fun h74 => ?_)
                  · -- 93 true
                    exact V_vret X E (by omega) (by omega) ⟨rfl, _, rfl, hJ84, hv84_1, tBs_cg (P := fun A B E => P A B E ∨ tEk xs ys ks (N 4) mo (r - 1) xx yy m a v (N 4) A B E) (fun A B E => or_congr_right (tE_end hm hr h2 b4)) (by have z := hv84_0; rw [show i84 = N 4 by omega] at z; exact z)⟩ dX12_go_173
                  · -- 93 false
                    refine V_aload_n X dX12_go_96 2 rfl ?_
                    refine R_getf X fl_X12_25 hK (0) (rlv (by omega)) rfl rfl dX12_go_97 ?_
                    refine V_iload X dX12_go_100 0 rfl ?_
                    refine V_callV (rest := []) X E.room ml_X12_97 in_Jx4a65c_get_915e3 (ci := 3) rfl se_Jx4a65c_get_915e3 (rO_list hK (i := 4) (by decide)) (by omega) (by decide) (r_get hK 4 (by decide) (j := i84) (by omega) (by omega)) rfl rfl (Nat.le_of_ble_eq_true rfl) ⟨by omega, by omega⟩ dX12_go_102 (fun _ _ h => False.elim h) (fun v75 σ' hp76 => ?_)
                    obtain ⟨hp76, rfl⟩ := hp76
                    cases (hp76 : _ = some (Value.ref (ad (38 + (i84)))))
                    show V g κ 10 (0) (0) (t, rO g ad N S G84 σ0) 105 [(8, .int (nI (i84))), (7, .int (nI (v + (xx + yy)))), (0, .ref (ad (0))), (1, .int (nI (xx))), (2, .int (nI (yy))), (3, .int (nI (m))), (4, .int (nI (a))), (5, .int (nI (v))), (6, .int (nI (mo)))] [.ref (ad (38 + (i84)))]
                    refine V_cast X (C := RX11) rfl cl_X12_147 (R_recv hK (q := 38 + (i84)) (rlv (by omega)) (rCell_town (by omega))) dX12_go_105 ?_
                    refine V_astore X [(9, .ref (ad (38 + (i84)))), (8, .int (nI (i84))), (7, .int (nI (v + (xx + yy)))), (0, .ref (ad (0))), (1, .int (nI (xx))), (2, .int (nI (yy))), (3, .int (nI (m))), (4, .int (nI (a))), (5, .int (nI (v))), (6, .int (nI (mo)))] dX12_go_108 (by decide) rfl ?_
                    refine V_iload_n X dX12_go_110 6 rfl ?_
                    refine V_iload X dX12_go_111 1 rfl ?_
                    refine V_callS (rest := []) X E.room ml_X12_159 st_X12_isIn (by omega) (by decide) (k_X12_isIn (σ := (t, rO g ad N S G84 σ0)) (nI (m)) (nI (i84))) rfl rfl (Nat.le_of_ble_eq_true rfl) ⟨by omega, by omega⟩ dX12_go_113 (fun _ _ h => False.elim h) (fun v113 σ' hp113 => ?_)
                    obtain ⟨hp113, rfl⟩ := hp113
                    rcases hp113 with ⟨rfl, z77⟩ | ⟨rfl, z77⟩
                    · -- yes
                      show V g κ 10 (0) (0) (t, rO g ad N S G84 σ0) 116 [(9, .ref (ad (38 + (i84)))), (8, .int (nI (i84))), (7, .int (nI (v + (xx + yy)))), (0, .ref (ad (0))), (1, .int (nI (xx))), (2, .int (nI (yy))), (3, .int (nI (m))), (4, .int (nI (a))), (5, .int (nI (v))), (6, .int (nI (mo)))] [.int (nI (1))]
                      refine V_ifneN X (by omega) (tgt := 167) dX12_go_116 (by decide) (fun h78 => ?_) (fun h78 => absurd h78 (by omega))
                      refine V_iinc X (nI (i84 + 1)) [(8, .int (nI (i84 + 1))), (9, .ref (ad (38 + (i84)))), (7, .int (nI (v + (xx + yy)))), (0, .ref (ad (0))), (1, .int (nI (xx))), (2, .int (nI (yy))), (3, .int (nI (m))), (4, .int (nI (a))), (5, .int (nI (v))), (6, .int (nI (mo)))] dX12_go_167 1 rfl (zinc _) (by decide) rfl ?_
                      refine V_goto (tgt := 84) X dX12_go_170 (by decide) ?_
                      exact V.sub [0, 2, 3, 4, 5, 6, 7, 8, 9] rfl (ih84 _ (by omega) (i84 + 1) G84 rfl (by omega) hJ84 (tBs_cg (fun A B E => or_congr_right (tEk_skip ((zIn_nat (by omega) (by omega)).mp z77))) hv84_0) (hv84_1))
                    · -- no
                      have hbit : m.testBit i84 = false := by cases hb : m.testBit i84 with | true => exact absurd ((zIn_nat (by omega) (by omega)).mpr hb) z77 | false => rfl
                      have hor := zpc_or m hm i84 (by omega) hbit
                      have ho5 := zpc_5 m hm
                      have hlt5 : m ||| 2 ^ i84 < 32 := zor (n := 5) hm (by omega)
                      have hr1 := zpc_5 _ hlt5
                      show V g κ 10 (0) (0) (t, rO g ad N S G84 σ0) 116 [(9, .ref (ad (38 + (i84)))), (8, .int (nI (i84))), (7, .int (nI (v + (xx + yy)))), (0, .ref (ad (0))), (1, .int (nI (xx))), (2, .int (nI (yy))), (3, .int (nI (m))), (4, .int (nI (a))), (5, .int (nI (v))), (6, .int (nI (mo)))] [.int (nI (0))]
                      refine V_ifneN X (by omega) (tgt := 167) dX12_go_116 (by decide) (fun h79 => absurd h79 (by omega)) (fun h79 => ?_)
                      refine V_aload_n X dX12_go_119 3 rfl ?_
                      refine V_aload X dX12_go_120 0 rfl ?_
                      have hJz := hJ0.trans (hJ84 : rJ F G84)
                      refine R_getfN (z := nI (xs i84)) X fl_X12_150 hK (38 + (i84)) (rlv (by omega)) (rCell_town (by omega)) rfl ((hJz (38 + (i84)) 0 (rsc_f (by omega))).trans (hC.2.2 (i84) (by omega)).1) dX12_go_122 ?_
                      refine V_aload X dX12_go_125 0 rfl ?_
                      refine R_getfN (z := nI (ys i84)) X fl_X12_153 hK (38 + (i84)) (rlv (by omega)) (rCell_town (by omega)) rfl ((hJz (38 + (i84)) 1 (rsc_f (by omega))).trans (hC.2.2 (i84) (by omega)).2.1) dX12_go_127 ?_
                      refine V_iload_n X dX12_go_130 6 rfl ?_
                      refine V_iconst (v := nI 1) X dX12_go_131 (by decide) ?_
                      refine V_iload X dX12_go_132 1 rfl ?_
                      refine V_ishl1 X (by omega) dX12_go_134 ?_
                      refine V_iorN X dX12_go_135 ?_
                      refine V_iload X dX12_go_136 7 rfl ?_
                      refine V_aload X dX12_go_138 0 rfl ?_
                      refine R_getfN (z := nI (ks i84)) X fl_X12_156 hK (38 + (i84)) (rlv (by omega)) (rCell_town (by omega)) rfl ((hJz (38 + (i84)) 2 (rsc_f (by omega))).trans (hC.2.2 (i84) (by omega)).2.2.1) dX12_go_140 ?_
                      refine V_iaddN X dX12_go_143 ?_
                      refine V_iload X dX12_go_144 8 rfl ?_
                      refine V_iload_n X dX12_go_146 4 rfl ?_
                      refine V_iload_n X dX12_go_147 5 rfl ?_
                      refine V_aload X dX12_go_148 0 rfl ?_
                      refine R_getfN (z := nI (xs i84)) X fl_X12_150 hK (38 + (i84)) (rlv (by omega)) (rCell_town (by omega)) rfl ((hJz (38 + (i84)) 0 (rsc_f (by omega))).trans (hC.2.2 (i84) (by omega)).1) dX12_go_150 ?_
                      refine V_aload X dX12_go_153 0 rfl ?_
                      refine R_getfN (z := nI (ys i84)) X fl_X12_153 hK (38 + (i84)) (rlv (by omega)) (rCell_town (by omega)) rfl ((hJz (38 + (i84)) 1 (rsc_f (by omega))).trans (hC.2.2 (i84) (by omega)).2.1) dX12_go_155 ?_
                      refine V_callS (rest := [.int (nI (v)), .int (nI (a + ks i84)), .int (nI ((m) ||| (2 ^ (i84)))), .int (nI (ys i84)), .int (nI (xs i84)), .ref (ad (0))]) X E.room ml_X12_241 st_X12_miles (by omega) (by decide) (k_X12_miles (σ := (t, rO g ad N S G84 σ0)) (nI (xx)) (nI (yy)) (nI (xs i84)) (nI (ys i84))) rfl rfl (Nat.le_of_ble_eq_true rfl) ⟨by omega, by omega⟩ dX12_go_158 (fun _ _ h => False.elim h) (fun v158 σ' hp158 => ?_)
                      obtain ⟨⟨w80, rfl, fw80⟩, rfl⟩ := hp158
                      rw [tab99 (xx) (Nat.lt_succ_of_le hx) (xs i84) (Nat.lt_succ_of_le (hC.1 _)), tab99 (yy) (Nat.lt_succ_of_le hy) (ys i84) (Nat.lt_succ_of_le (hC.2.1 _)), nI_add] at fw80
                      subst fw80
                      show V g κ 10 (0) (0) (t, rO g ad N S G84 σ0) 161 [(9, .ref (ad (38 + (i84)))), (8, .int (nI (i84))), (7, .int (nI (v + (xx + yy)))), (0, .ref (ad (0))), (1, .int (nI (xx))), (2, .int (nI (yy))), (3, .int (nI (m))), (4, .int (nI (a))), (5, .int (nI (v))), (6, .int (nI (mo)))] [.int (nI ((((xx - xs i84) + (xs i84 - xx)) + ((yy - ys i84) + (ys i84 - yy))))), .int (nI (v)), .int (nI (a + ks i84)), .int (nI ((m) ||| (2 ^ (i84)))), .int (nI (ys i84)), .int (nI (xs i84)), .ref (ad (0))]
                      refine V_iaddN X dX12_go_161 ?_
                      refine V_iload X dX12_go_162 9 rfl ?_
                      refine V_callV (rest := []) X E.room ml_X12_254 in_X12_go (ci := 16) rfl se_X12_go (R_recv hK (q := 0) (rlv (by omega)) rfl) (by omega) (by decide) (ihr (r - 1) (by omega) (hI.mv hJ84) hJz (m ||| 2 ^ i84) hlt5 (by omega) (xs i84) (ys i84) (a + ks i84) (v + (((xx - xs i84) + (xs i84 - xx)) + ((yy - ys i84) + (ys i84 - yy)))) (hC.1 _) (hC.2.1 _) (by rw [hor]; have := (hC.2.2 i84 (by omega)).2.2.2; omega) (by rw [hor]; have := hC.1 i84; have := hC.2.1 i84; omega) (fun A B E => P A B E ∨ tEk xs ys ks (N 4) mo (r - 1) xx yy m a v i84 A B E) hv84_0) rfl rfl (Nat.le_of_ble_eq_true rfl) ⟨by omega, by omega⟩ dX12_go_164 (fun _ _ h => False.elim h) (fun v164 σ' hp164 => ?_)
                      obtain ⟨rfl, F81, rfl, hKF81, hZF81, hLF81⟩ := hp164
                      have hJF81 : rJ F F81 := (hJ84 : rJ F G84).trans hKF81
                      show V g κ 10 (0) (0) (t, rO g ad N S F81 σ0) 167 [(9, .ref (ad (38 + (i84)))), (8, .int (nI (i84))), (7, .int (nI (v + (xx + yy)))), (0, .ref (ad (0))), (1, .int (nI (xx))), (2, .int (nI (yy))), (3, .int (nI (m))), (4, .int (nI (a))), (5, .int (nI (v))), (6, .int (nI (mo)))] []
                      refine V_iinc X (nI (i84 + 1)) [(8, .int (nI (i84 + 1))), (9, .ref (ad (38 + (i84)))), (7, .int (nI (v + (xx + yy)))), (0, .ref (ad (0))), (1, .int (nI (xx))), (2, .int (nI (yy))), (3, .int (nI (m))), (4, .int (nI (a))), (5, .int (nI (v))), (6, .int (nI (mo)))] dX12_go_167 1 rfl (zinc _) (by decide) rfl ?_
                      refine V_goto (tgt := 84) X dX12_go_170 (by decide) ?_
                      exact V.sub [0, 2, 3, 4, 5, 6, 7, 8, 9] rfl (ih84 _ (by omega) (i84 + 1) F81 rfl (by omega) hJF81 (tBs_cg (fun A B E => tEk_step hbit) hLF81) (hZF81.trans hv84_1))
              exact L84 _ (0) F71 rfl (by omega) hJF71 (tBs_go1 hl hF69 hF70 hF71 (by omega) (by omega) (by omega) (Or.inr ⟨h19.trans ex18, Or.inr ⟨h46.trans ex45, by rw [← ex57]; exact Int32.not_le.mp h58⟩⟩)) (by rw [hF71, fset_ne (by omega), hF70, fset_ne (by omega), hF69, fset_ne (by omega)])
  · -- 16 false
    exact V_vret X E (by omega) (by omega) ⟨rfl, _, rfl, rJ.rfl', rfl, tBs_cg (fun A B E => (or_iff_left (tE_far h2)).symm) hl⟩ dX12_go_19
set_option maxRecDepth 100000 in
set_option maxHeartbeats 4000000 in
theorem k_X12_tourNow_x {g : zG} {t : Nat × Nat} {ad N : Nat → Nat} {S : Int64} {σ0 : Nat → Option va_E} {F : Nat → Nat → Int32} (hK : rK g ad N) (hI : rI N F) (mo w : Nat) (hmo : mo ≤ 2000) (hw : w ≤ 2) {xs ys ks : Nat → Nat} (hT : rTc xs ys ks N F) : Ct g 21 yX12_tourNow cX12_tourNow 3 (some FieldType.int) 0 0 [.ref (ad (0)), .int (nI mo), .int (nI w)] (t, rO g ad N S F σ0) (fun v σ' => ∃ x : Int32, v = some (.int x) ∧ tAns xs ys ks (N 4) mo w x ∧ ∃ F' : Nat → Nat → Int32, σ' = (t, rO g ad N S F' σ0) ∧ rJ F F' ∧ F' 0 0 = F 0 0) zNo := by
  refine Ct.of (lv := [(0, .ref (ad (0))), (1, .int (nI (mo))), (2, .int (nI (w)))]) (by decide) (Nat.le_of_ble_eq_true rfl) rfl ?_
  intro κ X E B _
  have X : zX g κ RX12 cX12_tourNow 3 := X
  obtain ⟨b0, b1, b2, b3, b4⟩ := hI.bnd
  refine V_aload_n X dX12_tourNow_0 0 rfl ?_
  refine V_iconst (v := (-1)) X dX12_tourNow_1 (by decide) ?_
  refine R_putf X fl_X12_245 zt_X12 hK (0) (rlv (by omega)) (by omega) rfl (Nat.le_of_ble_eq_true rfl) rfl rfl rfl rfl rfl dX12_tourNow_2 (fun F1 hF1 => ?_)
  have hJF1 := (rJ.rfl' : rJ F F).set hF1 (rsc_t (by omega))
  refine V_aload_n X dX12_tourNow_5 0 rfl ?_
  refine V_iconst (v := nI 0) X dX12_tourNow_6 (by decide) ?_
  refine V_iconst (v := nI 0) X dX12_tourNow_7 (by decide) ?_
  refine V_iconst (v := nI 0) X dX12_tourNow_8 (by decide) ?_
  refine V_iconst (v := nI 0) X dX12_tourNow_9 (by decide) ?_
  refine V_iconst (v := nI 0) X dX12_tourNow_10 (by decide) ?_
  refine V_iload_n X dX12_tourNow_11 1 rfl ?_
  refine V_callV (rest := []) X E.room ml_X12_254 in_X12_go (ci := 16) rfl se_X12_go (R_recv hK (q := 0) (rlv (by omega)) rfl) (by omega) (by decide) (k_X12_go_x hK (hT.mv (fun k j q1 q2 => by rw [hF1, fset_ne (by omega)]) b4) mo hmo 5 (hI.mv hJF1) rJ.rfl' 0 (by decide) (by decide) 0 0 0 0 (by omega) (by omega) (by omega) (by omega) (fun _ _ _ => False) (Or.inl ⟨by rw [hF1, fset_eq], fun _ _ _ => id⟩)) rfl rfl (Nat.le_of_ble_eq_true rfl) ⟨by omega, by omega⟩ dX12_tourNow_12 (fun _ _ h => False.elim h) (fun v12 σ' hp12 => ?_)
  obtain ⟨rfl, F2, rfl, hKF2, hZF2, hLF2⟩ := hp12
  have hJF2 : rJ F F2 := (hJF1 : rJ F F1).trans hKF2
  obtain ⟨ha0, ha1, ha2⟩ := tBs_ans b4 hLF2
  show V g κ 3 (0) (0) (t, rO g ad N S F2 σ0) 15 [(0, .ref (ad (0))), (1, .int (nI (mo))), (2, .int (nI (w)))] []
  refine V_iload_n X dX12_tourNow_15 2 rfl ?_
  refine V_ifneN X (by omega) (tgt := 26) dX12_tourNow_16 (by decide) (fun h3 => ?_) (fun h3 => ?_)
  · -- 16 true
    refine V_iload_n X dX12_tourNow_26 2 rfl ?_
    refine V_iconst (v := nI 1) X dX12_tourNow_27 (by decide) ?_
    refine V_icmpneN X (by omega) (by omega) (tgt := 38) dX12_tourNow_28 (by decide) (fun h4 => ?_) (fun h4 => ?_)
    · -- 28 true
      refine V_aload_n X dX12_tourNow_38 0 rfl ?_
      refine R_getf X fl_X12_248 hK (0) (rlv (by omega)) rfl rfl dX12_tourNow_39 (V.topi (fun x5 ex5 => ?_))
      exact V_iret X E (by omega) (by omega) ⟨_, rfl, by obtain rfl : w = 2 := (by omega); rw [ex5]; exact ha2, _, rfl, hJF2, by rw [hZF2, hF1, fset_ne (by omega)]⟩ dX12_tourNow_42
    · -- 28 false
      refine V_aload_n X dX12_tourNow_31 0 rfl ?_
      refine R_getf X fl_X12_245 hK (0) (rlv (by omega)) rfl rfl dX12_tourNow_32 (V.topi (fun x6 ex6 => ?_))
      refine V_goto (tgt := 42) X dX12_tourNow_35 (by decide) ?_
      exact V_iret X E (by omega) (by omega) ⟨_, rfl, by obtain rfl : w = 1 := (by omega); rw [ex6]; exact ha1, _, rfl, hJF2, by rw [hZF2, hF1, fset_ne (by omega)]⟩ dX12_tourNow_42
  · -- 16 false
    refine V_aload_n X dX12_tourNow_19 0 rfl ?_
    refine R_getf X fl_X12_251 hK (0) (rlv (by omega)) rfl rfl dX12_tourNow_20 (V.topi (fun x7 ex7 => ?_))
    refine V_goto (tgt := 42) X dX12_tourNow_23 (by decide) ?_
    exact V_iret X E (by omega) (by omega) ⟨_, rfl, by obtain rfl : w = 0 := (by omega); rw [ex7]; exact ha0, _, rfl, hJF2, by rw [hZF2, hF1, fset_ne (by omega)]⟩ dX12_tourNow_42
