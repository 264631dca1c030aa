/-! ===== the checksum is what the state says ===== -/
section UN
variable {F : Nat → Nat → Int32} {nP nS nA nC nT p w : Nat} {x y am : Int32}
theorem cHo_un (h1 : cHo nP nS nA nC nT F w x) (h2 : cHo nP nS nA nC nT F w y) : x = y := by
  rcases h1 with ⟨rfl, q⟩ | ⟨rfl, q⟩ | ⟨rfl, q⟩ | ⟨rfl, q⟩ | ⟨rfl, q⟩ | ⟨rfl, q⟩ | ⟨rfl, q⟩ | ⟨rfl, b, g, q1, q2⟩ | ⟨rfl, q⟩ | ⟨rfl, q⟩ | ⟨rfl, q⟩ | ⟨rfl, q⟩ | ⟨rfl, q⟩ | ⟨rfl, q⟩ <;> rcases h2 with ⟨w, r⟩ | ⟨w, r⟩ | ⟨w, r⟩ | ⟨w, r⟩ | ⟨w, r⟩ | ⟨w, r⟩ | ⟨w, r⟩ | ⟨w, b', g', r1, r2⟩ | ⟨w, r⟩ | ⟨w, r⟩ | ⟨w, r⟩ | ⟨w, r⟩ | ⟨w, r⟩ | ⟨w, r⟩ <;> first | exact absurd w (by decide) | exact q.trans r.symm | skip
  · rw [q2, r2]
    exact (mBst_uniq cDu_7 q1 r1).1
  · exact mCut_uniq q r
theorem cPt_un (h1 : cPt nP nS nA F p w x) (h2 : cPt nP nS nA F p w y) : x = y := by
  rcases h1 with ⟨rfl, q⟩ | ⟨rfl, q⟩ | ⟨rfl, q⟩ | ⟨rfl, q⟩ | ⟨rfl, q⟩ | ⟨rfl, q⟩ | ⟨rfl, b, g, q1, q2⟩ <;> rcases h2 with ⟨w, r⟩ | ⟨w, r⟩ | ⟨w, r⟩ | ⟨w, r⟩ | ⟨w, r⟩ | ⟨w, r⟩ | ⟨w, b', g', r1, r2⟩ <;> first | exact absurd w (by decide) | exact q.trans r.symm | exact zMk_uniq q r | skip
  exact cRo_uniq cDu_7 q1 r1 q2 r2
theorem cPl_un (h1 : cPl nP nS nA F p w x) (h2 : cPl nP nS nA F p w y) : x = y := by
  rcases h1 with ⟨rfl, q⟩ | ⟨rfl, q⟩ | ⟨rfl, q⟩ | ⟨rfl, q⟩ | ⟨rfl, b, g, q1, q2⟩ | ⟨rfl, q⟩ <;> rcases h2 with ⟨w, r⟩ | ⟨w, r⟩ | ⟨w, r⟩ | ⟨w, r⟩ | ⟨w, b', g', r1, r2⟩ | ⟨w, r⟩ <;> first | exact absurd w (by decide) | exact q.trans r.symm | skip
  · rcases q with ⟨a, rfl⟩ | ⟨a, rfl⟩ <;> rcases r with ⟨b, rfl⟩ | ⟨b, rfl⟩
    · rfl
    · exact absurd a b
    · exact absurd b a
    · rfl
  · obtain ⟨e, u⟩ := mBst_uniq cDu_7 q1 r1
    subst e
    exact zMk_uniq q2 (r2.cg fun q => and_congr_right fun hn => and_congr_right fun hd => by rw [u hn q hd])
theorem cSc_un (h7 : nP ≤ 7) (h6 : nS ≤ 6) (hp : p < nS) (h1 : cSc nP nS nA nC F p w x) (h2 : cSc nP nS nA nC F p w y) : x = y := by
  have h128 : 2 ^ nP ≤ 128 := zp2 (n := 7) (by omega)
  have mm : ∀ {m m' : Nat}, m < 2 ^ nP → F 5 p = nI m → m' < 2 ^ nP → F 5 p = nI m' → m' = m := fun a b a' b' => (nI_eq (by omega) (by omega)).mp (b'.symm.trans b)
  rcases h1 with ⟨rfl, q⟩ | ⟨rfl, q⟩ | ⟨rfl, m, k, q1, q2, q3, q4⟩ | ⟨rfl, m, c, e, q1, q2, q3, q4⟩ | ⟨rfl, m, c, e, q1, q2, q3, q4⟩ | ⟨rfl, m, b, g, q1, q2, q3, q4⟩ <;> rcases h2 with ⟨w, r⟩ | ⟨w, r⟩ | ⟨w, m', k', r1, r2, r3, r4⟩ | ⟨w, m', c', e', r1, r2, r3, r4⟩ | ⟨w, m', c', e', r1, r2, r3, r4⟩ | ⟨w, m', b', g', r1, r2, r3, r4⟩ <;> first | exact absurd w (by decide) | exact q.trans r.symm | skip
  · obtain rfl : m' = m := mm q1 q2 r1 r2
    rw [q3, r3, MxK_uniq q4 r4]
  · obtain rfl : m' = m := mm q1 q2 r1 r2
    rw [q3, r3, (zLk_un q4 r4).1]
  · obtain rfl : m' = m := mm q1 q2 r1 r2
    rw [q3, r3, (zLk_un q4 r4).2]
  · obtain rfl : m' = m := mm q1 q2 r1 r2
    obtain ⟨eb, u⟩ := mBst_uniq cDu_7 q3 r3
    subst eb
    rcases q4 with ⟨n, rfl⟩ | ⟨n, q4⟩ <;> rcases r4 with ⟨n', rfl⟩ | ⟨n', r4⟩
    · rfl
    · exact absurd n n'
    · exact absurd n' n
    · have e : ∀ c q x, q ∈ pLs m' nP → (cWw F nC g' c q x ↔ cWw F nC g c q x) := fun c q x hq => by
        obtain ⟨z1, z2⟩ := pLs_mem _ hq
        have hd : cDu nS F q := ⟨by omega, p, hp, zallC h6 hp, by rw [q2]; exact (zIn_nat (by omega) (by omega)).mpr z2⟩
        unfold cWw
        rw [u n q hd]
      exact lvX_un q4 (lvX_cg (fun v => exists_congr fun S => ⟨Dy_w e, Dy_w fun c q x hq => (e c q x hq).symm⟩) r4)
theorem cCt_un (h1 : cCt F p w x) (h2 : cCt F p w y) : x = y := by
  rcases h1 with ⟨rfl, q⟩ | ⟨rfl, q⟩ | ⟨rfl, q⟩ | ⟨rfl, q⟩ <;> rcases h2 with ⟨w, r⟩ | ⟨w, r⟩ | ⟨w, r⟩ | ⟨w, r⟩ <;> first | exact absurd w (by decide) | exact q.trans r.symm | skip
  rcases q with ⟨a, rfl⟩ | ⟨a, rfl⟩ <;> rcases r with ⟨b, rfl⟩ | ⟨b, rfl⟩
  · rfl
  · exact absurd a b
  · exact absurd b a
  · rfl
theorem cTn_un (h1 : cTn F p w x) (h2 : cTn F p w y) : x = y := by
  rcases h1 with ⟨rfl, q⟩ | ⟨rfl, q⟩ | ⟨rfl, q⟩ | ⟨rfl, q⟩ <;> rcases h2 with ⟨w, r⟩ | ⟨w, r⟩ | ⟨w, r⟩ | ⟨w, r⟩ <;> first | exact absurd w (by decide) | exact q.trans r.symm
theorem cSh_un (hp : p < nA) (h1 : cSh nP nS nA F am p x) (h2 : cSh nP nS nA F am p y) : x = y := by
  obtain ⟨b, g, q1, q2⟩ := h1
  obtain ⟨b', g', r1, r2⟩ := h2
  rw [q2, r2]
  exact zPo_cg hp (fun _ _ => rfl) (fun i _ => zAc_uniq cDu_7 q1 r1)
theorem cWo_un (h1 : cWo nP nS nA F p x) (h2 : cWo nP nS nA F p y) : x = y := mFew_uniq (fun _ _ hab => mFit_mono hab) h1 h2
theorem cLn_un (h1 : cLn nP nS nA F x) (h2 : cLn nP nS nA F y) : x = y := by
  obtain ⟨b, k, q1, q2⟩ := h1
  obtain ⟨b', k', r1, r2⟩ := h2
  obtain rfl := (mBst_uniq cDu_7 q1 r1).1
  rcases q2 with ⟨n, rfl⟩ | ⟨n, rfl⟩ <;> rcases r2 with ⟨n', rfl⟩ | ⟨n', rfl⟩
  · rfl
  · exact absurd n n'
  · exact absurd n' n
  · rfl
theorem cD1_un {d e e' : Int64} (a : dN (fun w => dS (cHo nP nS nA nC nT F w)) 14 d e) (b : dN (fun w => dS (cHo nP nS nA nC nT F w)) 14 d e') : e = e' := by
  refine dN_un 14 ?_ a b
  intro w _ c x y k k'
  exact dS_un (fun u v ku kv => cHo_un ku kv) k k'
theorem cD2_un {d e e' : Int64} (a : dN (fun p => dN (fun w => dS (cPt nP nS nA F p w)) 7) nP d e) (b : dN (fun p => dN (fun w => dS (cPt nP nS nA F p w)) 7) nP d e') : e = e' := by
  refine dN_un nP ?_ a b
  intro p _ c x y k k'
  refine dN_un 7 ?_ k k'
  intro w _ c x y k k'
  exact dS_un (fun u v ku kv => cPt_un ku kv) k k'
theorem cD3_un {d e e' : Int64} (a : dN (cD3 nP nS nA F) nA d e) (b : dN (cD3 nP nS nA F) nA d e') : e = e' := by
  refine dN_un nA ?_ a b
  intro p hp c x y k k'
  obtain ⟨m, m', k1, k2, k3⟩ := k
  obtain ⟨n, n', l1, l2, l3⟩ := k'
  have q1 : m = n := by
    refine dN_un 6 ?_ k1 l1
    intro w _ c x y k k'
    exact dS_un (fun u v ku kv => cPl_un ku kv) k k'
  subst q1
  have q2 : m' = n' := dS_un (fun u v ku kv => cWo_un ku kv) k2 l2
  subst q2
  exact dS_un (fun u v ku kv => cSh_un hp ku kv) k3 l3
theorem cD4_un {d e e' : Int64} (h7 : nP ≤ 7) (h6 : nS ≤ 6) (a : dN (fun p => dN (fun w => dS (cSc nP nS nA nC F p w)) 6) nS d e) (b : dN (fun p => dN (fun w => dS (cSc nP nS nA nC F p w)) 6) nS d e') : e = e' := by
  refine dN_un nS ?_ a b
  intro p hp c x y k k'
  refine dN_un 6 ?_ k k'
  intro w _ c x y k k'
  exact dS_un (fun u v ku kv => cSc_un h7 h6 hp ku kv) k k'
theorem cD5_un {d e e' : Int64} (a : dN (fun p => dS (cCt F p 3)) nC d e) (b : dN (fun p => dS (cCt F p 3)) nC d e') : e = e' := by
  refine dN_un nC ?_ a b
  intro p _ c x y k k'
  exact dS_un (fun u v ku kv => cCt_un ku kv) k k'
theorem cD6_un {d e e' : Int64} (a : dN (cD6 F) nT d e) (b : dN (cD6 F) nT d e') : e = e' := by
  refine dN_un nT ?_ a b
  intro p _ c x y k k'
  obtain ⟨m, k1, k2⟩ := k
  obtain ⟨n, l1, l2⟩ := k'
  have q : m = n := dS_un (fun u v ku kv => cTn_un ku kv) k1 l1
  subst q
  exact dS_un (fun u v ku kv => cTn_un ku kv) k2 l2
theorem cD7_un {xs ys ks : Nat → Nat} {d e e' : Int64} (a : dN (fun w => dS (tAns xs ys ks nT 150 w)) 3 d e) (b : dN (fun w => dS (tAns xs ys ks nT 150 w)) 3 d e') : e = e' := by
  refine dN_un 3 ?_ a b
  intro w _ c x y k k'
  exact dS_un (fun u v ku kv => tAns_un ku kv) k k'
theorem cDg_un {xs ys ks : Nat → Nat} {d d' : Int64} (h7 : nP ≤ 7) (h6 : nS ≤ 6) (h1 : cDg nP nS nA nC nT F xs ys ks d) (h2 : cDg nP nS nA nC nT F xs ys ks d') : d = d' := by
  obtain ⟨c1, c2, c3, c4, c5, c6, c7, c8, a1, a2, a3, a4, a5, a6, a7, a8, a9⟩ := h1
  obtain ⟨e1, e2, e3, e4, e5, e6, e7, e8, b1, b2, b3, b4, b5, b6, b7, b8, b9⟩ := h2
  have q1 := cD1_un a1 b1
  subst q1
  have q2 := cD2_un a2 b2
  subst q2
  have q3 := cD3_un a3 b3
  subst q3
  have q4 := cD4_un h7 h6 a4 b4
  subst q4
  have q5 := cD5_un a5 b5
  subst q5
  have q6 := cD6_un a6 b6
  subst q6
  have q7 := cD7_un a7 b7
  subst q7
  have q8 : c8 = e8 := dS_un (fun u v ku kv => cLn_un ku kv) a8 b8
  subst q8
  exact dS_un (fun u v ku kv => mTl_un (P := cSd nP nS nA F) (Q := cSd nP nS nA F) Iff.rfl ku kv) a9 b9
variable {G : Nat → Nat → Int32}
theorem cLn_W (h : cRw scM F G) : cLn nP nS nA G = cLn nP nS nA F := by
  funext x
  unfold cLn
  rw [cBs_W h]
theorem cD3_W (h : cRw scM F G) : cD3 nP nS nA G = cD3 nP nS nA F := by
  funext p d d'
  unfold cD3
  rw [cPl_W h, cWo_W h, cSh_W h]
theorem cD6_W (h : cRw scM F G) : cD6 G = cD6 F := by
  funext p d d'
  unfold cD6
  rw [cTn_W h]
theorem cDg_W {xs ys ks : Nat → Nat} {d : Int64} (h : cRw scM F G) : cDg nP nS nA nC nT G xs ys ks d = cDg nP nS nA nC nT F xs ys ks d := by
  unfold cDg
  rw [cHo_W h, cPt_W h, cD3_W h, cSc_W h, cCt_W h, cD6_W h, cLn_W h, cSd_W h]
end UN
