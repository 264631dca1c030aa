/-! ===== the reference's search: whether a row can be filled ===== -/
def zCan (pl : Nat → Nat → Prop) (cl : Nat → Int32) (nA : Nat) (due most : Int32) : Nat → Nat → Int32 → (Nat → Int32) → Prop
  | 0, _, _, _ => True
  | r + 1, part, used, row => (zIn due (nI part) → ∃ i, i < nA ∧ pl i part ∧ (zIn used (nI i) ∨ ¬ zbc used = most) ∧ (∀ o, o < part → ¬ row o = nI i ∨ ¬ zIn (cl part) (nI o)) ∧ zCan pl cl nA due most r (part + 1) (used ||| nI (2 ^ i)) (upd row part (nI i))) ∧ (¬ zIn due (nI part) → zCan pl cl nA due most r (part + 1) used (upd row part (-1)))
theorem zCan_row {pl : Nat → Nat → Prop} {cl : Nat → Int32} {nA : Nat} {due most : Int32} : ∀ (r part : Nat) (used : Int32) (row row' : Nat → Int32), (∀ o, o < part → row o = row' o) → zCan pl cl nA due most r part used row → zCan pl cl nA due most r part used row' := by
  intro r
  induction r with
  | zero => intro _ _ _ _ _ _; trivial
  | succ r ih =>
    intro part used row row' he h
    have hu : ∀ x : Int32, ∀ o, o < part + 1 → upd row part x o = upd row' part x o := fun x o ho => by
      by_cases h1 : o = part
      · subst h1; rw [pk_us, pk_us]
      · rw [pk_un h1, pk_un h1]; exact he o (by omega)
    refine ⟨fun hz => ?_, fun hz => ih _ _ _ _ (hu _) (h.2 hz)⟩
    obtain ⟨i, h1, h2, h3, h4, h5⟩ := h.1 hz
    exact ⟨i, h1, h2, h3, fun o ho => by rw [← he o ho]; exact h4 o ho, ih _ _ _ _ (hu _) h5⟩
/-- the row that is found is the first one -/
def zStp (pl : Nat → Nat → Prop) (cl : Nat → Int32) (nA : Nat) (due most : Int32) (r part : Nat) (used : Int32) (row : Nat → Int32) (j : Nat) : Prop := pl j part ∧ (zIn used (nI j) ∨ ¬ zbc used = most) ∧ (∀ o, o < part → ¬ row o = nI j ∨ ¬ zIn (cl part) (nI o)) ∧ zCan pl cl nA due most r (part + 1) (used ||| nI (2 ^ j)) (upd row part (nI j))
def zFst (pl : Nat → Nat → Prop) (cl : Nat → Int32) (nA : Nat) (due most : Int32) : Nat → Nat → Int32 → (Nat → Int32) → (Nat → Int32) → Prop
  | 0, _, _, _, _ => True
  | r + 1, part, used, row, fo => (zIn due (nI part) → ∃ i, i < nA ∧ fo part = nI i ∧ zStp pl cl nA due most r part used row i ∧ (∀ j, j < i → ¬ zStp pl cl nA due most r part used row j) ∧ zFst pl cl nA due most r (part + 1) (used ||| nI (2 ^ i)) (upd row part (nI i)) fo) ∧ (¬ zIn due (nI part) → fo part = -1 ∧ zFst pl cl nA due most r (part + 1) used (upd row part (-1)) fo)
theorem upd_cg {row row' : Nat → Int32} {part : Nat} (he : ∀ o, o < part → row o = row' o) (x : Int32) : ∀ o, o < part + 1 → upd row part x o = upd row' part x o := fun o ho => by
  by_cases h1 : o = part
  · subst h1; rw [pk_us, pk_us]
  · rw [pk_un h1, pk_un h1]; exact he o (by omega)
theorem zStp_row {pl : Nat → Nat → Prop} {cl : Nat → Int32} {nA : Nat} {due most : Int32} {r part j : Nat} {used : Int32} {row row' : Nat → Int32} (he : ∀ o, o < part → row o = row' o) (h : zStp pl cl nA due most r part used row j) : zStp pl cl nA due most r part used row' j := ⟨h.1, h.2.1, fun o ho => by rw [← he o ho]; exact h.2.2.1 o ho, zCan_row _ _ _ _ _ (upd_cg he _) h.2.2.2⟩
theorem zFst_row {pl : Nat → Nat → Prop} {cl : Nat → Int32} {nA : Nat} {due most : Int32} {fo : Nat → Int32} : ∀ (r part : Nat) (used : Int32) (row row' : Nat → Int32), (∀ o, o < part → row o = row' o) → zFst pl cl nA due most r part used row fo → zFst pl cl nA due most r part used row' fo := by
  intro r
  induction r with
  | zero => intro _ _ _ _ _ _; trivial
  | succ r ih =>
    intro part used row row' he h
    refine ⟨fun hz => ?_, fun hz => ⟨(h.2 hz).1, ih _ _ _ _ (upd_cg he _) (h.2 hz).2⟩⟩
    obtain ⟨i, h1, h2, h3, h4, h5⟩ := h.1 hz
    exact ⟨i, h1, h2, zStp_row he h3, fun j hj q => h4 j hj (zStp_row (fun o ho => (he o ho).symm) q), ih _ _ _ _ (upd_cg he _) h5⟩
/-- but for the row nothing has changed, and the row not below part -/
def zRw (part : Nat) (F F' : Nat → Nat → Int32) : Prop := (∀ k, k ≠ 12 → F' k = F k) ∧ ∀ o, o < part → F' 12 o = F 12 o
theorem zRw.rfl' {part : Nat} {F : Nat → Nat → Int32} : zRw part F F := ⟨fun _ _ => rfl, fun _ _ => rfl⟩
theorem zRw.set {part j : Nat} {F G G' : Nat → Nat → Int32} {x : Int32} (h : zRw part F G) (hF : G' = fset G 12 j x) (hj : part ≤ j) : zRw part F G' := ⟨fun k hk => by rw [hF, fset_other hk]; exact h.1 k hk, fun o ho => by rw [hF, fset_ne (Or.inr (by omega))]; exact h.2 o ho⟩
theorem zRw.tr {part : Nat} {F G H : Nat → Nat → Int32} (h1 : zRw part F G) (h2 : zRw (part + 1) G H) : zRw part F H := ⟨fun k hk => (h2.1 k hk).trans (h1.1 k hk), fun o ho => (h2.2 o (by omega)).trans (h1.2 o ho)⟩
theorem zRw.j {part : Nat} {F G : Nat → Nat → Int32} (h : zRw part F G) : rJ F G := fun k j hk => by
  by_cases h12 : k = 12
  · subst h12; exact absurd hk (by rw [rsc_t (Or.inl rfl)]; decide)
  · rw [h.1 k h12]
theorem zRw.pl {part : Nat} {F G : Nat → Nat → Int32} (h : zRw part F G) : zPl G = zPl F := by
  funext i p
  unfold zPl
  by_cases h1 : 21 + i = 12
  · omega
  · by_cases h2 : 14 + p = 12
    · omega
    · rw [h.1 _ h1, h.1 _ h2]
def fCan (N : Nat → Nat) (F : Nat → Nat → Int32) (due most : Int32) (r part : Nat) (used : Int32) (row : Nat → Int32) : Prop := zCan (zPl F) (F 13) (N 1) due most r part used row
theorem fCan_mv {N : Nat → Nat} {F G : Nat → Nat → Int32} {due most used x : Int32} {r part : Nat} (h : zRw part F G) (e : G 12 part = x) : fCan N G due most r (part + 1) used (G 12) ↔ fCan N F due most r (part + 1) used (upd (F 12) part x) := by
  unfold fCan
  rw [h.pl, h.1 13 (by decide)]
  have hu : ∀ o, o < part + 1 → G 12 o = upd (F 12) part x o := fun o ho => by
    by_cases h1 : o = part
    · subst h1; rw [pk_us]; exact e
    · rw [pk_un h1]; exact h.2 o (by omega)
  exact ⟨zCan_row _ _ _ _ _ hu, zCan_row _ _ _ _ _ fun o ho => (hu o ho).symm⟩
def zOk (N : Nat → Nat) (due : Int32) (F : Nat → Nat → Int32) (p : Nat) : Prop := (F 12 p = -1 ∧ ¬ zIn due (nI p)) ∨ ∃ q, q < N 1 ∧ F 12 p = nI q
def fFst (N : Nat → Nat) (F : Nat → Nat → Int32) (due most : Int32) (r part : Nat) (used : Int32) (row fo : Nat → Int32) : Prop := zFst (zPl F) (F 13) (N 1) due most r part used row fo
theorem fFst_mv {N : Nat → Nat} {F G : Nat → Nat → Int32} {due most used x : Int32} {r part : Nat} {fo : Nat → Int32} (h : zRw part F G) (e : G 12 part = x) : fFst N G due most r (part + 1) used (G 12) fo → fFst N F due most r (part + 1) used (upd (F 12) part x) fo := by
  unfold fFst
  rw [h.pl, h.1 13 (by decide)]
  refine zFst_row _ _ _ _ _ fun o ho => ?_
  by_cases h1 : o = part
  · subst h1; rw [pk_us]; exact e
  · rw [pk_un h1]; exact h.2 o (by omega)
def qFill (g : zG) (t : Nat × Nat) (ad N : Nat → Nat) (S : Int64) (σ0 : Nat → Option va_E) (F : Nat → Nat → Int32) (r part : Nat) (due used most : Int32) : Option Value → zS → Prop := fun v σ' => ∃ F' : Nat → Nat → Int32, σ' = (t, rO g ad N S F' σ0) ∧ zRw part F F' ∧ ((v = some (.int (nI 1)) ∧ fCan N F due most r part used (F 12) ∧ (∀ p, part ≤ p → p < N 0 → zOk N due F' p) ∧ fFst N F due most r part used (F 12) (F' 12)) ∨ (v = some (.int (nI 0)) ∧ ¬ fCan N F due most r part used (F 12)))
def fAll (F : Nat → Nat → Int32) (part j m : Nat) : Prop := ∀ o, o < m → ¬ F 12 o = nI j ∨ ¬ zIn (F 13 part) (nI o)
theorem fAll_1 {F : Nat → Nat → Int32} {part j m : Nat} {x w : Int32} (h : (x = nI 1 ∧ fAll F part j m) ∨ (x = nI 0 ∧ ¬ fAll F part j m)) (c : ¬ F 12 m = nI j ∨ ¬ zIn (F 13 part) (nI m)) (e : w = x &&& nI 1) : (w = nI 1 ∧ fAll F part j (m + 1)) ∨ (w = nI 0 ∧ ¬ fAll F part j (m + 1)) := by
  rcases h with ⟨rfl, h⟩ | ⟨rfl, h⟩
  · refine Or.inl ⟨by rw [e]; decide, fun o ho => ?_⟩
    by_cases h1 : o = m
    · subst h1; exact c
    · exact h o (by omega)
  · exact Or.inr ⟨by rw [e]; decide, fun q => h fun o ho => q o (by omega)⟩
theorem fAll_0 {F : Nat → Nat → Int32} {part j m : Nat} {x w : Int32} (h : (x = nI 1 ∧ fAll F part j m) ∨ (x = nI 0 ∧ ¬ fAll F part j m)) (c : ¬ (¬ F 12 m = nI j ∨ ¬ zIn (F 13 part) (nI m))) (e : w = x &&& nI 0) : (w = nI 1 ∧ fAll F part j (m + 1)) ∨ (w = nI 0 ∧ ¬ fAll F part j (m + 1)) := by
  rcases h with ⟨rfl, h⟩ | ⟨rfl, h⟩
  · exact Or.inr ⟨by rw [e]; decide, fun q => c (q m (by omega))⟩
  · exact Or.inr ⟨by rw [e]; decide, fun q => c (q m (by omega))⟩
def fStep (N : Nat → Nat) (F : Nat → Nat → Int32) (due most : Int32) (r part : Nat) (used : Int32) (j : Nat) : Prop := zPl F j part ∧ (zIn used (nI j) ∨ ¬ zbc used = most) ∧ fAll F part j part ∧ fCan N F due most r (part + 1) (used ||| nI (2 ^ j)) (upd (F 12) part (nI j))
theorem fCan_succ {N : Nat → Nat} {F : Nat → Nat → Int32} {due most : Int32} {r part : Nat} {used : Int32} : fCan N F due most (r + 1) part used (F 12) ↔ (zIn due (nI part) → ∃ i, i < N 1 ∧ fStep N F due most r part used i) ∧ (¬ zIn due (nI part) → fCan N F due most r (part + 1) used (upd (F 12) part (-1))) := Iff.rfl
theorem fOk {N : Nat → Nat} {due : Int32} {part : Nat} {G H : Nat → Nat → Int32} (hw : zRw (part + 1) G H) (c : ∀ p, part + 1 ≤ p → p < N 0 → zOk N due H p) (h : (G 12 part = -1 ∧ ¬ zIn due (nI part)) ∨ ∃ q, q < N 1 ∧ G 12 part = nI q) : ∀ p, part ≤ p → p < N 0 → zOk N due H p := fun p h1 h2 => by
  by_cases e : p = part
  · subst e
    unfold zOk
    rw [hw.2 p (by omega)]
    exact h
  · exact c p (by omega) h2
theorem fFst_succ {N : Nat → Nat} {F : Nat → Nat → Int32} {due most : Int32} {r part : Nat} {used : Int32} {fo : Nat → Int32} : fFst N F due most (r + 1) part used (F 12) fo ↔ (zIn due (nI part) → ∃ i, i < N 1 ∧ fo part = nI i ∧ fStep N F due most r part used i ∧ (∀ j, j < i → ¬ fStep N F due most r part used j) ∧ fFst N F due most r (part + 1) (used ||| nI (2 ^ i)) (upd (F 12) part (nI i)) fo) ∧ (¬ zIn due (nI part) → fo part = -1 ∧ fFst N F due most r (part + 1) used (upd (F 12) part (-1)) fo) := Iff.rfl
