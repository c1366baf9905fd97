/-! reading the whole text -/
abbrev bm_R : Type := Int × Nat × bm_Q
def prs5 (t : List Int) (d : Int) (q : bm_Q) (p : Nat) : bm_R := if p = t.length then (d, p, q) else (-1, p, [])
def prs4 (t : List Int) (d : Int) (q : bm_Q) (p : Nat) : bm_R := if chr t p = 59 then prs5 t d q (skp t (p + 1)) else (-1, p, [])
def prs3 (t : List Int) (d : Int) (B : Bool × Nat × bm_Q) : bm_R := if B.1 = true then prs4 t d B.2.2 (skp t B.2.1) else (-1, B.2.1, [])
def prs2 (t : List Int) (d : Int) (p : Nat) : bm_R := if chr t p = 58 then prs3 t d (prsB t 24 (p + 1) []) else (-1, p, [])
def prs (t : List Int) : bm_R := if isHo (chr t (skp t 0) - 48) then prs2 t (chr t (skp t 0) - 48) (skp t (skp t 0 + 1)) else (-1, skp t 0, [])
def frT (g g' : bg_E) : Prop := ∀ x j : Nat, ¬ (x = 148 ∧ (j = 2 ∨ j = 3)) → ¬ (150 ≤ x ∧ x < 153) → g' x j = g x j
theorem frB.T {g g1 : bg_E} (h : frB g g1) : frT g g1 := fun x j hx hy => h x j (by omega) hy
theorem frT.tr {g g1 g2 : bg_E} (h : frT g g1) (h2 : frT g1 g2) : frT g g2 := fun x j hx hy => (h2 x j hx hy).trans (h x j hx hy)
theorem prsT_ok {t : List Int} {p : Nat} : (prsT t p).1 = 0 ∨ (1 ≤ (prsT t p).1 ∧ (prsT t p).1 ≤ 99) := by
  unfold prsT
  split
  · exact Or.inl rfl
  · split
    · refine Or.inr ⟨?_, ?_⟩ <;> (simp only []; omega)
    · refine Or.inr ⟨?_, ?_⟩ <;> (simp only []; omega)
theorem prsB_ok {t : List Int} : ∀ (f p : Nat) (a : bm_Q), colOK a → colOK (prsB t f p a).2.2 ∧ (prsB t f p a).2.2.length ≤ a.length + f
  | 0, p, a, ha => ⟨ha, Nat.le_refl _⟩
  | f + 1, p, a, ha => by
    rw [prsB]
    split
    · exact ⟨ha, by show a.length ≤ _; omega⟩
    · rename_i h1
      have h1' : isMa (chr t (skp t p) - 97) := Classical.not_not.mp h1
      split
      · exact ⟨ha, by show a.length ≤ _; omega⟩
      · rename_i h2
        have h3 : colOK (a ++ [(chr t (skp t p) - 97, (prsT t (skp t (skp t p + 1))).1)]) := by
          intro x hx
          rcases List.mem_append.mp hx with h | h
          · exact ha x h
          · rw [List.mem_singleton.mp h]
            rcases prsT_ok (t := t) (p := skp t (skp t p + 1)) with h4 | h4
            · exact absurd h4 h2
            · exact ⟨by show 0 ≤ _ - 97; omega, by show _ - 97 ≤ 25; omega, h4.1, h4.2⟩
        have h5 := prsB_ok (t := t) f (prsT t (skp t (skp t p + 1))).2 _ h3
        rw [List.length_append, List.length_singleton] at h5
        exact ⟨h5.1, by omega⟩
theorem prs_ok {t : List Int} : colOK (prs t).2.2 ∧ (prs t).2.2.length ≤ 24 ∧ ((prs t).1 = -1 ∨ isHo (prs t).1) := by
  have e : ∀ q : Nat, colOK ((-1, q, []) : bm_R).2.2 ∧ ((-1, q, []) : bm_R).2.2.length ≤ 24 ∧ (((-1, q, []) : bm_R).1 = -1 ∨ isHo ((-1, q, []) : bm_R).1) := fun q => ⟨(fun x hx => by cases hx), by simp, Or.inl rfl⟩
  unfold prs
  split
  · rename_i h0
    unfold prs2
    split
    · have h1 := prsB_ok (t := t) 24 (skp t (skp t 0 + 1) + 1) [] (fun x hx => by cases hx)
      generalize prsB t 24 (skp t (skp t 0 + 1) + 1) [] = B at h1 ⊢
      unfold prs3
      split
      · unfold prs4
        split
        · unfold prs5
          split
          · exact ⟨h1.1, by have := h1.2; simpa using this, Or.inr h0⟩
          · exact e _
        · exact e _
      · exact e _
    · exact e _
  · exact e _
/-- the text, wherever the reading stands -/
def txC (g : bg_E) (t : List Int) : Prop := g 148 1 = (t.length : Int) ∧ t.length ≤ 100 ∧ (∀ k, k < t.length → g 149 k = chr t k) ∧ txOK t
theorem txR.C {g : bg_E} {t : List Int} {p : Nat} (h : txR g t p) : txC g t := ⟨h.1, h.2.1, h.2.2.1, h.2.2.2.1⟩
theorem txC.up {g : bg_E} {t : List Int} (h : txC g t) : txR (bg_up g 148 2 0) t 0 := ⟨by rw [up_k (by decide)]; exact h.1, h.2.1, fun k hk => by rw [up_a (by decide)]; exact h.2.2.1 k hk, h.2.2.2, by rw [up_eq]; rfl, Nat.zero_le _⟩
