/-! the class's text, images, undo -/
theorem mk2_R (a b : Bool) : 0 ≤ mk2 a b ∧ mk2 a b ≤ 3 := by cases a <;> cases b <;> decide
theorem mk2_or (a b : Bool) (i : Int) (hi : i = 0 ∨ i = 1) : bg_bor (mk2 a b) (bg_shl 1 i) = (if i = 0 then mk2 true b else mk2 a true) := by
  rcases hi with rfl | rfl <;> cases a <;> cases b <;> decide
theorem mk2_and (a b : Bool) (i : Int) (hi : i = 0 ∨ i = 1) : bg_band (mk2 a b) (bg_shl 1 i) = 0 ↔ ¬ (if i = 0 then a else b) = true := by
  rcases hi with rfl | rfl <;> cases a <;> cases b <;> decide
theorem bg_imgs : ∀ p, p < 2 → bg_F 115 p = some (116 + 16 * p) ∧ bg_sta (116 + 16 * p) := by
  intro p hp
  have h1 : bg_F 115 p = some (116 + 16 * p) := by
    revert p
    decide +kernel
  refine ⟨h1, bg_stas _ ?_⟩
  have : p = 0 ∨ p = 1 := by omega
  rcases this with rfl | rfl <;> simp
theorem clsR.T {g g' : bg_E} {Z : bm_X} (h : clsR g Z) (hf : frT g g') (ht : txC g' Z.2.2.2) : clsR g' Z ∧ frR 0 198 g g' := by
  have hf2 : ∀ x, ¬ (x = 148 ∨ x = 149) → ¬ (150 ≤ x ∧ x < 153) → g' x = g x := fun x hx hy => funext fun j => hf x j (by omega) hy
  exact ⟨h.txt hf2 ht, fun x hx => hf2 x (by omega) (by omega)⟩
