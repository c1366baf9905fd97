/-! reading the whole text -/
abbrev bm_R : Type := Int × Nat × bm_Q
def prs5 (t : List Int) (d : Int) (q : bm_Q) (p : Nat) : bm_R := if p = t.length then (d, p, q) else (-1, p, [])
def prs4 (t : List Int) (d : Int) (q : bm_Q) (p : Nat) : bm_R := if chr t p = 59 then prs5 t d q (skp t (p + 1)) else (-1, p, [])
def prs3 (t : List Int) (d : Int) (B : Bool × Nat × bm_Q) : bm_R := if B.1 = true then prs4 t d B.2.2 (skp t B.2.1) else (-1, B.2.1, [])
def prs2 (t : List Int) (d : Int) (p : Nat) : bm_R := if chr t p = 58 then prs3 t d (prsB t 24 (p + 1) []) else (-1, p, [])
def prs (t : List Int) : bm_R := if isHo (chr t (skp t 0) - 48) then prs2 t (chr t (skp t 0) - 48) (skp t (skp t 0 + 1)) else (-1, skp t 0, [])
def frT (g g' : bg_E) : Prop := ∀ x j : Nat, ¬ (x = 148 ∧ (j = 2 ∨ j = 3)) → ¬ (150 ≤ x ∧ x < 153) → g' x j = g x j
theorem frB.T {g g1 : bg_E} (h : frB g g1) : frT g g1 := fun x j hx hy => h x j (by omega) hy
theorem frT.tr {g g1 g2 : bg_E} (h : frT g g1) (h2 : frT g1 g2) : frT g g2 := fun x j hx hy => (h2 x j hx hy).trans (h x j hx hy)
theorem prsT_ok {t : List Int} {p : Nat} : (prsT t p).1 = 0 ∨ (1 ≤ (prsT t p).1 ∧ (prsT t p).1 ≤ 99) := by
  unfold prsT
  split
  · exact Or.inl rfl
  · split
    · refine Or.inr ⟨?_, ?_⟩ <;> (simp only []; omega)
    · refine Or.inr ⟨?_, ?_⟩ <;> (simp only []; omega)
theorem prsB_ok {t : List Int} : ∀ (f p : Nat) (a : bm_Q), colOK a → colOK (prsB t f p a).2.2 ∧ (prsB t f p a).2.2.length ≤ a.length + f
  | 0, p, a, ha => ⟨ha, Nat.le_refl _⟩
  | f + 1, p, a, ha => by
    rw [prsB]
    split
    · exact ⟨ha, by show a.length ≤ _; omega⟩
    · rename_i h1
      have h1' : isMa (chr t (skp t p) - 97) := Classical.not_not.mp h1
      split
      · exact ⟨ha, by show a.length ≤ _; omega⟩
      · rename_i h2
        have h3 : colOK (a ++ [(chr t (skp t p) - 97, (prsT t (skp t (skp t p + 1))).1)]) := by
          intro x hx
          rcases List.mem_append.mp hx with h | h
          · exact ha x h
          · rw [List.mem_singleton.mp h]
            rcases prsT_ok (t := t) (p := skp t (skp t p + 1)) with h4 | h4
            · exact absurd h4 h2
            · exact ⟨by show 0 ≤ _ - 97; omega, by show _ - 97 ≤ 25; omega, h4.1, h4.2⟩
        have h5 := prsB_ok (t := t) f (prsT t (skp t (skp t p + 1))).2 _ h3
        rw [List.length_append, List.length_singleton] at h5
        exact ⟨h5.1, by omega⟩
theorem prs_ok {t : List Int} : colOK (prs t).2.2 ∧ (prs t).2.2.length ≤ 24 ∧ ((prs t).1 = -1 ∨ isHo (prs t).1) := by
  have e : ∀ q : Nat, colOK ((-1, q, []) : bm_R).2.2 ∧ ((-1, q, []) : bm_R).2.2.length ≤ 24 ∧ (((-1, q, []) : bm_R).1 = -1 ∨ isHo ((-1, q, []) : bm_R).1) := fun q => ⟨(fun x hx => by cases hx), by simp, Or.inl rfl⟩
  unfold prs
  split
  · rename_i h0
    unfold prs2
    split
    · have h1 := prsB_ok (t := t) 24 (skp t (skp t 0 + 1) + 1) [] (fun x hx => by cases hx)
      generalize prsB t 24 (skp t (skp t 0 + 1) + 1) [] = B at h1 ⊢
      unfold prs3
      split
      · unfold prs4
        split
        · unfold prs5
          split
          · exact ⟨h1.1, by have := h1.2; simpa using this, Or.inr h0⟩
          · exact e _
        · exact e _
      · exact e _
    · exact e _
  · exact e _
/-- the text, wherever the reading stands -/
def txC (g : bg_E) (t : List Int) : Prop := g 148 1 = (t.length : Int) ∧ t.length ≤ 100 ∧ (∀ k, k < t.length → g 149 k = chr t k) ∧ txOK t
theorem txR.C {g : bg_E} {t : List Int} {p : Nat} (h : txR g t p) : txC g t := ⟨h.1, h.2.1, h.2.2.1, h.2.2.2.1⟩
theorem txC.up {g : bg_E} {t : List Int} (h : txC g t) : txR (bg_up g 148 2 0) t 0 := ⟨by rw [up_k (by decide)]; exact h.1, h.2.1, fun k hk => by rw [up_a (by decide)]; exact h.2.2.1 k hk, h.2.2.2, by rw [up_eq]; rfl, Nat.zero_le _⟩
theorem c_X5_parse {y : bg_Y} {g : bg_E} {t : List Int} (hT : txC g t) : bg_Si y 3 mX5_parse [.inr 148] g (fun r g' => r = b2i (0 ≤ (prs t).1) ∧ txR g' t (prs t).2.1 ∧ (0 ≤ (prs t).1 → g' 148 3 = (prs t).1 ∧ colR g' 150 (prs t).2.2) ∧ frT g g') := by
  have h4 := hT.2.2.2
  have k0 : bg_col 150 := bg_cols 150 (by simp)
  obtain ⟨m1, m2, m3, m4, m5⟩ := id k0
  have fin0 : ∀ (g1 : bg_E) (q : Nat), prs t = (-1, q, []) → txR g1 t q → frT g g1 → (0 : Int) = b2i (0 ≤ (prs t).1) ∧ txR g1 t (prs t).2.1 ∧ (0 ≤ (prs t).1 → g1 148 3 = (prs t).1 ∧ colR g1 150 (prs t).2.2) ∧ frT g g1 := by
    intro g1 q e1 e2 e3
    rw [e1]
    have n0 : ¬ (0 : Int) ≤ -1 := by decide
    exact ⟨(b2i_f n0).symm, e2, fun h => absurd h n0, e3⟩
  refine bg_enter pnX5 (Nat.le_of_ble_eq_true rfl) (fun κ X hR hg => ?_)
  have X1 : bg_X κ y cX5_parse RX5 3 0 0 := X.1
  have hg : ∀ a k, R32 (g a k) := hg
  show bg_g κ y 0 [some (.inr 148)] [] g
  refine bg_aload0 (pc := 0) X1 dX5_parse_0 ?_
  refine bg_iconst (pc := 1) X1 dX5_parse_1 (by decide) ?_
  refine bo_putI (pc := 2) X1 dX5_parse_2 fX5_19 (by first | assumption | rfl) rfl ?_
  refine bg_aload0 (pc := 5) X1 dX5_parse_5 ?_
  refine bo_getR (pc := 6) X1 dX5_parse_6 fX5_28 (by first | assumption | rfl) rfl (by first | assumption | rfl) ?_
  refine bo_V0v (pc := 9) X1 (c_X0_clear k0) vX0_clear lX5_32 rfl (by first | assumption | rfl) (by decide) dX5_parse_9 (by exact Nat.le_of_ble_eq_true rfl) ?_
  rintro _ h8
  obtain rfl := h8.symm
  clear h8
  have x0 : txR (bg_up (bg_up g 148 2 0) 150 1 0) t 0 := by
    refine hT.up.pos (p' := 0) (fun x j hx hy => ?_) (by rw [up_a (by decide), up_eq]; rfl) (Nat.zero_le _)
    exact up_a (by omega)
  have f0 : frT g (bg_up (bg_up g 148 2 0) 150 1 0) := fun x j hx hy => by
    unfold bg_up
    rw [if_neg (by omega), if_neg (by omega)]
  have q0 : colR (bg_up (bg_up g 148 2 0) 150 1 0) 150 [] := ⟨by rw [up_eq]; rfl, by simp, fun k hk => by simp at hk⟩
  refine bg_aload0 (pc := 12) X1 dX5_parse_12 ?_
  refine bo_V0i (pc := 13) X1 (c_X5_parseHole x0) vX5_parseHole lX5_35 rfl (by first | assumption | rfl) (by decide) dX5_parse_13 (by exact Nat.le_of_ble_eq_true rfl) ?_
  rintro r13 g1 ⟨z0, z1, z2, z3⟩
  have f1 : frT g g1 := f0.tr (fun x j hx hy => z3 x j hx)
  have q1 : colR g1 150 [] := by
    unfold colR
    rw [z3 150 1 (by omega)]
    exact ⟨q0.1, by simp, fun k hk => by simp at hk⟩
  subst z0
  refine bo_ifeq_b (pc := 16) X1 (tgt := 44) dX5_parse_16 (by decide) (fun u16 => ?_) (fun u16 => ?_)
  · refine bg_iconst (pc := 44) X1 dX5_parse_44 (by decide) ?_
    rw [if_neg u16] at z1
    exact bo_zret (pc := 45) X rfl (Or.inl rfl) dX5_parse_45 (fin0 g1 _ (by unfold prs; rw [if_neg u16]) z1 f1)
  rw [if_pos u16] at z1
  have w1 := z2 u16
  have eq1 : prs t = prs2 t (chr t (skp t 0) - 48) (skp t (skp t 0 + 1)) := by unfold prs; rw [if_pos u16]
  refine bg_aload0 (pc := 19) X1 dX5_parse_19 ?_
  refine bg_bipush (pc := 20) X1 dX5_parse_20 rfl (by decide) ?_
  refine bo_V1i (pc := 22) X1 (c_X5_parseSign z1 (by decide)) vX5_parseSign lX5_39 rfl (by first | assumption | rfl) (by decide) dX5_parse_22 (by exact Nat.le_of_ble_eq_true rfl) ?_
  rintro r22 g2 ⟨z4, z5, z6⟩
  subst z4
  refine bo_ifeq_b (pc := 25) X1 (tgt := 44) dX5_parse_25 (by decide) (fun u25 => ?_) (fun u25 => ?_)
  · refine bg_iconst (pc := 44) X1 dX5_parse_44 (by decide) ?_
    rw [if_neg u25] at z5
    exact bo_zret (pc := 45) X rfl (Or.inl rfl) dX5_parse_45 (fin0 g2 _ (by rw [eq1]; unfold prs2; rw [if_neg u25]) z5 (f1.tr z6.B.T))
  rw [if_pos u25] at z5
  have eq2 : prs t = prs3 t (chr t (skp t 0) - 48) (prsB t 24 (skp t (skp t 0 + 1) + 1) []) := by rw [eq1]; unfold prs2; rw [if_pos u25]
  refine bg_aload0 (pc := 28) X1 dX5_parse_28 ?_
  refine bo_V0i (pc := 29) X1 (c_X5_parseBeds z5 (z6.col q1)) vX5_parseBeds lX5_43 rfl (by first | assumption | rfl) (by decide) dX5_parse_29 (by exact Nat.le_of_ble_eq_true rfl) ?_
  rintro r29 g3 ⟨z7, z8, z9, z10⟩
  generalize prsB t 24 (skp t (skp t 0 + 1) + 1) [] = B at z7 z8 z9 eq2
  subst z7
  have f3 : frT g g3 := (f1.tr z6.B.T).tr z10.T
  refine bo_ifeq_b (pc := 32) X1 (tgt := 44) dX5_parse_32 (by decide) (fun u32 => ?_) (fun u32 => ?_)
  · refine bg_iconst (pc := 44) X1 dX5_parse_44 (by decide) ?_
    exact bo_zret (pc := 45) X rfl (Or.inl rfl) dX5_parse_45 (fin0 g3 _ (by rw [eq2]; unfold prs3; rw [if_neg u32]) z8 f3)
  have eq3 : prs t = prs4 t (chr t (skp t 0) - 48) B.2.2 (skp t B.2.1) := by rw [eq2]; unfold prs3; rw [if_pos u32]
  refine bg_aload0 (pc := 35) X1 dX5_parse_35 ?_
  refine bg_bipush (pc := 36) X1 dX5_parse_36 rfl (by decide) ?_
  refine bo_V1i (pc := 38) X1 (c_X5_parseSign z8 (by decide)) vX5_parseSign lX5_39 rfl (by first | assumption | rfl) (by decide) dX5_parse_38 (by exact Nat.le_of_ble_eq_true rfl) ?_
  rintro r38 g4 ⟨z11, z12, z13⟩
  subst z11
  refine bo_ifne_b (pc := 41) X1 (tgt := 46) dX5_parse_41 (by decide) (fun u41 => ?a41) (fun u41 => ?b41)
  case b41 =>
    refine bg_iconst (pc := 44) X1 dX5_parse_44 (by decide) ?_
    rw [if_neg u41] at z12
    exact bo_zret (pc := 45) X rfl (Or.inl rfl) dX5_parse_45 (fin0 g4 _ (by rw [eq3]; unfold prs4; rw [if_neg u41]) z12 (f3.tr z13.B.T))
  rw [if_pos u41] at z12
  have eq4 : prs t = prs5 t (chr t (skp t 0) - 48) B.2.2 (skp t (skp t B.2.1 + 1)) := by rw [eq3]; unfold prs4; rw [if_pos u41]
  refine bg_aload0 (pc := 46) X1 dX5_parse_46 ?_
  refine bo_V0v (pc := 47) X1 (c_X5_skipSpaces z12) vX5_skipSpaces lX5_46 rfl (by first | assumption | rfl) (by decide) dX5_parse_47 (by exact Nat.le_of_ble_eq_true rfl) ?_
  rintro g5 ⟨z14, z15⟩
  obtain ⟨r1, r2, r3, r4⟩ := z14.R
  have f5 : frT g g5 := (f3.tr z13.B.T).tr z15.B.T
  refine bg_aload0 (pc := 50) X1 dX5_parse_50 ?_
  refine bo_getI (pc := 51) X1 dX5_parse_51 fX5_19 (by first | assumption | rfl) rfl ?_
  refine bg_aload0 (pc := 54) X1 dX5_parse_54 ?_
  refine bo_getI (pc := 55) X1 dX5_parse_55 fX5_15 (by first | assumption | rfl) rfl ?_
  refine bg_icmp_ne (pc := 58) X1 (tgt := 65) dX5_parse_58 (by decide) (fun u58 => ?_) (fun u58 => ?_)
  · rw [r1, r3] at u58
    have eq5 : prs t = (-1, skp t (skp t B.2.1 + 1), []) := by rw [eq4]; unfold prs5; rw [if_neg (by omega)]
    refine bg_iconst (pc := 65) X1 dX5_parse_65 (by decide) ?_
    exact bo_zret (pc := 66) X rfl (by first | exact Or.inl rfl | exact Or.inr rfl | exact b2i_01 _) dX5_parse_66 (by
        first
        | exact fin0 g5 _ eq5 z14 f5
        | (rw [eq5]
           refine ⟨(b2i_t u16.1).symm, z14, fun _ => ⟨?_, z15.col (z13.col z9)⟩, f5⟩
           rw [z15 148 3 (by decide), z13 148 3 (by decide), z10 148 3 (by decide) (by decide), z6 148 3 (by decide)]
           exact w1))
  · rw [r1, r3] at u58
    have eq5 : prs t = (chr t (skp t 0) - 48, skp t (skp t B.2.1 + 1), B.2.2) := by rw [eq4]; unfold prs5; rw [if_pos (by omega)]
    refine bg_iconst (pc := 61) X1 dX5_parse_61 (by decide) ?_
    refine bg_goto (pc := 62) X1 (tgt := 66) dX5_parse_62 (by decide) ?_
    exact bo_zret (pc := 66) X rfl (by first | exact Or.inl rfl | exact Or.inr rfl | exact b2i_01 _) dX5_parse_66 (by
        first
        | exact fin0 g5 _ eq5 z14 f5
        | (rw [eq5]
           refine ⟨(b2i_t u16.1).symm, z14, fun _ => ⟨?_, z15.col (z13.col z9)⟩, f5⟩
           rw [z15 148 3 (by decide), z13 148 3 (by decide), z10 148 3 (by decide) (by decide), z6 148 3 (by decide)]
           exact w1))
