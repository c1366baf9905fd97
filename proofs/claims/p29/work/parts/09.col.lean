/-! the columns -/
abbrev hasP (g : bg_E) (c : Nat) (i : Int) : Prop := 0 ≤ i ∧ i < g c 1 ∧ i < 24
def sumN (f : Nat → Int) : Nat → Int
  | 0 => 0
  | n + 1 => sumN f n + f n
/-- a column whose beds are as they must be -/
def colV (g : bg_E) (c : Nat) : Prop := 0 ≤ g c 1 ∧ g c 1 ≤ 24 ∧ ∀ k : Nat, (k : Int) < g c 1 → 1 ≤ g (c + 2) k ∧ g (c + 2) k ≤ 99 ∧ 0 ≤ g (c + 1) k ∧ g (c + 1) k ≤ 25
theorem sumN_le {f : Nat → Int} : ∀ {n : Nat}, (∀ k, k < n → 0 ≤ f k ∧ f k ≤ 99) → 0 ≤ sumN f n ∧ sumN f n ≤ 99 * n
  | 0, _ => by simp [sumN]
  | n + 1, h => by
    have h1 := sumN_le (n := n) (fun k hk => h k (by omega))
    have h2 := h n (by omega)
    show 0 ≤ sumN f n + f n ∧ sumN f n + f n ≤ 99 * ((n + 1 : Nat) : Int)
    omega
set_option maxHeartbeats 1000000
theorem c_X0_has {y : bg_Y} {g : bg_E} {c : Nat} {i : Int} (hc : bg_col c) : bg_Si y 0 mX0_has [.inr c, .inl i] g (fun r g' => r = b2i (hasP g c i) ∧ g' = g) := by
  obtain ⟨k1, k2, k3, k4, k5⟩ := id hc
  refine bg_enter pnX0 (Nat.le_of_ble_eq_true rfl) (fun κ X hR hg => ?_)
  have X1 : bg_X κ y cX0_has RX0 0 0 0 := X.1
  have hg : ∀ a k, R32 (g a k) := hg
  show bg_g κ y 0 [some (.inr c), some (.inl i)] [] g
  refine bg_iload1 (pc := 0) X1 dX0_has_0 ?_
  refine bg_if_lt (pc := 1) X1 (tgt := 22) dX0_has_1 (by decide) (fun u1 => ?_) (fun u1 => ?_)
  · refine bg_iconst (pc := 22) X1 dX0_has_22 (by decide) ?_
    exact bo_zret (pc := 23) X rfl (by first | exact Or.inl rfl | exact Or.inr rfl | exact b2i_01 _) dX0_has_23 (⟨by first | rfl | exact (b2i_t (by omega)).symm | exact (b2i_f (by omega)).symm, rfl⟩)
  · refine bg_iload1 (pc := 4) X1 dX0_has_4 ?_
    refine bg_aload0 (pc := 5) X1 dX0_has_5 ?_
    refine bo_getI (pc := 6) X1 dX0_has_6 fX0_15 (by first | assumption | rfl) rfl ?_
    refine bg_icmp_ge (pc := 9) X1 (tgt := 22) dX0_has_9 (by decide) (fun u9 => ?_) (fun u9 => ?_)
    · refine bg_iconst (pc := 22) X1 dX0_has_22 (by decide) ?_
      exact bo_zret (pc := 23) X rfl (by first | exact Or.inl rfl | exact Or.inr rfl | exact b2i_01 _) dX0_has_23 (⟨by first | rfl | exact (b2i_t (by omega)).symm | exact (b2i_f (by omega)).symm, rfl⟩)
    · refine bg_iload1 (pc := 12) X1 dX0_has_12 ?_
      refine bg_bipush (pc := 13) X1 dX0_has_13 rfl (by decide) ?_
      refine bg_icmp_ge (pc := 15) X1 (tgt := 22) dX0_has_15 (by decide) (fun u15 => ?_) (fun u15 => ?_)
      · refine bg_iconst (pc := 22) X1 dX0_has_22 (by decide) ?_
        exact bo_zret (pc := 23) X rfl (by first | exact Or.inl rfl | exact Or.inr rfl | exact b2i_01 _) dX0_has_23 (⟨by first | rfl | exact (b2i_t (by omega)).symm | exact (b2i_f (by omega)).symm, rfl⟩)
      · refine bg_iconst (pc := 18) X1 dX0_has_18 (by decide) ?_
        refine bg_goto (pc := 19) X1 (tgt := 23) dX0_has_19 (by decide) ?_
        exact bo_zret (pc := 23) X rfl (by first | exact Or.inl rfl | exact Or.inr rfl | exact b2i_01 _) dX0_has_23 (⟨by first | rfl | exact (b2i_t (by omega)).symm | exact (b2i_f (by omega)).symm, rfl⟩)
theorem c_X0_collarElevation {y : bg_Y} {g : bg_E} {c : Nat} (hc : bg_col c) : bg_Si y 0 mX0_collarElevation [.inr c] g (fun r g' => r = g c 0 ∧ g' = g) := by
  obtain ⟨k1, k2, k3, k4, k5⟩ := id hc
  refine bg_enter pnX0 (Nat.le_of_ble_eq_true rfl) (fun κ X hR hg => ?_)
  have X1 : bg_X κ y cX0_collarElevation RX0 0 0 0 := X.1
  have hg : ∀ a k, R32 (g a k) := hg
  show bg_g κ y 0 [some (.inr c)] [] g
  refine bg_aload0 (pc := 0) X1 dX0_collarElevation_0 ?_
  refine bo_getI (pc := 1) X1 dX0_collarElevation_1 fX0_9 (by first | assumption | rfl) rfl ?_
  exact bo_iret (pc := 4) X rfl dX0_collarElevation_4 (fun hi => ⟨by first | rfl | omega, rfl⟩)
theorem c_X0_size {y : bg_Y} {g : bg_E} {c : Nat} (hc : bg_col c) : bg_Si y 0 mX0_size [.inr c] g (fun r g' => r = g c 1 ∧ g' = g) := by
  obtain ⟨k1, k2, k3, k4, k5⟩ := id hc
  refine bg_enter pnX0 (Nat.le_of_ble_eq_true rfl) (fun κ X hR hg => ?_)
  have X1 : bg_X κ y cX0_size RX0 0 0 0 := X.1
  have hg : ∀ a k, R32 (g a k) := hg
  show bg_g κ y 0 [some (.inr c)] [] g
  refine bg_aload0 (pc := 0) X1 dX0_size_0 ?_
  refine bo_getI (pc := 1) X1 dX0_size_1 fX0_15 (by first | assumption | rfl) rfl ?_
  exact bo_iret (pc := 4) X rfl dX0_size_4 (fun hi => ⟨by first | rfl | omega, rfl⟩)
theorem c_X0_putCollar {y : bg_Y} {g : bg_E} {c : Nat} {v : Int} (hc : bg_col c) : bg_Sv y 0 mX0_putCollar [.inr c, .inl v] g (fun g' => g' = bg_up g c 0 v) := by
  obtain ⟨k1, k2, k3, k4, k5⟩ := id hc
  refine bg_enter pnX0 (Nat.le_of_ble_eq_true rfl) (fun κ X hR hg => ?_)
  have X1 : bg_X κ y cX0_putCollar RX0 0 0 0 := X.1
  have hg : ∀ a k, R32 (g a k) := hg
  show bg_g κ y 0 [some (.inr c), some (.inl v)] [] g
  refine bg_aload0 (pc := 0) X1 dX0_putCollar_0 ?_
  refine bg_iload1 (pc := 1) X1 dX0_putCollar_1 ?_
  refine bo_putI (pc := 2) X1 dX0_putCollar_2 fX0_9 (by first | assumption | rfl) rfl ?_
  exact bo_vret (pc := 5) X rfl dX0_putCollar_5 (fun hg9 => rfl)
theorem c_X0_clear {y : bg_Y} {g : bg_E} {c : Nat} (hc : bg_col c) : bg_Sv y 0 mX0_clear [.inr c] g (fun g' => g' = bg_up g c 1 0) := by
  obtain ⟨k1, k2, k3, k4, k5⟩ := id hc
  refine bg_enter pnX0 (Nat.le_of_ble_eq_true rfl) (fun κ X hR hg => ?_)
  have X1 : bg_X κ y cX0_clear RX0 0 0 0 := X.1
  have hg : ∀ a k, R32 (g a k) := hg
  show bg_g κ y 0 [some (.inr c)] [] g
  refine bg_aload0 (pc := 0) X1 dX0_clear_0 ?_
  refine bg_iconst (pc := 1) X1 dX0_clear_1 (by decide) ?_
  refine bo_putI (pc := 2) X1 dX0_clear_2 fX0_15 (by first | assumption | rfl) rfl ?_
  exact bo_vret (pc := 5) X rfl dX0_clear_5 (fun hg9 => rfl)
theorem c_X0_markOf {y : bg_Y} {g : bg_E} {c : Nat} {i : Int} (hc : bg_col c) : bg_Si y 1 mX0_markOf [.inr c, .inl i] g (fun r g' => r = (if hasP g c i then g (c + 1) i.toNat else -1000009) ∧ g' = g) := by
  obtain ⟨k1, k2, k3, k4, k5⟩ := id hc
  refine bg_enter pnX0 (Nat.le_of_ble_eq_true rfl) (fun κ X hR hg => ?_)
  have X1 : bg_X κ y cX0_markOf RX0 1 0 0 := X.1
  have hg : ∀ a k, R32 (g a k) := hg
  show bg_g κ y 0 [some (.inr c), some (.inl i)] [] g
  refine bg_aload0 (pc := 0) X1 dX0_markOf_0 ?_
  refine bg_iload1 (pc := 1) X1 dX0_markOf_1 ?_
  refine bo_V1i (pc := 2) X1 (c_X0_has (by assumption)) vX0_has lX0_25 rfl (by first | assumption | rfl) (by decide) dX0_markOf_2 (by exact Nat.le_of_ble_eq_true rfl) ?_
  rintro _ _ ⟨h9, h8⟩
  obtain rfl := h9.symm
  obtain rfl := h8.symm
  clear h9 h8
  refine bo_ifeq_b (pc := 5) X1 (tgt := 17) dX0_markOf_5 (by decide) (fun u5 => ?_) (fun u5 => ?_)
  · refine bg_ldc (pc := 17) X1 dX0_markOf_17 kX0_29 (by decide) ?_
    exact bo_iret (pc := 19) X rfl dX0_markOf_19 (fun hi => ⟨by first | rw [if_pos (by assumption)] | rw [if_neg (by assumption)], rfl⟩)
  · refine bg_aload0 (pc := 8) X1 dX0_markOf_8 ?_
    refine bo_getR (pc := 9) X1 dX0_markOf_9 fX0_18 (by first | assumption | rfl) rfl (by first | assumption | rfl) ?_
    refine bg_iload1 (pc := 12) X1 dX0_markOf_12 ?_
    refine bo_iaload (pc := 13) X1 dX0_markOf_13 (by first | assumption | rfl) (by omega) ?_
    refine bg_goto (pc := 14) X1 (tgt := 19) dX0_markOf_14 (by decide) ?_
    exact bo_iret (pc := 19) X rfl dX0_markOf_19 (fun hi => ⟨by first | rw [if_pos (by assumption)] | rw [if_neg (by assumption)], rfl⟩)
theorem c_X0_thicknessOf {y : bg_Y} {g : bg_E} {c : Nat} {i : Int} (hc : bg_col c) : bg_Si y 1 mX0_thicknessOf [.inr c, .inl i] g (fun r g' => r = (if hasP g c i then g (c + 2) i.toNat else 0) ∧ g' = g) := by
  obtain ⟨k1, k2, k3, k4, k5⟩ := id hc
  refine bg_enter pnX0 (Nat.le_of_ble_eq_true rfl) (fun κ X hR hg => ?_)
  have X1 : bg_X κ y cX0_thicknessOf RX0 1 0 0 := X.1
  have hg : ∀ a k, R32 (g a k) := hg
  show bg_g κ y 0 [some (.inr c), some (.inl i)] [] g
  refine bg_aload0 (pc := 0) X1 dX0_thicknessOf_0 ?_
  refine bg_iload1 (pc := 1) X1 dX0_thicknessOf_1 ?_
  refine bo_V1i (pc := 2) X1 (c_X0_has (by assumption)) vX0_has lX0_25 rfl (by first | assumption | rfl) (by decide) dX0_thicknessOf_2 (by exact Nat.le_of_ble_eq_true rfl) ?_
  rintro _ _ ⟨h9, h8⟩
  obtain rfl := h9.symm
  obtain rfl := h8.symm
  clear h9 h8
  refine bo_ifeq_b (pc := 5) X1 (tgt := 17) dX0_thicknessOf_5 (by decide) (fun u5 => ?_) (fun u5 => ?_)
  · refine bg_iconst (pc := 17) X1 dX0_thicknessOf_17 (by decide) ?_
    exact bo_iret (pc := 18) X rfl dX0_thicknessOf_18 (fun hi => ⟨by first | rw [if_pos (by assumption)] | rw [if_neg (by assumption)], rfl⟩)
  · refine bg_aload0 (pc := 8) X1 dX0_thicknessOf_8 ?_
    refine bo_getR (pc := 9) X1 dX0_thicknessOf_9 fX0_22 (by first | assumption | rfl) rfl (by first | assumption | rfl) ?_
    refine bg_iload1 (pc := 12) X1 dX0_thicknessOf_12 ?_
    refine bo_iaload (pc := 13) X1 dX0_thicknessOf_13 (by first | assumption | rfl) (by omega) ?_
    refine bg_goto (pc := 14) X1 (tgt := 18) dX0_thicknessOf_14 (by decide) ?_
    exact bo_iret (pc := 18) X rfl dX0_thicknessOf_18 (fun hi => ⟨by first | rw [if_pos (by assumption)] | rw [if_neg (by assumption)], rfl⟩)
theorem c_X0_putThickness {y : bg_Y} {g : bg_E} {c : Nat} {i v : Int} (hc : bg_col c) : bg_Sv y 1 mX0_putThickness [.inr c, .inl i, .inl v] g (fun g' => g' = if hasP g c i then bg_up g (c + 2) i.toNat v else g) := by
  obtain ⟨k1, k2, k3, k4, k5⟩ := id hc
  refine bg_enter pnX0 (Nat.le_of_ble_eq_true rfl) (fun κ X hR hg => ?_)
  have X1 : bg_X κ y cX0_putThickness RX0 1 0 0 := X.1
  have hg : ∀ a k, R32 (g a k) := hg
  show bg_g κ y 0 [some (.inr c), some (.inl i), some (.inl v)] [] g
  refine bg_aload0 (pc := 0) X1 dX0_putThickness_0 ?_
  refine bg_iload1 (pc := 1) X1 dX0_putThickness_1 ?_
  refine bo_V1i (pc := 2) X1 (c_X0_has (by assumption)) vX0_has lX0_25 rfl (by first | assumption | rfl) (by decide) dX0_putThickness_2 (by exact Nat.le_of_ble_eq_true rfl) ?_
  rintro _ _ ⟨h9, h8⟩
  obtain rfl := h9.symm
  obtain rfl := h8.symm
  clear h9 h8
  refine bo_ifeq_b (pc := 5) X1 (tgt := 15) dX0_putThickness_5 (by decide) (fun u5 => ?_) (fun u5 => ?_)
  · exact bo_vret (pc := 15) X rfl dX0_putThickness_15 (fun hg9 => by first | rw [if_pos (by assumption)] | rw [if_neg (by assumption)])
  · refine bg_aload0 (pc := 8) X1 dX0_putThickness_8 ?_
    refine bo_getR (pc := 9) X1 dX0_putThickness_9 fX0_22 (by first | assumption | rfl) rfl (by first | assumption | rfl) ?_
    refine bg_iload1 (pc := 12) X1 dX0_putThickness_12 ?_
    refine bg_iload2 (pc := 13) X1 dX0_putThickness_13 ?_
    refine bo_iastore (pc := 14) X1 dX0_putThickness_14 (by first | assumption | rfl) (by omega) ?_
    exact bo_vret (pc := 15) X rfl dX0_putThickness_15 (fun hg9 => by first | rw [if_pos (by assumption)] | rw [if_neg (by assumption)])
