/-! the small tests, and the states -/
abbrev isHo (h : Int) : Prop := 0 ≤ h ∧ h < 4
abbrev isMa (m : Int) : Prop := 0 ≤ m ∧ m < 26
theorem c_X6_isHole {y : bg_Y} {g : bg_E} {h : Int} : bg_Si y 0 mX6_isHole [.inl h] g (fun r g' => r = b2i (isHo h) ∧ g' = g) := by
  refine bg_enter pnX6 (Nat.le_of_ble_eq_true rfl) (fun κ X hR hg => ?_)
  have X1 : bg_X κ y cX6_isHole RX6 0 0 0 := X.1
  have hg : ∀ a k, R32 (g a k) := hg
  show bg_g κ y 0 [some (.inl h)] [] g
  refine bg_iload0 (pc := 0) X1 dX6_isHole_0 ?_
  refine bg_if_lt (pc := 1) X1 (tgt := 13) dX6_isHole_1 (by decide) (fun u1 => ?_) (fun u1 => ?_)
  · refine bg_iconst (pc := 13) X1 dX6_isHole_13 (by decide) ?_
    exact bo_zret (pc := 14) X rfl (by first | exact Or.inl rfl | exact Or.inr rfl | exact b2i_01 _) dX6_isHole_14 (⟨by first | rfl | exact (b2i_t (by omega)).symm | exact (b2i_f (by omega)).symm, rfl⟩)
  · refine bg_iload0 (pc := 4) X1 dX6_isHole_4 ?_
    refine bg_iconst (pc := 5) X1 dX6_isHole_5 (by decide) ?_
    refine bg_icmp_ge (pc := 6) X1 (tgt := 13) dX6_isHole_6 (by decide) (fun u6 => ?_) (fun u6 => ?_)
    · refine bg_iconst (pc := 13) X1 dX6_isHole_13 (by decide) ?_
      exact bo_zret (pc := 14) X rfl (by first | exact Or.inl rfl | exact Or.inr rfl | exact b2i_01 _) dX6_isHole_14 (⟨by first | rfl | exact (b2i_t (by omega)).symm | exact (b2i_f (by omega)).symm, rfl⟩)
    · refine bg_iconst (pc := 9) X1 dX6_isHole_9 (by decide) ?_
      refine bg_goto (pc := 10) X1 (tgt := 14) dX6_isHole_10 (by decide) ?_
      exact bo_zret (pc := 14) X rfl (by first | exact Or.inl rfl | exact Or.inr rfl | exact b2i_01 _) dX6_isHole_14 (⟨by first | rfl | exact (b2i_t (by omega)).symm | exact (b2i_f (by omega)).symm, rfl⟩)
theorem c_X6_isMark {y : bg_Y} {g : bg_E} {h : Int} : bg_Si y 0 mX6_isMark [.inl h] g (fun r g' => r = b2i (isMa h) ∧ g' = g) := by
  refine bg_enter pnX6 (Nat.le_of_ble_eq_true rfl) (fun κ X hR hg => ?_)
  have X1 : bg_X κ y cX6_isMark RX6 0 0 0 := X.1
  have hg : ∀ a k, R32 (g a k) := hg
  show bg_g κ y 0 [some (.inl h)] [] g
  refine bg_iload0 (pc := 0) X1 dX6_isMark_0 ?_
  refine bg_if_lt (pc := 1) X1 (tgt := 14) dX6_isMark_1 (by decide) (fun u1 => ?_) (fun u1 => ?_)
  · refine bg_iconst (pc := 14) X1 dX6_isMark_14 (by decide) ?_
    exact bo_zret (pc := 15) X rfl (by first | exact Or.inl rfl | exact Or.inr rfl | exact b2i_01 _) dX6_isMark_15 (⟨by first | rfl | exact (b2i_t (by omega)).symm | exact (b2i_f (by omega)).symm, rfl⟩)
  · refine bg_iload0 (pc := 4) X1 dX6_isMark_4 ?_
    refine bg_bipush (pc := 5) X1 dX6_isMark_5 rfl (by decide) ?_
    refine bg_icmp_ge (pc := 7) X1 (tgt := 14) dX6_isMark_7 (by decide) (fun u7 => ?_) (fun u7 => ?_)
    · refine bg_iconst (pc := 14) X1 dX6_isMark_14 (by decide) ?_
      exact bo_zret (pc := 15) X rfl (by first | exact Or.inl rfl | exact Or.inr rfl | exact b2i_01 _) dX6_isMark_15 (⟨by first | rfl | exact (b2i_t (by omega)).symm | exact (b2i_f (by omega)).symm, rfl⟩)
    · refine bg_iconst (pc := 10) X1 dX6_isMark_10 (by decide) ?_
      refine bg_goto (pc := 11) X1 (tgt := 15) dX6_isMark_11 (by decide) ?_
      exact bo_zret (pc := 15) X rfl (by first | exact Or.inl rfl | exact Or.inr rfl | exact b2i_01 _) dX6_isMark_15 (⟨by first | rfl | exact (b2i_t (by omega)).symm | exact (b2i_f (by omega)).symm, rfl⟩)
theorem c_X6_isThickness {y : bg_Y} {g : bg_E} {h : Int} : bg_Si y 0 mX6_isThickness [.inl h] g (fun r g' => r = b2i (1 ≤ h ∧ h ≤ 99) ∧ g' = g) := by
  refine bg_enter pnX6 (Nat.le_of_ble_eq_true rfl) (fun κ X hR hg => ?_)
  have X1 : bg_X κ y cX6_isThickness RX6 0 0 0 := X.1
  have hg : ∀ a k, R32 (g a k) := hg
  show bg_g κ y 0 [some (.inl h)] [] g
  refine bg_iload0 (pc := 0) X1 dX6_isThickness_0 ?_
  refine bg_iconst (pc := 1) X1 dX6_isThickness_1 (by decide) ?_
  refine bg_icmp_lt (pc := 2) X1 (tgt := 15) dX6_isThickness_2 (by decide) (fun u2 => ?_) (fun u2 => ?_)
  · refine bg_iconst (pc := 15) X1 dX6_isThickness_15 (by decide) ?_
    exact bo_zret (pc := 16) X rfl (by first | exact Or.inl rfl | exact Or.inr rfl | exact b2i_01 _) dX6_isThickness_16 (⟨by first | rfl | exact (b2i_t (by omega)).symm | exact (b2i_f (by omega)).symm, rfl⟩)
  · refine bg_iload0 (pc := 5) X1 dX6_isThickness_5 ?_
    refine bg_bipush (pc := 6) X1 dX6_isThickness_6 rfl (by decide) ?_
    refine bg_icmp_gt (pc := 8) X1 (tgt := 15) dX6_isThickness_8 (by decide) (fun u8 => ?_) (fun u8 => ?_)
    · refine bg_iconst (pc := 15) X1 dX6_isThickness_15 (by decide) ?_
      exact bo_zret (pc := 16) X rfl (by first | exact Or.inl rfl | exact Or.inr rfl | exact b2i_01 _) dX6_isThickness_16 (⟨by first | rfl | exact (b2i_t (by omega)).symm | exact (b2i_f (by omega)).symm, rfl⟩)
    · refine bg_iconst (pc := 11) X1 dX6_isThickness_11 (by decide) ?_
      refine bg_goto (pc := 12) X1 (tgt := 16) dX6_isThickness_12 (by decide) ?_
      exact bo_zret (pc := 16) X rfl (by first | exact Or.inl rfl | exact Or.inr rfl | exact b2i_01 _) dX6_isThickness_16 (⟨by first | rfl | exact (b2i_t (by omega)).symm | exact (b2i_f (by omega)).symm, rfl⟩)
abbrev arePa (a b : Int) : Prop := isHo a ∧ isHo b ∧ ¬ a = b
theorem c_X6_arePair {y : bg_Y} {g : bg_E} {a b : Int} : bg_Si y 1 mX6_arePair [.inl a, .inl b] g (fun r g' => r = b2i (arePa a b) ∧ g' = g) := by
  refine bg_enter pnX6 (Nat.le_of_ble_eq_true rfl) (fun κ X hR hg => ?_)
  have X1 : bg_X κ y cX6_arePair RX6 1 0 0 := X.1
  have hg : ∀ a k, R32 (g a k) := hg
  show bg_g κ y 0 [some (.inl a), some (.inl b)] [] g
  refine bg_iload0 (pc := 0) X1 dX6_arePair_0 ?_
  refine bo_S1i (pc := 1) X1 (c_X6_isHole) sX6_isHole lX6_89 rfl (by decide) dX6_arePair_1 (by exact Nat.le_of_ble_eq_true rfl) ?_
  rintro _ _ ⟨h9, h8⟩
  obtain rfl := h9.symm
  obtain rfl := h8.symm
  clear h9 h8
  refine bo_ifeq_b (pc := 4) X1 (tgt := 23) dX6_arePair_4 (by decide) (fun u4 => ?_) (fun u4 => ?_)
  · refine bg_iconst (pc := 23) X1 dX6_arePair_23 (by decide) ?_
    exact bo_zret (pc := 24) X rfl (by first | exact Or.inl rfl | exact Or.inr rfl | exact b2i_01 _) dX6_arePair_24 (⟨by first | rfl | exact (b2i_t (by omega)).symm | exact (b2i_f (by omega)).symm, rfl⟩)
  · refine bg_iload1 (pc := 7) X1 dX6_arePair_7 ?_
    refine bo_S1i (pc := 8) X1 (c_X6_isHole) sX6_isHole lX6_89 rfl (by decide) dX6_arePair_8 (by exact Nat.le_of_ble_eq_true rfl) ?_
    rintro _ _ ⟨h9, h8⟩
    obtain rfl := h9.symm
    obtain rfl := h8.symm
    clear h9 h8
    refine bo_ifeq_b (pc := 11) X1 (tgt := 23) dX6_arePair_11 (by decide) (fun u11 => ?_) (fun u11 => ?_)
    · refine bg_iconst (pc := 23) X1 dX6_arePair_23 (by decide) ?_
      exact bo_zret (pc := 24) X rfl (by first | exact Or.inl rfl | exact Or.inr rfl | exact b2i_01 _) dX6_arePair_24 (⟨by first | rfl | exact (b2i_t (by omega)).symm | exact (b2i_f (by omega)).symm, rfl⟩)
    · refine bg_iload0 (pc := 14) X1 dX6_arePair_14 ?_
      refine bg_iload1 (pc := 15) X1 dX6_arePair_15 ?_
      refine bg_icmp_eq (pc := 16) X1 (tgt := 23) dX6_arePair_16 (by decide) (fun u16 => ?_) (fun u16 => ?_)
      · refine bg_iconst (pc := 23) X1 dX6_arePair_23 (by decide) ?_
        exact bo_zret (pc := 24) X rfl (by first | exact Or.inl rfl | exact Or.inr rfl | exact b2i_01 _) dX6_arePair_24 (⟨by first | rfl | exact (b2i_t (by omega)).symm | exact (b2i_f (by omega)).symm, rfl⟩)
      · refine bg_iconst (pc := 19) X1 dX6_arePair_19 (by decide) ?_
        refine bg_goto (pc := 20) X1 (tgt := 24) dX6_arePair_20 (by decide) ?_
        exact bo_zret (pc := 24) X rfl (by first | exact Or.inl rfl | exact Or.inr rfl | exact b2i_01 _) dX6_arePair_24 (⟨by first | rfl | exact (b2i_t (by omega)).symm | exact (b2i_f (by omega)).symm, rfl⟩)
/-! a state: numbers, key marks, collars, columns, accounts -/
abbrev bm_S : Type := (Nat → Int) × Int × (Nat → Int) × (Nat → bm_Q) × (Nat → Int)
def fup {α : Type} (f : Nat → α) (k : Nat) (v : α) : Nat → α := fun j => if j = k then v else f j
theorem fup_eq {α : Type} {f : Nat → α} {k : Nat} {v : α} : fup f k v k = v := by simp [fup]
theorem fup_ne {α : Type} {f : Nat → α} {k j : Nat} {v : α} (h : j ≠ k) : fup f k v j = f j := by simp [fup, h]
def sNum (S : bm_S) (k : Nat) (v : Int) : bm_S := (fup S.1 k v, S.2)
def sKey (S : bm_S) (K : Int) : bm_S := (S.1, K, S.2.2)
def sCol (S : bm_S) (h : Nat) (v : Int) : bm_S := (S.1, S.2.1, fup S.2.2.1 h v, S.2.2.2)
def sBed (S : bm_S) (h : Nat) (q : bm_Q) : bm_S := (S.1, S.2.1, S.2.2.1, fup S.2.2.2.1 h q, S.2.2.2.2)
def sBook (S : bm_S) (a : Nat) (t : Int) : bm_S := (S.1, S.2.1, S.2.2.1, S.2.2.2.1, fup S.2.2.2.2 a (bg_wr (S.2.2.2.2 a + t)))
def staR (g : bg_E) (b : Nat) (S : bm_S) : Prop := (∀ k, k < 5 → g (b + 1) k = S.1 k) ∧ g b 1 = S.2.1 ∧ (∀ h, h < 4 → g (b + 3 + 3 * h) 0 = S.2.2.1 h ∧ colR g (b + 3 + 3 * h) (S.2.2.2.1 h)) ∧ ∀ a, 1 ≤ a → a < 5 → g (b + 15) a = S.2.2.2.2 a
def staOK (S : bm_S) : Prop := (1 ≤ S.1 0 ∧ S.1 0 ≤ 99) ∧ (1 ≤ S.1 1 ∧ S.1 1 ≤ 99) ∧ (0 ≤ S.1 2 ∧ S.1 2 ≤ 9) ∧ (1 ≤ S.1 3 ∧ S.1 3 ≤ 8) ∧ (1 ≤ S.1 4 ∧ S.1 4 ≤ 999) ∧ (0 ≤ S.2.1 ∧ S.2.1 < 67108864) ∧ (∀ h, h < 4 → -9999 ≤ S.2.2.1 h ∧ S.2.2.1 h ≤ 9999) ∧ ∀ h, h < 4 → colOK (S.2.2.2.1 h) ∧ (S.2.2.2.1 h).length ≤ 24
theorem staR.fr {g g' : bg_E} {b lo hi : Nat} {S : bm_S} (h : staR g b S) (hf : frR lo hi g g') (hx : b + 15 < lo ∨ hi ≤ b) : staR g' b S := by
  obtain ⟨h1, h2, h3, h4⟩ := h
  refine ⟨fun k hk => by rw [hf (b + 1) (by omega)]; exact h1 k hk, by rw [hf b (by omega)]; exact h2, fun h hh => ⟨by rw [hf (b + 3 + 3 * h) (by omega)]; exact (h3 h hh).1, (h3 h hh).2.fr hf (by omega)⟩, fun a h5 h6 => by rw [hf (b + 15) (by omega)]; exact h4 a h5 h6⟩
/-- one of a state's columns is another -/
theorem staR.col {g g' : bg_E} {b : Nat} {S : bm_S} {h : Nat} {q : bm_Q} (hS : staR g b S) (hh : h < 4) (hf : frR (b + 3 + 3 * h) (b + 3 + 3 * h + 3) g g') (hc : colR g' (b + 3 + 3 * h) q) (h0 : g' (b + 3 + 3 * h) 0 = g (b + 3 + 3 * h) 0) : staR g' b (sBed S h q) := by
  obtain ⟨h1, h2, h3, h4⟩ := hS
  refine ⟨fun k hk => by rw [hf (b + 1) (by omega)]; exact h1 k hk, by rw [hf b (by omega)]; exact h2, fun j hj => ?_, fun a h5 h6 => by rw [hf (b + 15) (by omega)]; exact h4 a h5 h6⟩
  by_cases hjh : j = h
  · subst hjh
    refine ⟨h0.trans (h3 j hj).1, ?_⟩
    show colR g' _ (fup S.2.2.2.1 j q j)
    rw [fup_eq]
    exact hc
  · refine ⟨by rw [hf (b + 3 + 3 * j) (by omega)]; exact (h3 j hj).1, ?_⟩
    show colR g' _ (fup S.2.2.2.1 h q j)
    rw [fup_ne hjh]
    exact (h3 j hj).2.fr hf (by omega)
theorem c_X4_numberOf {y : bg_Y} {g : bg_E} {b : Nat} {i : Int} {S : bm_S} (hb : bg_sta b) (hS : staR g b S) (hi : 0 ≤ i ∧ i < 5) : bg_Si y 0 mX4_numberOf [.inr b, .inl i] g (fun r g' => r = S.1 i.toNat ∧ g' = g) := by
  obtain ⟨s1, s2, s3, s4, s5, s6, s7, s8, s9⟩ := id hb
  refine bg_enter pnX4 (Nat.le_of_ble_eq_true rfl) (fun κ X hR hg => ?_)
  have X1 : bg_X κ y cX4_numberOf RX4 0 0 0 := X.1
  have hg : ∀ a k, R32 (g a k) := hg
  show bg_g κ y 0 [some (.inr b), some (.inl i)] [] g
  refine bg_iload1 (pc := 0) X1 dX4_numberOf_0 ?_
  refine bg_if_lt (pc := 1) X1 (tgt := 18) dX4_numberOf_1 (by decide) (fun u1 => ?_) (fun u1 => ?_)
  · exfalso; omega
  · refine bg_iload1 (pc := 4) X1 dX4_numberOf_4 ?_
    refine bg_iconst (pc := 5) X1 dX4_numberOf_5 (by decide) ?_
    refine bg_icmp_ge (pc := 6) X1 (tgt := 18) dX4_numberOf_6 (by decide) (fun u6 => ?_) (fun u6 => ?_)
    · exfalso; omega
    · refine bg_aload0 (pc := 9) X1 dX4_numberOf_9 ?_
      refine bo_getR (pc := 10) X1 dX4_numberOf_10 fX4_9 (by first | assumption | rfl) rfl (by first | assumption | rfl) ?_
      refine bg_iload1 (pc := 13) X1 dX4_numberOf_13 ?_
      refine bo_iaload (pc := 14) X1 dX4_numberOf_14 (by first | assumption | rfl) (by omega) ?_
      refine bg_goto (pc := 15) X1 (tgt := 19) dX4_numberOf_15 (by decide) ?_
      exact bo_iret (pc := 19) X rfl dX4_numberOf_19 (fun hi => ⟨hS.1 _ (by omega), rfl⟩)
theorem c_X4_putNumber {y : bg_Y} {g : bg_E} {b : Nat} {i v : Int} {S : bm_S} (hb : bg_sta b) (hS : staR g b S) (hi : 0 ≤ i ∧ i < 5) : bg_Sv y 0 mX4_putNumber [.inr b, .inl i, .inl v] g (fun g' => staR g' b (sNum S i.toNat v) ∧ frR b (b + 16) g g') := by
  obtain ⟨s1, s2, s3, s4, s5, s6, s7, s8, s9⟩ := id hb
  obtain ⟨h1, h2, h3, h4⟩ := id hS
  refine bg_enter pnX4 (Nat.le_of_ble_eq_true rfl) (fun κ X hR hg => ?_)
  have X1 : bg_X κ y cX4_putNumber RX4 0 0 0 := X.1
  have hg : ∀ a k, R32 (g a k) := hg
  show bg_g κ y 0 [some (.inr b), some (.inl i), some (.inl v)] [] g
  refine bg_iload1 (pc := 0) X1 dX4_putNumber_0 ?_
  refine bg_if_lt (pc := 1) X1 (tgt := 16) dX4_putNumber_1 (by decide) (fun u1 => ?_) (fun u1 => ?_)
  · exfalso; omega
  · refine bg_iload1 (pc := 4) X1 dX4_putNumber_4 ?_
    refine bg_iconst (pc := 5) X1 dX4_putNumber_5 (by decide) ?_
    refine bg_icmp_ge (pc := 6) X1 (tgt := 16) dX4_putNumber_6 (by decide) (fun u6 => ?_) (fun u6 => ?_)
    · exfalso; omega
    · refine bg_aload0 (pc := 9) X1 dX4_putNumber_9 ?_
      refine bo_getR (pc := 10) X1 dX4_putNumber_10 fX4_9 (by first | assumption | rfl) rfl (by first | assumption | rfl) ?_
      refine bg_iload1 (pc := 13) X1 dX4_putNumber_13 ?_
      refine bg_iload2 (pc := 14) X1 dX4_putNumber_14 ?_
      refine bo_iastore (pc := 15) X1 dX4_putNumber_15 (by first | assumption | rfl) (by omega) ?_
      exact bo_vret (pc := 16) X rfl dX4_putNumber_16 (fun hg9 => by
          refine ⟨⟨fun k hk => ?_, by rw [bg_up_ne (by omega)]; exact h2, fun h hh => ⟨by rw [bg_up_ne (by omega)]; exact (h3 h hh).1, (h3 h hh).2.up (by omega)⟩, fun a h5 h6 => by rw [bg_up_ne (by omega)]; exact h4 a h5 h6⟩, frR.rf.up (by omega) (by omega)⟩
          show _ = fup S.1 i.toNat v k
          unfold fup bg_up
          simp [h1 k hk])
theorem c_X4_columnOf {y : bg_Y} {g : bg_E} {b : Nat} {h : Int} (hb : bg_sta b) (hh : isHo h) : bg_Sr y 1 mX4_columnOf [.inr b, .inl h] g (fun r g' => r = b + 3 + 3 * h.toNat ∧ g' = g) := by
  obtain ⟨s1, s2, s3, s4, s5, s6, s7, s8, s9⟩ := id hb
  refine bg_enter pnX4 (Nat.le_of_ble_eq_true rfl) (fun κ X hR hg => ?_)
  have X1 : bg_X κ y cX4_columnOf RX4 1 0 0 := X.1
  have hg : ∀ a k, R32 (g a k) := hg
  show bg_g κ y 0 [some (.inr b), some (.inl h)] [] g
  refine bg_aload0 (pc := 0) X1 dX4_columnOf_0 ?_
  refine bo_getR (pc := 1) X1 dX4_columnOf_1 fX4_24 (by first | assumption | rfl) rfl (by first | assumption | rfl) ?_
  refine bg_iload1 (pc := 4) X1 dX4_columnOf_4 ?_
  refine bo_N1i (pc := 5) X1 (c_X6_isHole) sX6_isHole hX4_42 rfl (by decide) dX4_columnOf_5 (by exact Nat.le_of_ble_eq_true rfl) ?_
  rintro _ _ ⟨h9, h8⟩
  obtain rfl := h9.symm
  obtain rfl := h8.symm
  clear h9 h8
  refine bo_ifeq_b (pc := 8) X1 (tgt := 15) dX4_columnOf_8 (by decide) (fun u8 => ?_) (fun u8 => ?_)
  · exact absurd hh u8
  · refine bg_iload1 (pc := 11) X1 dX4_columnOf_11 ?_
    refine bg_goto (pc := 12) X1 (tgt := 16) dX4_columnOf_12 (by decide) ?_
    refine bo_aaload (pc := 16) X1 dX4_columnOf_16 (by first | assumption | rfl) (by decide) (by omega) (s8 _ (by omega)) ?_
    exact bo_aret (pc := 17) X rfl dX4_columnOf_17 (⟨rfl, rfl⟩)
theorem c_X4_bookedIn {y : bg_Y} {g : bg_E} {b : Nat} {i : Int} {S : bm_S} (hb : bg_sta b) (hS : staR g b S) (hi : 1 ≤ i ∧ i < 5) : bg_Si y 0 mX4_bookedIn [.inr b, .inl i] g (fun r g' => r = S.2.2.2.2 i.toNat ∧ g' = g) := by
  obtain ⟨s1, s2, s3, s4, s5, s6, s7, s8, s9⟩ := id hb
  refine bg_enter pnX4 (Nat.le_of_ble_eq_true rfl) (fun κ X hR hg => ?_)
  have X1 : bg_X κ y cX4_bookedIn RX4 0 0 0 := X.1
  have hg : ∀ a k, R32 (g a k) := hg
  show bg_g κ y 0 [some (.inr b), some (.inl i)] [] g
  refine bg_iload1 (pc := 0) X1 dX4_bookedIn_0 ?_
  refine bg_if_lt (pc := 1) X1 (tgt := 18) dX4_bookedIn_1 (by decide) (fun u1 => ?_) (fun u1 => ?_)
  · exfalso; omega
  · refine bg_iload1 (pc := 4) X1 dX4_bookedIn_4 ?_
    refine bg_iconst (pc := 5) X1 dX4_bookedIn_5 (by decide) ?_
    refine bg_icmp_ge (pc := 6) X1 (tgt := 18) dX4_bookedIn_6 (by decide) (fun u6 => ?_) (fun u6 => ?_)
    · exfalso; omega
    · refine bg_aload0 (pc := 9) X1 dX4_bookedIn_9 ?_
      refine bo_getR (pc := 10) X1 dX4_bookedIn_10 fX4_29 (by first | assumption | rfl) rfl (by first | assumption | rfl) ?_
      refine bg_iload1 (pc := 13) X1 dX4_bookedIn_13 ?_
      refine bo_iaload (pc := 14) X1 dX4_bookedIn_14 (by first | assumption | rfl) (by omega) ?_
      refine bg_goto (pc := 15) X1 (tgt := 19) dX4_bookedIn_15 (by decide) ?_
      exact bo_iret (pc := 19) X rfl dX4_bookedIn_19 (fun hi => ⟨hS.2.2.2 _ (by omega) (by omega), rfl⟩)
theorem c_X4_book {y : bg_Y} {g : bg_E} {b : Nat} {i v : Int} {S : bm_S} (hb : bg_sta b) (hS : staR g b S) (hi : 1 ≤ i ∧ i < 5) : bg_Sv y 0 mX4_book [.inr b, .inl i, .inl v] g (fun g' => staR g' b (sBook S i.toNat v) ∧ frR b (b + 16) g g') := by
  obtain ⟨s1, s2, s3, s4, s5, s6, s7, s8, s9⟩ := id hb
  obtain ⟨h1, h2, h3, h4⟩ := id hS
  refine bg_enter pnX4 (Nat.le_of_ble_eq_true rfl) (fun κ X hR hg => ?_)
  have X1 : bg_X κ y cX4_book RX4 0 0 0 := X.1
  have hg : ∀ a k, R32 (g a k) := hg
  show bg_g κ y 0 [some (.inr b), some (.inl i), some (.inl v)] [] g
  refine bg_iload1 (pc := 0) X1 dX4_book_0 ?_
  refine bg_if_lt (pc := 1) X1 (tgt := 19) dX4_book_1 (by decide) (fun u1 => ?_) (fun u1 => ?_)
  · exfalso; omega
  · refine bg_iload1 (pc := 4) X1 dX4_book_4 ?_
    refine bg_iconst (pc := 5) X1 dX4_book_5 (by decide) ?_
    refine bg_icmp_ge (pc := 6) X1 (tgt := 19) dX4_book_6 (by decide) (fun u6 => ?_) (fun u6 => ?_)
    · exfalso; omega
    · refine bg_aload0 (pc := 9) X1 dX4_book_9 ?_
      refine bo_getR (pc := 10) X1 dX4_book_10 fX4_29 (by first | assumption | rfl) rfl (by first | assumption | rfl) ?_
      refine bg_iload1 (pc := 13) X1 dX4_book_13 ?_
      refine bg_dup2 (pc := 14) X1 dX4_book_14 ?_
      refine bo_iaload (pc := 15) X1 dX4_book_15 (by first | assumption | rfl) (by omega) ?_
      refine bg_iload2 (pc := 16) X1 dX4_book_16 ?_
      refine bg_iaddW (pc := 17) X1 dX4_book_17 ?_
      refine bo_iastore (pc := 18) X1 dX4_book_18 (by first | assumption | rfl) (by omega) ?_
      exact bo_vret (pc := 19) X rfl dX4_book_19 (fun hg9 => by
          refine ⟨⟨fun k hk => by rw [bg_up_ne (by omega)]; exact h1 k hk, by rw [bg_up_ne (by omega)]; exact h2, fun h hh => ⟨by rw [bg_up_ne (by omega)]; exact (h3 h hh).1, (h3 h hh).2.up (by omega)⟩, fun a h5 h6 => ?_⟩, frR.rf.up (by omega) (by omega)⟩
          show _ = fup S.2.2.2.2 i.toNat _ a
          unfold fup bg_up
          rw [h4 i.toNat (by omega) (by omega)]
          simp [h4 a h5 h6])
theorem c_X4_sumOfSizes {y : bg_Y} {g : bg_E} {b : Nat} {S : bm_S} (hb : bg_sta b) (hS : staR g b S) : bg_Si y 1 mX4_sumOfSizes [.inr b] g (fun r g' => r = sumN (fun h => ((S.2.2.2.1 h).length : Int)) 4 ∧ g' = g) := by
  obtain ⟨s1, s2, s3, s4, s5, s6, s7, s8, s9⟩ := id hb
  obtain ⟨h1, h2, h3, h4⟩ := id hS
  refine bg_enter pnX4 (Nat.le_of_ble_eq_true rfl) (fun κ X hR hg => ?_)
  have X1 : bg_X κ y cX4_sumOfSizes RX4 1 0 0 := X.1
  have hg : ∀ a k, R32 (g a k) := hg
  show bg_g κ y 0 [some (.inr b), none, none] [] g
  have loop : ∀ (n k : Nat) (a s : Int), a = (k : Int) → k + n = 4 → s = sumN (fun h => ((S.2.2.2.1 h).length : Int)) k → bg_g κ y 4 [some (.inr b), some (.inl s), some (.inl a)] [] g := by
    intro n
    induction n with
    | zero =>
      intro k a s ha hk hs
      refine bg_iload2 (pc := 4) X1 dX4_sumOfSizes_4 ?_
      refine bg_iconst (pc := 5) X1 dX4_sumOfSizes_5 (by decide) ?_
      refine bg_icmp_ge (pc := 6) X1 (tgt := 27) dX4_sumOfSizes_6 (by decide) (fun u6 => ?_) (fun u6 => ?_)
      · refine bg_iload1 (pc := 27) X1 dX4_sumOfSizes_27 ?_
        exact bo_iret (pc := 28) X rfl dX4_sumOfSizes_28 (fun hi => ⟨by rw [hs, show k = 4 by omega], rfl⟩)
      · exfalso; omega
    | succ n ih =>
      intro k a s ha hk hs
      have e1 := (h3 k (by omega)).2.1
      have e2 : ∀ j, j ≤ 4 → 0 ≤ sumN (fun h => ((S.2.2.2.1 h).length : Int)) j ∧ sumN (fun h => ((S.2.2.2.1 h).length : Int)) j ≤ 99 * j := fun j hj => sumN_le (fun i hi => ⟨Int.natCast_nonneg _, by have := (h3 i (by omega)).2.2.1; omega⟩)
      have e3 := e2 k (by omega)
      have e4 := (h3 k (by omega)).2.2.1
      have e5 : b + 3 + 3 * a.toNat = b + 3 + 3 * k := by omega
      refine bg_iload2 (pc := 4) X1 dX4_sumOfSizes_4 ?_
      refine bg_iconst (pc := 5) X1 dX4_sumOfSizes_5 (by decide) ?_
      refine bg_icmp_ge (pc := 6) X1 (tgt := 27) dX4_sumOfSizes_6 (by decide) (fun u6 => ?_) (fun u6 => ?_)
      · exfalso; omega
      · refine bg_iload1 (pc := 9) X1 dX4_sumOfSizes_9 ?_
        refine bg_aload0 (pc := 10) X1 dX4_sumOfSizes_10 ?_
        refine bo_getR (pc := 11) X1 dX4_sumOfSizes_11 fX4_24 (by first | assumption | rfl) rfl (by first | assumption | rfl) ?_
        refine bg_iload2 (pc := 14) X1 dX4_sumOfSizes_14 ?_
        refine bo_aaload (pc := 15) X1 dX4_sumOfSizes_15 (by first | assumption | rfl) (by decide) (by omega) (s8 _ (by omega)) ?_
        refine bo_V0i (pc := 16) X1 (c_X0_size (s9 _ (by omega))) vX0_size lX4_45 rfl (s9 _ (by omega)).1 (by decide) dX4_sumOfSizes_16 (by exact Nat.le_of_ble_eq_true rfl) ?_
        rintro _ _ ⟨h9, h8⟩
        obtain rfl := h9.symm
        obtain rfl := h8.symm
        clear h9 h8
        rw [e5, e1]
        refine bg_iadd (pc := 19) X1 dX4_sumOfSizes_19 (by omega) ?_
        refine bg_istore1 (pc := 20) X1 dX4_sumOfSizes_20 ?_
        refine bg_iinc2 (pc := 21) X1 dX4_sumOfSizes_21 (by omega) ?_
        refine bg_goto (pc := 24) X1 (tgt := 4) dX4_sumOfSizes_24 (by decide) ?_
        exact ih (k + 1) _ _ (by omega) (by omega) (by rw [hs]; rfl)
  refine bg_iconst (pc := 0) X1 dX4_sumOfSizes_0 (by decide) ?_
  refine bg_istore1 (pc := 1) X1 dX4_sumOfSizes_1 ?_
  refine bg_iconst (pc := 2) X1 dX4_sumOfSizes_2 (by decide) ?_
  refine bg_istore2 (pc := 3) X1 dX4_sumOfSizes_3 ?_
  exact loop 4 0 _ _ rfl rfl rfl
theorem c_X4_sumOfLengths {y : bg_Y} {g : bg_E} {b : Nat} {S : bm_S} (hb : bg_sta b) (hS : staR g b S) (hok : staOK S) : bg_Si y 3 mX4_sumOfLengths [.inr b] g (fun r g' => r = sumN (fun h => dep (S.2.2.2.1 h) (S.2.2.2.1 h).length) 4 ∧ g' = g) := by
  obtain ⟨s1, s2, s3, s4, s5, s6, s7, s8, s9⟩ := id hb
  obtain ⟨h1, h2, h3, h4⟩ := id hS
  have hq : ∀ h, h < 4 → 0 ≤ dep (S.2.2.2.1 h) (S.2.2.2.1 h).length ∧ dep (S.2.2.2.1 h) (S.2.2.2.1 h).length ≤ 2376 := fun h hh => by
    have := dep_le ((hok.2.2.2.2.2.2.2 h hh).1) (Nat.le_refl _)
    have := (hok.2.2.2.2.2.2.2 h hh).2
    omega
  have e2 : ∀ j, j ≤ 4 → 0 ≤ sumN (fun h => dep (S.2.2.2.1 h) (S.2.2.2.1 h).length) j ∧ sumN (fun h => dep (S.2.2.2.1 h) (S.2.2.2.1 h).length) j ≤ 2376 * j := by
    intro j
    induction j with
    | zero => intro _; simp [sumN]
    | succ j ihj =>
      intro hj
      have := ihj (by omega)
      have := hq j (by omega)
      show 0 ≤ sumN _ j + dep (S.2.2.2.1 j) (S.2.2.2.1 j).length ∧ sumN _ j + dep (S.2.2.2.1 j) (S.2.2.2.1 j).length ≤ _
      omega
  refine bg_enter pnX4 (Nat.le_of_ble_eq_true rfl) (fun κ X hR hg => ?_)
  have X1 : bg_X κ y cX4_sumOfLengths RX4 3 0 0 := X.1
  have hg : ∀ a k, R32 (g a k) := hg
  show bg_g κ y 0 [some (.inr b), none, none] [] g
  have loop : ∀ (n k : Nat) (a s : Int), a = (k : Int) → k + n = 4 → s = sumN (fun h => dep (S.2.2.2.1 h) (S.2.2.2.1 h).length) k → bg_g κ y 4 [some (.inr b), some (.inl s), some (.inl a)] [] g := by
    intro n
    induction n with
    | zero =>
      intro k a s ha hk hs
      refine bg_iload2 (pc := 4) X1 dX4_sumOfLengths_4 ?_
      refine bg_iconst (pc := 5) X1 dX4_sumOfLengths_5 (by decide) ?_
      refine bg_icmp_ge (pc := 6) X1 (tgt := 27) dX4_sumOfLengths_6 (by decide) (fun u6 => ?_) (fun u6 => ?_)
      · refine bg_iload1 (pc := 27) X1 dX4_sumOfLengths_27 ?_
        exact bo_iret (pc := 28) X rfl dX4_sumOfLengths_28 (fun hi => ⟨by rw [hs, show k = 4 by omega], rfl⟩)
      · exfalso; omega
    | succ n ih =>
      intro k a s ha hk hs
      have e3 := e2 k (by omega)
      have e4 := hq k (by omega)
      have e5 : a.toNat = k := by omega
      refine bg_iload2 (pc := 4) X1 dX4_sumOfLengths_4 ?_
      refine bg_iconst (pc := 5) X1 dX4_sumOfLengths_5 (by decide) ?_
      refine bg_icmp_ge (pc := 6) X1 (tgt := 27) dX4_sumOfLengths_6 (by decide) (fun u6 => ?_) (fun u6 => ?_)
      · exfalso; omega
      · refine bg_iload1 (pc := 9) X1 dX4_sumOfLengths_9 ?_
        refine bg_aload0 (pc := 10) X1 dX4_sumOfLengths_10 ?_
        refine bo_getR (pc := 11) X1 dX4_sumOfLengths_11 fX4_24 (by first | assumption | rfl) rfl (by first | assumption | rfl) ?_
        refine bg_iload2 (pc := 14) X1 dX4_sumOfLengths_14 ?_
        refine bo_aaload (pc := 15) X1 dX4_sumOfLengths_15 (by first | assumption | rfl) (by decide) (by omega) (s8 _ (by omega)) ?_
        rw [e5]
        refine bo_V0i (pc := 16) X1 (c_X0_totalThickness (s9 _ (by omega)) (h3 k (by omega)).2 (hok.2.2.2.2.2.2.2 k (by omega)).1) vX0_totalThickness lX4_49 rfl (s9 _ (by omega)).1 (by decide) dX4_sumOfLengths_16 (by exact Nat.le_of_ble_eq_true rfl) ?_
        rintro _ _ ⟨h9, h8⟩
        obtain rfl := h9.symm
        obtain rfl := h8.symm
        clear h9 h8
        refine bg_iadd (pc := 19) X1 dX4_sumOfLengths_19 (by omega) ?_
        refine bg_istore1 (pc := 20) X1 dX4_sumOfLengths_20 ?_
        refine bg_iinc2 (pc := 21) X1 dX4_sumOfLengths_21 (by omega) ?_
        refine bg_goto (pc := 24) X1 (tgt := 4) dX4_sumOfLengths_24 (by decide) ?_
        exact ih (k + 1) _ _ (by omega) (by omega) (by rw [hs]; rfl)
  refine bg_iconst (pc := 0) X1 dX4_sumOfLengths_0 (by decide) ?_
  refine bg_istore1 (pc := 1) X1 dX4_sumOfLengths_1 ?_
  refine bg_iconst (pc := 2) X1 dX4_sumOfLengths_2 (by decide) ?_
  refine bg_istore2 (pc := 3) X1 dX4_sumOfLengths_3 ?_
  exact loop 4 0 _ _ rfl rfl rfl
theorem c_X4_copyFrom {y : bg_Y} {g : bg_E} {b s : Nat} {S : bm_S} (hb : bg_sta b) (hs : bg_sta s) (hne : b + 15 < s ∨ s + 15 < b) (hS : staR g s S) : bg_Sv y 3 mX4_copyFrom [.inr b, .inr s] g (fun g' => staR g' b S ∧ frR b (b + 16) g g') := by
  obtain ⟨s1, s2, s3, s4, s5, s6, s7, s8, s9⟩ := id hb
  obtain ⟨t1, t2, t3, t4, t5, t6, t7, t8, t9⟩ := id hs
  obtain ⟨h1, h2, h3, h4⟩ := id hS
  refine bg_enter pnX4 (Nat.le_of_ble_eq_true rfl) (fun κ X hR hg => ?_)
  have X1 : bg_X κ y cX4_copyFrom RX4 3 0 0 := X.1
  have hg : ∀ a k, R32 (g a k) := hg
  show bg_g κ y 0 [some (.inr b), some (.inr s), none] [] g
  have loop : ∀ (n k : Nat) (a : Int) (g1 : bg_E), a = (k : Int) → k + n = 4 → frR b (b + 16) g g1 → (∀ j, j < 5 → g1 (b + 1) j = S.1 j) → g1 b 1 = S.2.1 → (∀ h, h < k → g1 (b + 3 + 3 * h) 0 = S.2.2.1 h ∧ colR g1 (b + 3 + 3 * h) (S.2.2.2.1 h)) → bg_g κ y 24 [some (.inr b), some (.inr s), some (.inl a)] [] g1 := by
    intro n
    induction n with
    | zero =>
      intro k a g1 ha hk hF I1 I2 I3
      have hS1 := hS.fr hF (by omega)
      refine bg_iload2 (pc := 24) X1 dX4_copyFrom_24 ?_
      refine bg_iconst (pc := 25) X1 dX4_copyFrom_25 (by decide) ?_
      refine bg_icmp_ge (pc := 26) X1 (tgt := 50) dX4_copyFrom_26 (by decide) (fun u26 => ?_) (fun u26 => ?_)
      · refine bg_aload1 (pc := 50) X1 dX4_copyFrom_50 ?_
        refine bo_getR (pc := 51) X1 dX4_copyFrom_51 fX4_29 (by first | assumption | rfl) rfl (by first | assumption | rfl) ?_
        refine bg_iconst (pc := 54) X1 dX4_copyFrom_54 (by decide) ?_
        refine bg_aload0 (pc := 55) X1 dX4_copyFrom_55 ?_
        refine bo_getR (pc := 56) X1 dX4_copyFrom_56 fX4_29 (by first | assumption | rfl) rfl (by first | assumption | rfl) ?_
        refine bg_iconst (pc := 59) X1 dX4_copyFrom_59 (by decide) ?_
        refine bg_iconst (pc := 60) X1 dX4_copyFrom_60 (by decide) ?_
        refine bo_copy (pc := 61) X1 lX4_52 (by first | assumption | rfl) (by first | assumption | rfl) (by omega) (by decide) dX4_copyFrom_61 (by exact Nat.le_of_ble_eq_true rfl) ?_
        exact bo_vret (pc := 64) X rfl dX4_copyFrom_64 (fun hg9 => by
            refine ⟨⟨fun j hj => ?_, ?_, fun h hh => ⟨?_, ?_⟩, fun j h5 h6 => ?_⟩, fun x hx => ?_⟩
            · simp only [show ¬ b + 1 = b + 15 by omega, false_and, if_false]; exact I1 j hj
            · simp only [show ¬ b = b + 15 by omega, false_and, if_false]; exact I2
            · simp only [show ¬ b + 3 + 3 * h = b + 15 by omega, false_and, if_false]; exact (I3 h (by omega)).1
            · refine (I3 h (by omega)).2.fr (lo := b + 15) (hi := b + 16) (fun x hx => ?_) (by omega)
              funext j
              simp only [show ¬ x = b + 15 by omega, false_and, if_false]
            · have h7 : j < (5 : Int).toNat := h6
              simp only [h7, and_self, if_true]
              exact hS1.2.2.2 j h5 h6
            · funext j
              simp only [show ¬ x = b + 15 by omega, false_and, if_false]
              rw [hF x (by omega)])
      · exfalso; omega
    | succ n ih =>
      intro k a g1 ha hk hF I1 I2 I3
      have hS1 := hS.fr hF (by omega)
      have e5 : a.toNat = k := by omega
      refine bg_iload2 (pc := 24) X1 dX4_copyFrom_24 ?_
      refine bg_iconst (pc := 25) X1 dX4_copyFrom_25 (by decide) ?_
      refine bg_icmp_ge (pc := 26) X1 (tgt := 50) dX4_copyFrom_26 (by decide) (fun u26 => ?_) (fun u26 => ?_)
      · exfalso; omega
      · refine bg_aload0 (pc := 29) X1 dX4_copyFrom_29 ?_
        refine bo_getR (pc := 30) X1 dX4_copyFrom_30 fX4_24 (by first | assumption | rfl) rfl (by first | assumption | rfl) ?_
        refine bg_iload2 (pc := 33) X1 dX4_copyFrom_33 ?_
        refine bo_aaload (pc := 34) X1 dX4_copyFrom_34 (by first | assumption | rfl) (by decide) (by omega) (s8 _ (by omega)) ?_
        refine bg_aload1 (pc := 35) X1 dX4_copyFrom_35 ?_
        refine bo_getR (pc := 36) X1 dX4_copyFrom_36 fX4_24 (by first | assumption | rfl) rfl (by first | assumption | rfl) ?_
        refine bg_iload2 (pc := 39) X1 dX4_copyFrom_39 ?_
        refine bo_aaload (pc := 40) X1 dX4_copyFrom_40 (by first | assumption | rfl) (by decide) (by omega) (t8 _ (by omega)) ?_
        rw [e5]
        refine bo_V1v (pc := 41) X1 (c_X0_copyFrom (s9 k (by omega)) (t9 k (by omega)) (by omega) (hS1.2.2.1 k (by omega)).2) vX0_copyFrom lX4_58 rfl (s9 _ (by omega)).1 (by decide) dX4_copyFrom_41 (by exact Nat.le_of_ble_eq_true rfl) ?_
        rintro g2 ⟨p1, p2, p3⟩
        refine bg_iinc2 (pc := 44) X1 dX4_copyFrom_44 (by omega) ?_
        refine bg_goto (pc := 47) X1 (tgt := 24) dX4_copyFrom_47 (by decide) ?_
        refine ih (k + 1) _ _ (by omega) (by omega) (hF.tr (p2.wide (by omega) (by omega))) (fun j hj => by rw [p2 (b + 1) (by omega)]; exact I1 j hj) (by rw [p2 b (by omega)]; exact I2) (fun h hh => ?_)
        by_cases hk2 : h = k
        · subst hk2; exact ⟨p3.trans (hS1.2.2.1 h (by omega)).1, p1⟩
        · exact ⟨by rw [p2 _ (by omega)]; exact (I3 h (by omega)).1, (I3 h (by omega)).2.fr p2 (by omega)⟩
  refine bg_aload1 (pc := 0) X1 dX4_copyFrom_0 ?_
  refine bo_getR (pc := 1) X1 dX4_copyFrom_1 fX4_9 (by first | assumption | rfl) rfl (by first | assumption | rfl) ?_
  refine bg_iconst (pc := 4) X1 dX4_copyFrom_4 (by decide) ?_
  refine bg_aload0 (pc := 5) X1 dX4_copyFrom_5 ?_
  refine bo_getR (pc := 6) X1 dX4_copyFrom_6 fX4_9 (by first | assumption | rfl) rfl (by first | assumption | rfl) ?_
  refine bg_iconst (pc := 9) X1 dX4_copyFrom_9 (by decide) ?_
  refine bg_iconst (pc := 10) X1 dX4_copyFrom_10 (by decide) ?_
  refine bo_copy (pc := 11) X1 lX4_52 (by first | assumption | rfl) (by first | assumption | rfl) (by omega) (by decide) dX4_copyFrom_11 (by exact Nat.le_of_ble_eq_true rfl) ?_
  refine bg_aload0 (pc := 14) X1 dX4_copyFrom_14 ?_
  refine bg_aload1 (pc := 15) X1 dX4_copyFrom_15 ?_
  refine bo_getI (pc := 16) X1 dX4_copyFrom_16 fX4_18 (by first | assumption | rfl) rfl ?_
  refine bo_putI (pc := 19) X1 dX4_copyFrom_19 fX4_18 (by first | assumption | rfl) rfl ?_
  refine bg_iconst (pc := 22) X1 dX4_copyFrom_22 (by decide) ?_
  refine bg_istore2 (pc := 23) X1 dX4_copyFrom_23 ?_
  refine loop 4 0 _ _ rfl rfl ?_ (fun j hj => ?_) ?_ (fun h hh => by omega)
  · intro x hx
    rw [bg_up_ne (by omega)]
    funext j
    simp only [show ¬ x = b + 1 by omega, false_and, if_false]
  · have h7 : j < (5 : Int).toNat := hj
    rw [up_a (by omega)]
    simp only [h7, and_self, if_true]
    exact h1 j hj
  · rw [up_eq]
    simp only [show ¬ s = b + 1 by omega, false_and, if_false]
    exact h2
