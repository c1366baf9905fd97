/-! the pair of a matching -/
def paiR (g : bg_E) (q : Nat) (P : bm_P) : Prop := colR g (q + 2) (pA P) ∧ colR g (q + 5) (pB P) ∧ (∀ m : Nat, m < 26 → g (q + 8) m = P.2.2.1 m) ∧ g (q + 1) 3 = pR P ∧ g (q + 1) 4 = pU P ∧ g (q + 1) 5 = pW P
def tabOK (g : bg_E) (q : Nat) : Prop := ∀ k : Nat, k < 625 → 0 ≤ g (q + 9) k ∧ g (q + 9) k ≤ 1000000
theorem paiR.fr {g g' : bg_E} {q lo hi : Nat} {P : bm_P} (h : paiR g q P) (hf : frR lo hi g g') (hx : q + 8 < lo ∨ hi ≤ q + 1) : paiR g' q P := by
  obtain ⟨h1, h2, h3, h4, h5, h6⟩ := h
  refine ⟨h1.fr hf (by omega), h2.fr hf (by omega), fun m hm => by rw [hf (q + 8) (by omega)]; exact h3 m hm, ?_⟩
  rw [hf (q + 1) (by omega)]
  exact ⟨h4, h5, h6⟩
theorem c_X3_columnA {y : bg_Y} {g : bg_E} {q : Nat} (hq : bg_mat q) : bg_Sr y 0 mX3_columnA [.inr (q + 1)] g (fun r g' => r = q + 2 ∧ g' = g) := by
  obtain ⟨s1, s2, s3, s4, s5, s6, s7, s8, s9, s10, s11, s12, s13, s14, s15, s16, s17, s18, s19⟩ := id hq
  refine bg_enter pnX3 (Nat.le_of_ble_eq_true rfl) (fun κ X hR hg => ?_)
  have X1 : bg_X κ y cX3_columnA RX3 0 0 0 := X.1
  have hg : ∀ a k, R32 (g a k) := hg
  show bg_g κ y 0 [some (.inr (q + 1))] [] g
  refine bg_aload0 (pc := 0) X1 dX3_columnA_0 ?_
  refine bo_getR (pc := 1) X1 dX3_columnA_1 fX3_12 (by first | assumption | rfl) rfl (by first | assumption | rfl) ?_
  exact bo_aret (pc := 4) X rfl dX3_columnA_4 (⟨rfl, rfl⟩)
theorem c_X3_columnB {y : bg_Y} {g : bg_E} {q : Nat} (hq : bg_mat q) : bg_Sr y 0 mX3_columnB [.inr (q + 1)] g (fun r g' => r = q + 5 ∧ g' = g) := by
  obtain ⟨s1, s2, s3, s4, s5, s6, s7, s8, s9, s10, s11, s12, s13, s14, s15, s16, s17, s18, s19⟩ := id hq
  refine bg_enter pnX3 (Nat.le_of_ble_eq_true rfl) (fun κ X hR hg => ?_)
  have X1 : bg_X κ y cX3_columnB RX3 0 0 0 := X.1
  have hg : ∀ a k, R32 (g a k) := hg
  show bg_g κ y 0 [some (.inr (q + 1))] [] g
  refine bg_aload0 (pc := 0) X1 dX3_columnB_0 ?_
  refine bo_getR (pc := 1) X1 dX3_columnB_1 fX3_18 (by first | assumption | rfl) rfl (by first | assumption | rfl) ?_
  exact bo_aret (pc := 4) X rfl dX3_columnB_4 (⟨rfl, rfl⟩)
theorem c_X3_nextOfA {y : bg_Y} {g : bg_E} {s : Int} {i : Nat} (hi : i ≤ 1000) : bg_Si y 0 mX3_nextOfA [.inl s, .inl (i : Int)] g (fun r g' => r = (ni s i : Int) ∧ g' = g) := by
  refine bg_enter pnX3 (Nat.le_of_ble_eq_true rfl) (fun κ X hR hg => ?_)
  have X1 : bg_X κ y cX3_nextOfA RX3 0 0 0 := X.1
  have hg : ∀ a k, R32 (g a k) := hg
  show bg_g κ y 0 [some (.inl s), some (.inl (i : Int))] [] g
  refine bg_iload0 (pc := 0) X1 dX3_nextOfA_0 ?_
  refine bg_iconst (pc := 1) X1 dX3_nextOfA_1 (by decide) ?_
  refine bg_icmp_eq (pc := 2) X1 (tgt := 10) dX3_nextOfA_2 (by decide) (fun u2 => ?_) (fun u2 => ?_)
  · refine bg_iload1 (pc := 10) X1 dX3_nextOfA_10 ?_
    refine bg_iconst (pc := 11) X1 dX3_nextOfA_11 (by decide) ?_
    refine bg_iadd (pc := 12) X1 dX3_nextOfA_12 (by omega) ?_
    refine bg_goto (pc := 13) X1 (tgt := 17) dX3_nextOfA_13 (by decide) ?_
    exact bo_iret (pc := 17) X rfl dX3_nextOfA_17 (fun hi => ⟨by first | (rw [ni, if_pos (by omega)]; rfl) | (rw [ni, if_neg (by omega)]), rfl⟩)
  · refine bg_iload0 (pc := 5) X1 dX3_nextOfA_5 ?_
    refine bg_iconst (pc := 6) X1 dX3_nextOfA_6 (by decide) ?_
    refine bg_icmp_ne (pc := 7) X1 (tgt := 16) dX3_nextOfA_7 (by decide) (fun u7 => ?_) (fun u7 => ?_)
    · refine bg_iload1 (pc := 16) X1 dX3_nextOfA_16 ?_
      exact bo_iret (pc := 17) X rfl dX3_nextOfA_17 (fun hi => ⟨by first | (rw [ni, if_pos (by omega)]; rfl) | (rw [ni, if_neg (by omega)]), rfl⟩)
    · refine bg_iload1 (pc := 10) X1 dX3_nextOfA_10 ?_
      refine bg_iconst (pc := 11) X1 dX3_nextOfA_11 (by decide) ?_
      refine bg_iadd (pc := 12) X1 dX3_nextOfA_12 (by omega) ?_
      refine bg_goto (pc := 13) X1 (tgt := 17) dX3_nextOfA_13 (by decide) ?_
      exact bo_iret (pc := 17) X rfl dX3_nextOfA_17 (fun hi => ⟨by first | (rw [ni, if_pos (by omega)]; rfl) | (rw [ni, if_neg (by omega)]), rfl⟩)
theorem c_X3_nextOfB {y : bg_Y} {g : bg_E} {s : Int} {i : Nat} (hi : i ≤ 1000) : bg_Si y 0 mX3_nextOfB [.inl s, .inl (i : Int)] g (fun r g' => r = (nj s i : Int) ∧ g' = g) := by
  refine bg_enter pnX3 (Nat.le_of_ble_eq_true rfl) (fun κ X hR hg => ?_)
  have X1 : bg_X κ y cX3_nextOfB RX3 0 0 0 := X.1
  have hg : ∀ a k, R32 (g a k) := hg
  show bg_g κ y 0 [some (.inl s), some (.inl (i : Int))] [] g
  refine bg_iload0 (pc := 0) X1 dX3_nextOfB_0 ?_
  refine bg_iconst (pc := 1) X1 dX3_nextOfB_1 (by decide) ?_
  refine bg_icmp_ne (pc := 2) X1 (tgt := 9) dX3_nextOfB_2 (by decide) (fun u2 => ?_) (fun u2 => ?_)
  · refine bg_iload1 (pc := 9) X1 dX3_nextOfB_9 ?_
    refine bg_iconst (pc := 10) X1 dX3_nextOfB_10 (by decide) ?_
    refine bg_iadd (pc := 11) X1 dX3_nextOfB_11 (by omega) ?_
    exact bo_iret (pc := 12) X rfl dX3_nextOfB_12 (fun hi => ⟨by first | (rw [nj, if_pos (by omega)]) | (rw [nj, if_neg (by omega)]; rfl), rfl⟩)
  · refine bg_iload1 (pc := 5) X1 dX3_nextOfB_5 ?_
    refine bg_goto (pc := 6) X1 (tgt := 12) dX3_nextOfB_6 (by decide) ?_
    exact bo_iret (pc := 12) X rfl dX3_nextOfB_12 (fun hi => ⟨by first | (rw [nj, if_pos (by omega)]) | (rw [nj, if_neg (by omega)]; rfl), rfl⟩)
theorem c_X3_leastAt {y : bg_Y} {g : bg_E} {q i j : Nat} (hq : bg_mat q) : bg_Si y 0 mX3_leastAt [.inr (q + 1), .inl (i : Int), .inl (j : Int)] g (fun r g' => r = (if i < 25 ∧ j < 25 then g (q + 9) (25 * i + j) else 1000000) ∧ g' = g) := by
  obtain ⟨s1, s2, s3, s4, s5, s6, s7, s8, s9, s10, s11, s12, s13, s14, s15, s16, s17, s18, s19⟩ := id hq
  refine bg_enter pnX3 (Nat.le_of_ble_eq_true rfl) (fun κ X hR hg => ?_)
  have X1 : bg_X κ y cX3_leastAt RX3 0 0 0 := X.1
  have hg : ∀ a k, R32 (g a k) := hg
  show bg_g κ y 0 [some (.inr (q + 1)), some (.inl (i : Int)), some (.inl (j : Int))] [] g
  refine bg_iload1 (pc := 0) X1 dX3_leastAt_0 ?_
  refine bg_if_lt (pc := 1) X1 (tgt := 34) dX3_leastAt_1 (by decide) (fun u1 => ?_) (fun u1 => ?_)
  · exfalso; omega
  · refine bg_iload1 (pc := 4) X1 dX3_leastAt_4 ?_
    refine bg_bipush (pc := 5) X1 dX3_leastAt_5 rfl (by decide) ?_
    refine bg_icmp_ge (pc := 7) X1 (tgt := 34) dX3_leastAt_7 (by decide) (fun u7 => ?_) (fun u7 => ?_)
    · refine bg_ldc (pc := 34) X1 dX3_leastAt_34 kX3_67 (by decide) ?_
      exact bo_iret (pc := 36) X rfl dX3_leastAt_36 (fun hi => ⟨by first | (rw [if_pos (by omega), show ((i : Int) * 25 + (j : Int)).toNat = 25 * i + j by omega]) | (rw [if_neg (by omega)]), rfl⟩)
    · refine bg_iload2 (pc := 10) X1 dX3_leastAt_10 ?_
      refine bg_if_lt (pc := 11) X1 (tgt := 34) dX3_leastAt_11 (by decide) (fun u11 => ?_) (fun u11 => ?_)
      · exfalso; omega
      · refine bg_iload2 (pc := 14) X1 dX3_leastAt_14 ?_
        refine bg_bipush (pc := 15) X1 dX3_leastAt_15 rfl (by decide) ?_
        refine bg_icmp_ge (pc := 17) X1 (tgt := 34) dX3_leastAt_17 (by decide) (fun u17 => ?_) (fun u17 => ?_)
        · refine bg_ldc (pc := 34) X1 dX3_leastAt_34 kX3_67 (by decide) ?_
          exact bo_iret (pc := 36) X rfl dX3_leastAt_36 (fun hi => ⟨by first | (rw [if_pos (by omega), show ((i : Int) * 25 + (j : Int)).toNat = 25 * i + j by omega]) | (rw [if_neg (by omega)]), rfl⟩)
        · refine bg_aload0 (pc := 20) X1 dX3_leastAt_20 ?_
          refine bo_getR (pc := 21) X1 dX3_leastAt_21 fX3_35 (by first | assumption | rfl) rfl (by first | assumption | rfl) ?_
          refine bg_iload1 (pc := 24) X1 dX3_leastAt_24 ?_
          refine bg_bipush (pc := 25) X1 dX3_leastAt_25 rfl (by decide) ?_
          refine bg_imul (pc := 27) X1 dX3_leastAt_27 (by omega) ?_
          refine bg_iload2 (pc := 28) X1 dX3_leastAt_28 ?_
          refine bg_iadd (pc := 29) X1 dX3_leastAt_29 (by omega) ?_
          refine bo_iaload (pc := 30) X1 dX3_leastAt_30 (by first | assumption | rfl) (by omega) ?_
          refine bg_goto (pc := 31) X1 (tgt := 36) dX3_leastAt_31 (by decide) ?_
          exact bo_iret (pc := 36) X rfl dX3_leastAt_36 (fun hi => ⟨by first | (rw [if_pos (by omega), show ((i : Int) * 25 + (j : Int)).toNat = 25 * i + j by omega]) | (rw [if_neg (by omega)]), rfl⟩)
theorem c_X3_putLeast {y : bg_Y} {g : bg_E} {q i j : Nat} {v : Int} (hq : bg_mat q) (hi : i < 25) (hj : j < 25) : bg_Sv y 0 mX3_putLeast [.inr (q + 1), .inl (i : Int), .inl (j : Int), .inl v] g (fun g' => g' = bg_up g (q + 9) (25 * i + j) v) := by
  obtain ⟨s1, s2, s3, s4, s5, s6, s7, s8, s9, s10, s11, s12, s13, s14, s15, s16, s17, s18, s19⟩ := id hq
  refine bg_enter pnX3 (Nat.le_of_ble_eq_true rfl) (fun κ X hR hg => ?_)
  have X1 : bg_X κ y cX3_putLeast RX3 0 0 0 := X.1
  have hg : ∀ a k, R32 (g a k) := hg
  show bg_g κ y 0 [some (.inr (q + 1)), some (.inl (i : Int)), some (.inl (j : Int)), some (.inl v)] [] g
  refine bg_iload1 (pc := 0) X1 dX3_putLeast_0 ?_
  refine bg_if_lt (pc := 1) X1 (tgt := 32) dX3_putLeast_1 (by decide) (fun u1 => ?_) (fun u1 => ?_)
  · exfalso; omega
  · refine bg_iload1 (pc := 4) X1 dX3_putLeast_4 ?_
    refine bg_bipush (pc := 5) X1 dX3_putLeast_5 rfl (by decide) ?_
    refine bg_icmp_ge (pc := 7) X1 (tgt := 32) dX3_putLeast_7 (by decide) (fun u7 => ?_) (fun u7 => ?_)
    · exfalso; omega
    · refine bg_iload2 (pc := 10) X1 dX3_putLeast_10 ?_
      refine bg_if_lt (pc := 11) X1 (tgt := 32) dX3_putLeast_11 (by decide) (fun u11 => ?_) (fun u11 => ?_)
      · exfalso; omega
      · refine bg_iload2 (pc := 14) X1 dX3_putLeast_14 ?_
        refine bg_bipush (pc := 15) X1 dX3_putLeast_15 rfl (by decide) ?_
        refine bg_icmp_ge (pc := 17) X1 (tgt := 32) dX3_putLeast_17 (by decide) (fun u17 => ?_) (fun u17 => ?_)
        · exfalso; omega
        · refine bg_aload0 (pc := 20) X1 dX3_putLeast_20 ?_
          refine bo_getR (pc := 21) X1 dX3_putLeast_21 fX3_35 (by first | assumption | rfl) rfl (by first | assumption | rfl) ?_
          refine bg_iload1 (pc := 24) X1 dX3_putLeast_24 ?_
          refine bg_bipush (pc := 25) X1 dX3_putLeast_25 rfl (by decide) ?_
          refine bg_imul (pc := 27) X1 dX3_putLeast_27 (by omega) ?_
          refine bg_iload2 (pc := 28) X1 dX3_putLeast_28 ?_
          refine bg_iadd (pc := 29) X1 dX3_putLeast_29 (by omega) ?_
          refine bg_iload3 (pc := 30) X1 dX3_putLeast_30 ?_
          refine bo_iastore (pc := 31) X1 dX3_putLeast_31 (by first | assumption | rfl) (by omega) ?_
          exact bo_vret (pc := 32) X rfl dX3_putLeast_32 (fun hg9 => by rw [show ((i : Int) * 25 + (j : Int)).toNat = 25 * i + j by omega])
theorem c_X3_leastAfter {y : bg_Y} {g : bg_E} {q i j : Nat} {s : Int} (hq : bg_mat q) (hi : i ≤ 24) (hj : j ≤ 24) : bg_Si y 1 mX3_leastAfter [.inr (q + 1), .inl s, .inl (i : Int), .inl (j : Int)] g (fun r g' => r = (if ni s i < 25 ∧ nj s j < 25 then g (q + 9) (25 * ni s i + nj s j) else 1000000) ∧ g' = g) := by
  obtain ⟨s1, s2, s3, s4, s5, s6, s7, s8, s9, s10, s11, s12, s13, s14, s15, s16, s17, s18, s19⟩ := id hq
  refine bg_enter pnX3 (Nat.le_of_ble_eq_true rfl) (fun κ X hR hg => ?_)
  have X1 : bg_X κ y cX3_leastAfter RX3 1 0 0 := X.1
  have hg : ∀ a k, R32 (g a k) := hg
  show bg_g κ y 0 [some (.inr (q + 1)), some (.inl s), some (.inl (i : Int)), some (.inl (j : Int))] [] g
  refine bg_aload0 (pc := 0) X1 dX3_leastAfter_0 ?_
  refine bg_iload1 (pc := 1) X1 dX3_leastAfter_1 ?_
  refine bg_iload2 (pc := 2) X1 dX3_leastAfter_2 ?_
  refine bo_S2i (pc := 3) X1 (c_X3_nextOfA (by omega)) sX3_nextOfA lX3_85 rfl (by decide) dX3_leastAfter_3 (by exact Nat.le_of_ble_eq_true rfl) ?_
  rintro _ _ ⟨h9, h8⟩
  obtain rfl := h9.symm
  obtain rfl := h8.symm
  clear h9 h8
  refine bg_iload1 (pc := 6) X1 dX3_leastAfter_6 ?_
  refine bg_iload3 (pc := 7) X1 dX3_leastAfter_7 ?_
  refine bo_S2i (pc := 8) X1 (c_X3_nextOfB (by omega)) sX3_nextOfB lX3_88 rfl (by decide) dX3_leastAfter_8 (by exact Nat.le_of_ble_eq_true rfl) ?_
  rintro _ _ ⟨h9, h8⟩
  obtain rfl := h9.symm
  obtain rfl := h8.symm
  clear h9 h8
  refine bo_V2i (pc := 11) X1 (c_X3_leastAt hq) vX3_leastAt lX3_91 rfl (by first | assumption | rfl) (by decide) dX3_leastAfter_11 (by exact Nat.le_of_ble_eq_true rfl) ?_
  rintro _ _ ⟨h9, h8⟩
  obtain rfl := h9.symm
  obtain rfl := h8.symm
  clear h9 h8
  exact bo_iret (pc := 14) X rfl dX3_leastAfter_14 (fun hi => ⟨by first | rfl | omega, rfl⟩)
theorem c_X3_missingCostOf {y : bg_Y} {g : bg_E} {q : Nat} {m : Int} {P : bm_P} (hq : bg_mat q) (hP : paiR g q P) : bg_Si y 1 mX3_missingCostOf [.inr (q + 1), .inl m] g (fun r g' => r = (if isMa m then pM P m else 1000000) ∧ g' = g) := by
  obtain ⟨s1, s2, s3, s4, s5, s6, s7, s8, s9, s10, s11, s12, s13, s14, s15, s16, s17, s18, s19⟩ := id hq
  refine bg_enter pnX3 (Nat.le_of_ble_eq_true rfl) (fun κ X hR hg => ?_)
  have X1 : bg_X κ y cX3_missingCostOf RX3 1 0 0 := X.1
  have hg : ∀ a k, R32 (g a k) := hg
  show bg_g κ y 0 [some (.inr (q + 1)), some (.inl m)] [] g
  refine bg_iload1 (pc := 0) X1 dX3_missingCostOf_0 ?_
  refine bo_N1i (pc := 1) X1 (c_X6_isMark) sX6_isMark hX3_74 rfl (by decide) dX3_missingCostOf_1 (by exact Nat.le_of_ble_eq_true rfl) ?_
  rintro _ _ ⟨h9, h8⟩
  obtain rfl := h9.symm
  obtain rfl := h8.symm
  clear h9 h8
  refine bo_ifeq_b (pc := 4) X1 (tgt := 16) dX3_missingCostOf_4 (by decide) (fun u4 => ?_) (fun u4 => ?_)
  · refine bg_ldc (pc := 16) X1 dX3_missingCostOf_16 kX3_67 (by decide) ?_
    exact bo_iret (pc := 18) X rfl dX3_missingCostOf_18 (fun hi => ⟨by first | (rw [if_pos u4]; exact hP.2.2.1 _ (by omega)) | (rw [if_neg u4]), rfl⟩)
  · refine bg_aload0 (pc := 7) X1 dX3_missingCostOf_7 ?_
    refine bo_getR (pc := 8) X1 dX3_missingCostOf_8 fX3_21 (by first | assumption | rfl) rfl (by first | assumption | rfl) ?_
    refine bg_iload1 (pc := 11) X1 dX3_missingCostOf_11 ?_
    refine bo_iaload (pc := 12) X1 dX3_missingCostOf_12 (by first | assumption | rfl) (by omega) ?_
    refine bg_goto (pc := 13) X1 (tgt := 18) dX3_missingCostOf_13 (by decide) ?_
    exact bo_iret (pc := 18) X rfl dX3_missingCostOf_18 (fun hi => ⟨by first | (rw [if_pos u4]; exact hP.2.2.1 _ (by omega)) | (rw [if_neg u4]), rfl⟩)
theorem c_X3_costOfDifference {y : bg_Y} {g : bg_E} {q i j : Nat} {P : bm_P} (hq : bg_mat q) (hP : paiR g q P) (hok : okP P) (hi : i < (pA P).length) (hj : j < (pB P).length) : bg_Si y 2 mX3_costOfDifference [.inr (q + 1), .inl (i : Int), .inl (j : Int)] g (fun r g' => r = dif P i j ∧ g' = g) := by
  obtain ⟨s1, s2, s3, s4, s5, s6, s7, s8, s9, s10, s11, s12, s13, s14, s15, s16, s17, s18, s19⟩ := id hq
  obtain ⟨p1, p2, p3, p4, p5, p6⟩ := id hP
  have t1 := thOK hok.1.1 hi
  have t2 := thOK hok.2.1.1 hj
  have q2 := hok.1.2
  have q3 := hok.2.1.2
  have e1 : (if hasP g (q + 2) (i : Int) then g (q + 2 + 2) (i : Int).toNat else 0) = th (pA P) i := by rw [if_pos ⟨by omega, by rw [p1.1]; omega, by omega⟩]; exact (p1.2.2 i hi).2
  have e2 : (if hasP g (q + 5) (j : Int) then g (q + 5 + 2) (j : Int).toNat else 0) = th (pB P) j := by rw [if_pos ⟨by omega, by rw [p2.1]; omega, by omega⟩]; exact (p2.2.2 j hj).2
  have hd := dif_R hok hi hj
  refine bg_enter pnX3 (Nat.le_of_ble_eq_true rfl) (fun κ X hR hg => ?_)
  have X1 : bg_X κ y cX3_costOfDifference RX3 2 0 0 := X.1
  have hg : ∀ a k, R32 (g a k) := hg
  show bg_g κ y 0 [some (.inr (q + 1)), some (.inl (i : Int)), some (.inl (j : Int))] [] g
  refine bg_aload0 (pc := 0) X1 dX3_costOfDifference_0 ?_
  refine bo_getI (pc := 1) X1 dX3_costOfDifference_1 fX3_29 (by first | assumption | rfl) rfl ?_
  refine bg_aload0 (pc := 4) X1 dX3_costOfDifference_4 ?_
  refine bo_getR (pc := 5) X1 dX3_costOfDifference_5 fX3_12 (by first | assumption | rfl) rfl (by first | assumption | rfl) ?_
  refine bg_iload1 (pc := 8) X1 dX3_costOfDifference_8 ?_
  refine bo_V1i (pc := 9) X1 (c_X0_thicknessOf s12) vX0_thicknessOf lX3_77 rfl s12.1 (by decide) dX3_costOfDifference_9 (by exact Nat.le_of_ble_eq_true rfl) ?_
  rintro _ _ ⟨h9, h8⟩
  obtain rfl := h9.symm
  obtain rfl := h8.symm
  clear h9 h8
  rw [e1]
  refine bg_aload0 (pc := 12) X1 dX3_costOfDifference_12 ?_
  refine bo_getR (pc := 13) X1 dX3_costOfDifference_13 fX3_18 (by first | assumption | rfl) rfl (by first | assumption | rfl) ?_
  refine bg_iload2 (pc := 16) X1 dX3_costOfDifference_16 ?_
  refine bo_V1i (pc := 17) X1 (c_X0_thicknessOf s13) vX0_thicknessOf lX3_77 rfl s13.1 (by decide) dX3_costOfDifference_17 (by exact Nat.le_of_ble_eq_true rfl) ?_
  rintro _ _ ⟨h9, h8⟩
  obtain rfl := h9.symm
  obtain rfl := h8.symm
  clear h9 h8
  rw [e2]
  refine bg_isub (pc := 20) X1 dX3_costOfDifference_20 (by omega) ?_
  refine bo_abs (pc := 21) X1 lX3_80 (by decide) (by omega) dX3_costOfDifference_21 (by exact Nat.le_of_ble_eq_true rfl) ?_
  refine bg_imul (pc := 24) X1 dX3_costOfDifference_24 (by rw [p5]; unfold dif at hd; omega) ?_
  exact bo_iret (pc := 25) X rfl dX3_costOfDifference_25 (fun hi => ⟨by rw [p5]; rfl, rfl⟩)
theorem c_X3_repeatedBed {y : bg_Y} {g : bg_E} {q i j : Nat} {P : bm_P} (hq : bg_mat q) (hP : paiR g q P) (hok : okP P) (hi : i ≤ (pA P).length) : bg_Si y 2 mX3_repeatedBed [.inr (q + 1), .inl (i : Int), .inl (j : Int)] g (fun r g' => r = (if j < (pB P).length ∧ 0 ≤ rep P i j then rep P i j else -1000009) ∧ g' = g) := by
  obtain ⟨s1, s2, s3, s4, s5, s6, s7, s8, s9, s10, s11, s12, s13, s14, s15, s16, s17, s18, s19⟩ := id hq
  obtain ⟨p1, p2, p3, p4, p5, p6⟩ := id hP
  have q2 := hok.1.2
  have q3 := hok.2.1.2
  have hw := hok.2.2.2.2.2
  have p11 := p1.1
  have p21 := p2.1
  refine bg_enter pnX3 (Nat.le_of_ble_eq_true rfl) (fun κ X hR hg => ?_)
  have X1 : bg_X κ y cX3_repeatedBed RX3 2 0 0 := X.1
  have hg : ∀ a k, R32 (g a k) := hg
  show bg_g κ y 0 [some (.inr (q + 1)), some (.inl (i : Int)), some (.inl (j : Int)), none, none] [] g
  have loop : ∀ (n k : Nat) (a : Int), j < (pB P).length → a = (k : Int) - 1 → (k : Int) + pW P = i + n → k ≤ i → rep P i j = rp (pA P) (mrk (pB P) j) n k → bg_g κ y 28 [some (.inr (q + 1)), some (.inl (i : Int)), some (.inl (j : Int)), some (.inl (mrk (pB P) j)), some (.inl a)] [] g := by
    intro n
    induction n with
    | zero =>
      intro k a hj ha hn hk hr
      have e0 : rep P i j = -1 := by rw [hr]; rfl
      refine bg_iload4 (pc := 28) X1 dX3_repeatedBed_28 ?_
      refine bg_if_lt (pc := 30) X1 (tgt := 66) dX3_repeatedBed_30 (by decide) (fun u30 => ?_) (fun u30 => ?_)
      · refine bg_ldc (pc := 66) X1 dX3_repeatedBed_66 kX3_59 (by decide) ?_
        exact bo_iret (pc := 68) X rfl dX3_repeatedBed_68 (fun hi => ⟨by rw [if_neg (by omega)], rfl⟩)
      · refine bg_iload4 (pc := 33) X1 dX3_repeatedBed_33 ?_
        refine bg_iload1 (pc := 35) X1 dX3_repeatedBed_35 ?_
        refine bg_aload0 (pc := 36) X1 dX3_repeatedBed_36 ?_
        refine bo_getI (pc := 37) X1 dX3_repeatedBed_37 fX3_32 (by first | assumption | rfl) rfl ?_
        refine bg_isub (pc := 40) X1 dX3_repeatedBed_40 (by omega) ?_
        refine bg_icmp_lt (pc := 41) X1 (tgt := 66) dX3_repeatedBed_41 (by decide) (fun u41 => ?_) (fun u41 => ?_)
        · refine bg_ldc (pc := 66) X1 dX3_repeatedBed_66 kX3_59 (by decide) ?_
          exact bo_iret (pc := 68) X rfl dX3_repeatedBed_68 (fun hi => ⟨by rw [if_neg (by omega)], rfl⟩)
        · exfalso; omega
    | succ n ih =>
      intro k a hj ha hn hk hr
      cases k with
      | zero =>
        have e0 : rep P i j = -1 := by rw [hr]; rfl
        refine bg_iload4 (pc := 28) X1 dX3_repeatedBed_28 ?_
        refine bg_if_lt (pc := 30) X1 (tgt := 66) dX3_repeatedBed_30 (by decide) (fun u30 => ?_) (fun u30 => ?_)
        · refine bg_ldc (pc := 66) X1 dX3_repeatedBed_66 kX3_59 (by decide) ?_
          exact bo_iret (pc := 68) X rfl dX3_repeatedBed_68 (fun hi => ⟨by rw [if_neg (by omega)], rfl⟩)
        · exfalso; omega
      | succ k =>
        rw [rp] at hr
        have e1 : (if hasP g (q + 2) a then g (q + 2 + 1) a.toNat else -1000009) = mrk (pA P) k := by rw [if_pos ⟨by omega, by omega, by omega⟩, show a.toNat = k by omega]; exact (p1.2.2 k (by omega)).1
        refine bg_iload4 (pc := 28) X1 dX3_repeatedBed_28 ?_
        refine bg_if_lt (pc := 30) X1 (tgt := 66) dX3_repeatedBed_30 (by decide) (fun u30 => ?_) (fun u30 => ?_)
        · exfalso; omega
        · refine bg_iload4 (pc := 33) X1 dX3_repeatedBed_33 ?_
          refine bg_iload1 (pc := 35) X1 dX3_repeatedBed_35 ?_
          refine bg_aload0 (pc := 36) X1 dX3_repeatedBed_36 ?_
          refine bo_getI (pc := 37) X1 dX3_repeatedBed_37 fX3_32 (by first | assumption | rfl) rfl ?_
          refine bg_isub (pc := 40) X1 dX3_repeatedBed_40 (by omega) ?_
          refine bg_icmp_lt (pc := 41) X1 (tgt := 66) dX3_repeatedBed_41 (by decide) (fun u41 => ?_) (fun u41 => ?_)
          · exfalso; omega
          · refine bg_aload0 (pc := 44) X1 dX3_repeatedBed_44 ?_
            refine bo_getR (pc := 45) X1 dX3_repeatedBed_45 fX3_12 (by first | assumption | rfl) rfl (by first | assumption | rfl) ?_
            refine bg_iload4 (pc := 48) X1 dX3_repeatedBed_48 ?_
            refine bo_V1i (pc := 50) X1 (c_X0_markOf s12) vX0_markOf lX3_60 rfl s12.1 (by decide) dX3_repeatedBed_50 (by exact Nat.le_of_ble_eq_true rfl) ?_
            rintro _ _ ⟨h9, h8⟩
            obtain rfl := h9.symm
            obtain rfl := h8.symm
            clear h9 h8
            rw [e1]
            refine bg_iload3 (pc := 53) X1 dX3_repeatedBed_53 ?_
            refine bg_icmp_ne (pc := 54) X1 (tgt := 60) dX3_repeatedBed_54 (by decide) (fun u54 => ?_) (fun u54 => ?_)
            · rw [if_neg u54] at hr
              refine bg_iinc4 (pc := 60) X1 dX3_repeatedBed_60 (by omega) ?_
              refine bg_goto (pc := 63) X1 (tgt := 28) dX3_repeatedBed_63 (by decide) ?_
              exact ih k _ hj (by omega) (by omega) (by omega) hr
            · rw [if_pos u54] at hr
              refine bg_iload4 (pc := 57) X1 dX3_repeatedBed_57 ?_
              exact bo_iret (pc := 59) X rfl dX3_repeatedBed_59 (fun hi => ⟨by rw [hr, if_pos ⟨hj, by omega⟩]; omega, rfl⟩)
  refine bg_aload0 (pc := 0) X1 dX3_repeatedBed_0 ?_
  refine bo_getR (pc := 1) X1 dX3_repeatedBed_1 fX3_18 (by first | assumption | rfl) rfl (by first | assumption | rfl) ?_
  refine bg_iload2 (pc := 4) X1 dX3_repeatedBed_4 ?_
  refine bo_V1i (pc := 5) X1 (c_X0_has s13) vX0_has lX3_56 rfl s13.1 (by decide) dX3_repeatedBed_5 (by exact Nat.le_of_ble_eq_true rfl) ?_
  rintro _ _ ⟨h9, h8⟩
  obtain rfl := h9.symm
  obtain rfl := h8.symm
  clear h9 h8
  refine bo_ifne_b (pc := 8) X1 (tgt := 14) dX3_repeatedBed_8 (by decide) (fun u8 => ?_) (fun u8 => ?_)
  · have hj : j < (pB P).length := by omega
    have e1 : (if hasP g (q + 5) (j : Int) then g (q + 5 + 1) (j : Int).toNat else -1000009) = mrk (pB P) j := by rw [if_pos u8]; exact (p2.2.2 j hj).1
    refine bg_aload0 (pc := 14) X1 dX3_repeatedBed_14 ?_
    refine bo_getR (pc := 15) X1 dX3_repeatedBed_15 fX3_18 (by first | assumption | rfl) rfl (by first | assumption | rfl) ?_
    refine bg_iload2 (pc := 18) X1 dX3_repeatedBed_18 ?_
    refine bo_V1i (pc := 19) X1 (c_X0_markOf s13) vX0_markOf lX3_60 rfl s13.1 (by decide) dX3_repeatedBed_19 (by exact Nat.le_of_ble_eq_true rfl) ?_
    rintro _ _ ⟨h9, h8⟩
    obtain rfl := h9.symm
    obtain rfl := h8.symm
    clear h9 h8
    rw [e1]
    refine bg_istore3 (pc := 22) X1 dX3_repeatedBed_22 ?_
    refine bg_iload1 (pc := 23) X1 dX3_repeatedBed_23 ?_
    refine bg_iconst (pc := 24) X1 dX3_repeatedBed_24 (by decide) ?_
    refine bg_isub (pc := 25) X1 dX3_repeatedBed_25 (by omega) ?_
    refine bg_istore4 (pc := 26) X1 dX3_repeatedBed_26 ?_
    exact loop (pW P).toNat i _ hj rfl (by omega) (Nat.le_refl _) rfl
  · refine bg_ldc (pc := 11) X1 dX3_repeatedBed_11 kX3_59 (by decide) ?_
    exact bo_iret (pc := 13) X rfl dX3_repeatedBed_13 (fun hi => ⟨by rw [if_neg (by omega)], rfl⟩)
