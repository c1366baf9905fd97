/-! the class's calls that only look -/
theorem c_X6_count {y : bg_Y} {g : bg_E} {w : Int} {Z : bm_X} (hX : clsR g Z) (ok : okX Z) : bg_Si y 6 mX6_count [.inr 0, .inl w] g (fun r g' => r = xCount Z w ∧ clsR g' Z ∧ frR 0 198 g g') := by
  have b1 : bg_sta 1 := bg_stas 1 (by simp)
  have hK := ok.1.2.2.2.2.2.1
  refine bg_enter pnX6 (Nat.le_of_ble_eq_true rfl) (fun κ X hR hg => ?_)
  have X1 : bg_X κ y cX6_count RX6 6 0 0 := X.1
  have hg : ∀ a k, R32 (g a k) := hg
  show bg_g κ y 0 [some (.inr 0), some (.inl w)] [] g
  refine bg_iload1 (pc := 0) X1 dX6_count_0 ?_
  refine bg_if_lt (pc := 1) X1 (tgt := 18) dX6_count_1 (by decide) (fun u1 => ?_) (fun u1 => ?_)
  · refine bg_iload1 (pc := 18) X1 dX6_count_18 ?_
    refine bg_tsw5 (pc := 19) X1 (t0 := 52) (t1 := 60) (t2 := 68) (t3 := 76) (t4 := 84) (td := 89) dX6_count_19 (by decide) (by decide) (by decide) (by decide) (by decide) (by decide) (fun u19 => ?_) (fun u19 => ?_) (fun u19 => ?_) (fun u19 => ?_) (fun u19 => ?_) (fun u19 => ?_) 
    · refine bg_aload0 (pc := 52) X1 dX6_count_52 ?_
      refine bo_getR (pc := 53) X1 dX6_count_53 fX6_10 (by first | assumption | rfl) rfl (by first | assumption | rfl) ?_
      refine bo_V0i (pc := 56) X1 (c_X4_keyMarkCount b1 (by rw [hX.1.2.1]; exact hK)) vX4_keyMarkCount lX6_188 rfl (by first | assumption | rfl) (by decide) dX6_count_56 (by exact Nat.le_of_ble_eq_true rfl) ?_
      rintro _ _ ⟨h9, h8⟩
      obtain rfl := h9.symm
      obtain rfl := h8.symm
      clear h9 h8
      exact bo_iret (pc := 59) X rfl dX6_count_59 (fun hi => by unfold xCount; rw [if_neg (show ¬ (0 ≤ w ∧ w < 5) by omega), if_pos (show w = 5 by omega), hX.1.2.1]; exact ⟨rfl, hX, frR.rf⟩)
    · refine bg_aload0 (pc := 60) X1 dX6_count_60 ?_
      refine bo_getR (pc := 61) X1 dX6_count_61 fX6_10 (by first | assumption | rfl) rfl (by first | assumption | rfl) ?_
      refine bo_V0i (pc := 64) X1 (c_X4_sumOfSizes b1 hX.1) vX4_sumOfSizes lX6_179 rfl (by first | assumption | rfl) (by decide) dX6_count_64 (by exact Nat.le_of_ble_eq_true rfl) ?_
      rintro _ _ ⟨h9, h8⟩
      obtain rfl := h9.symm
      obtain rfl := h8.symm
      clear h9 h8
      exact bo_iret (pc := 67) X rfl dX6_count_67 (fun hi => by unfold xCount; rw [if_neg (show ¬ (0 ≤ w ∧ w < 5) by omega), if_neg (show ¬ w = 5 by omega), if_pos (show w = 6 by omega)]; exact ⟨rfl, hX, frR.rf⟩)
    · refine bg_aload0 (pc := 68) X1 dX6_count_68 ?_
      refine bo_getR (pc := 69) X1 dX6_count_69 fX6_34 (by first | assumption | rfl) rfl (by first | assumption | rfl) ?_
      refine bo_V0i (pc := 72) X1 (c_X5_size) vX5_size lX6_156 rfl (by first | assumption | rfl) (by decide) dX6_count_72 (by exact Nat.le_of_ble_eq_true rfl) ?_
      rintro _ _ ⟨h9, h8⟩
      obtain rfl := h9.symm
      obtain rfl := h8.symm
      clear h9 h8
      exact bo_iret (pc := 75) X rfl dX6_count_75 (fun hi => by unfold xCount; rw [if_neg (show ¬ (0 ≤ w ∧ w < 5) by omega), if_neg (show ¬ w = 5 by omega), if_neg (show ¬ w = 6 by omega), if_pos (show w = 7 by omega)]; exact ⟨hX.2.2.2.2.1.1, hX, frR.rf⟩)
    · refine bg_aload0 (pc := 76) X1 dX6_count_76 ?_
      refine bo_getR (pc := 77) X1 dX6_count_77 fX6_19 (by first | assumption | rfl) rfl (by first | assumption | rfl) ?_
      refine bo_V0i (pc := 80) X1 (c_X1_size) vX1_size lX6_187 rfl (by first | assumption | rfl) (by decide) dX6_count_80 (by exact Nat.le_of_ble_eq_true rfl) ?_
      rintro _ _ ⟨h9, h8⟩
      obtain rfl := h9.symm
      obtain rfl := h8.symm
      clear h9 h8
      exact bo_iret (pc := 83) X rfl dX6_count_83 (fun hi => by unfold xCount; rw [if_neg (show ¬ (0 ≤ w ∧ w < 5) by omega), if_neg (show ¬ w = 5 by omega), if_neg (show ¬ w = 6 by omega), if_neg (show ¬ w = 7 by omega), if_pos (show w = 8 by omega)]; exact ⟨hX.2.1.1, hX, frR.rf⟩)
    · refine bg_aload0 (pc := 84) X1 dX6_count_84 ?_
      refine bo_getI (pc := 85) X1 dX6_count_85 fX6_27 (by first | assumption | rfl) rfl ?_
      exact bo_iret (pc := 88) X rfl dX6_count_88 (fun hi => by unfold xCount; rw [if_neg (show ¬ (0 ≤ w ∧ w < 5) by omega), if_neg (show ¬ w = 5 by omega), if_neg (show ¬ w = 6 by omega), if_neg (show ¬ w = 7 by omega), if_neg (show ¬ w = 8 by omega), if_pos (show w = 9 by omega)]; exact ⟨hX.2.2.1, hX, frR.rf⟩)
    · refine bg_ldc (pc := 89) X1 dX6_count_89 kX6_58 (by decide) ?_
      exact bo_iret (pc := 91) X rfl dX6_count_91 (fun hi => by unfold xCount; rw [if_neg (show ¬ (0 ≤ w ∧ w < 5) by omega), if_neg (show ¬ w = 5 by omega), if_neg (show ¬ w = 6 by omega), if_neg (show ¬ w = 7 by omega), if_neg (show ¬ w = 8 by omega), if_neg (show ¬ w = 9 by omega)]; exact ⟨rfl, hX, frR.rf⟩)
  · refine bg_iload1 (pc := 4) X1 dX6_count_4 ?_
    refine bg_iconst (pc := 5) X1 dX6_count_5 (by decide) ?_
    refine bg_icmp_ge (pc := 6) X1 (tgt := 18) dX6_count_6 (by decide) (fun u6 => ?_) (fun u6 => ?_)
    · refine bg_iload1 (pc := 18) X1 dX6_count_18 ?_
      refine bg_tsw5 (pc := 19) X1 (t0 := 52) (t1 := 60) (t2 := 68) (t3 := 76) (t4 := 84) (td := 89) dX6_count_19 (by decide) (by decide) (by decide) (by decide) (by decide) (by decide) (fun u19 => ?_) (fun u19 => ?_) (fun u19 => ?_) (fun u19 => ?_) (fun u19 => ?_) (fun u19 => ?_) 
      · refine bg_aload0 (pc := 52) X1 dX6_count_52 ?_
        refine bo_getR (pc := 53) X1 dX6_count_53 fX6_10 (by first | assumption | rfl) rfl (by first | assumption | rfl) ?_
        refine bo_V0i (pc := 56) X1 (c_X4_keyMarkCount b1 (by rw [hX.1.2.1]; exact hK)) vX4_keyMarkCount lX6_188 rfl (by first | assumption | rfl) (by decide) dX6_count_56 (by exact Nat.le_of_ble_eq_true rfl) ?_
        rintro _ _ ⟨h9, h8⟩
        obtain rfl := h9.symm
        obtain rfl := h8.symm
        clear h9 h8
        exact bo_iret (pc := 59) X rfl dX6_count_59 (fun hi => by unfold xCount; rw [if_neg (show ¬ (0 ≤ w ∧ w < 5) by omega), if_pos (show w = 5 by omega), hX.1.2.1]; exact ⟨rfl, hX, frR.rf⟩)
      · refine bg_aload0 (pc := 60) X1 dX6_count_60 ?_
        refine bo_getR (pc := 61) X1 dX6_count_61 fX6_10 (by first | assumption | rfl) rfl (by first | assumption | rfl) ?_
        refine bo_V0i (pc := 64) X1 (c_X4_sumOfSizes b1 hX.1) vX4_sumOfSizes lX6_179 rfl (by first | assumption | rfl) (by decide) dX6_count_64 (by exact Nat.le_of_ble_eq_true rfl) ?_
        rintro _ _ ⟨h9, h8⟩
        obtain rfl := h9.symm
        obtain rfl := h8.symm
        clear h9 h8
        exact bo_iret (pc := 67) X rfl dX6_count_67 (fun hi => by unfold xCount; rw [if_neg (show ¬ (0 ≤ w ∧ w < 5) by omega), if_neg (show ¬ w = 5 by omega), if_pos (show w = 6 by omega)]; exact ⟨rfl, hX, frR.rf⟩)
      · refine bg_aload0 (pc := 68) X1 dX6_count_68 ?_
        refine bo_getR (pc := 69) X1 dX6_count_69 fX6_34 (by first | assumption | rfl) rfl (by first | assumption | rfl) ?_
        refine bo_V0i (pc := 72) X1 (c_X5_size) vX5_size lX6_156 rfl (by first | assumption | rfl) (by decide) dX6_count_72 (by exact Nat.le_of_ble_eq_true rfl) ?_
        rintro _ _ ⟨h9, h8⟩
        obtain rfl := h9.symm
        obtain rfl := h8.symm
        clear h9 h8
        exact bo_iret (pc := 75) X rfl dX6_count_75 (fun hi => by unfold xCount; rw [if_neg (show ¬ (0 ≤ w ∧ w < 5) by omega), if_neg (show ¬ w = 5 by omega), if_neg (show ¬ w = 6 by omega), if_pos (show w = 7 by omega)]; exact ⟨hX.2.2.2.2.1.1, hX, frR.rf⟩)
      · refine bg_aload0 (pc := 76) X1 dX6_count_76 ?_
        refine bo_getR (pc := 77) X1 dX6_count_77 fX6_19 (by first | assumption | rfl) rfl (by first | assumption | rfl) ?_
        refine bo_V0i (pc := 80) X1 (c_X1_size) vX1_size lX6_187 rfl (by first | assumption | rfl) (by decide) dX6_count_80 (by exact Nat.le_of_ble_eq_true rfl) ?_
        rintro _ _ ⟨h9, h8⟩
        obtain rfl := h9.symm
        obtain rfl := h8.symm
        clear h9 h8
        exact bo_iret (pc := 83) X rfl dX6_count_83 (fun hi => by unfold xCount; rw [if_neg (show ¬ (0 ≤ w ∧ w < 5) by omega), if_neg (show ¬ w = 5 by omega), if_neg (show ¬ w = 6 by omega), if_neg (show ¬ w = 7 by omega), if_pos (show w = 8 by omega)]; exact ⟨hX.2.1.1, hX, frR.rf⟩)
      · refine bg_aload0 (pc := 84) X1 dX6_count_84 ?_
        refine bo_getI (pc := 85) X1 dX6_count_85 fX6_27 (by first | assumption | rfl) rfl ?_
        exact bo_iret (pc := 88) X rfl dX6_count_88 (fun hi => by unfold xCount; rw [if_neg (show ¬ (0 ≤ w ∧ w < 5) by omega), if_neg (show ¬ w = 5 by omega), if_neg (show ¬ w = 6 by omega), if_neg (show ¬ w = 7 by omega), if_neg (show ¬ w = 8 by omega), if_pos (show w = 9 by omega)]; exact ⟨hX.2.2.1, hX, frR.rf⟩)
      · refine bg_ldc (pc := 89) X1 dX6_count_89 kX6_58 (by decide) ?_
        exact bo_iret (pc := 91) X rfl dX6_count_91 (fun hi => by unfold xCount; rw [if_neg (show ¬ (0 ≤ w ∧ w < 5) by omega), if_neg (show ¬ w = 5 by omega), if_neg (show ¬ w = 6 by omega), if_neg (show ¬ w = 7 by omega), if_neg (show ¬ w = 8 by omega), if_neg (show ¬ w = 9 by omega)]; exact ⟨rfl, hX, frR.rf⟩)
    · refine bg_aload0 (pc := 9) X1 dX6_count_9 ?_
      refine bo_getR (pc := 10) X1 dX6_count_10 fX6_10 (by first | assumption | rfl) rfl (by first | assumption | rfl) ?_
      refine bg_iload1 (pc := 13) X1 dX6_count_13 ?_
      refine bo_V1i (pc := 14) X1 (c_X4_numberOf b1 hX.1 (by omega)) vX4_numberOf lX6_70 rfl (by first | assumption | rfl) (by decide) dX6_count_14 (by exact Nat.le_of_ble_eq_true rfl) ?_
      rintro _ _ ⟨h9, h8⟩
      obtain rfl := h9.symm
      obtain rfl := h8.symm
      clear h9 h8
      exact bo_iret (pc := 17) X rfl dX6_count_17 (fun hi => by unfold xCount; rw [if_pos (show 0 ≤ w ∧ w < 5 by omega)]; exact ⟨rfl, hX, frR.rf⟩)
theorem c_X6_hole {y : bg_Y} {g : bg_E} {h w : Int} {Z : bm_X} (hX : clsR g Z) (ok : okX Z) : bg_Si y 6 mX6_hole [.inr 0, .inl h, .inl w] g (fun r g' => r = xHole Z h w ∧ clsR g' Z ∧ frR 0 198 g g') := by
  have b1 : bg_sta 1 := bg_stas 1 (by simp)
  obtain ⟨s1, s2, s3, s4, s5, s6, s7, s8, s9⟩ := id b1
  refine bg_enter pnX6 (Nat.le_of_ble_eq_true rfl) (fun κ X hR hg => ?_)
  have X1 : bg_X κ y cX6_hole RX6 6 0 0 := X.1
  have hg : ∀ a k, R32 (g a k) := hg
  show bg_g κ y 0 [some (.inr 0), some (.inl h), some (.inl w), none] [] g
  refine bg_iload1 (pc := 0) X1 dX6_hole_0 ?_
  refine bo_S1i (pc := 1) X1 (c_X6_isHole) sX6_isHole lX6_89 rfl (by decide) dX6_hole_1 (by exact Nat.le_of_ble_eq_true rfl) ?_
  rintro _ _ ⟨h9, h8⟩
  obtain rfl := h9.symm
  obtain rfl := h8.symm
  clear h9 h8
  refine bo_ifne_b (pc := 4) X1 (tgt := 10) dX6_hole_4 (by decide) (fun u4 => ?_) (fun u4 => ?_)
  · have hc := s9 h.toNat (by omega)
    have hq := hX.1.2.2.1 h.toNat (by omega)
    refine bg_aload0 (pc := 10) X1 dX6_hole_10 ?_
    refine bo_getR (pc := 11) X1 dX6_hole_11 fX6_10 (by first | assumption | rfl) rfl (by first | assumption | rfl) ?_
    refine bg_iload1 (pc := 14) X1 dX6_hole_14 ?_
    refine bo_V1r (pc := 15) X1 (c_X4_columnOf b1 u4) vX4_columnOf lX6_92 rfl (by first | assumption | rfl) (by decide) dX6_hole_15 (by exact Nat.le_of_ble_eq_true rfl) ?_
    rintro _ _ ⟨h9, h8⟩
    obtain rfl := h9.symm
    obtain rfl := h8.symm
    clear h9 h8
    refine bg_astore3 (pc := 18) X1 dX6_hole_18 ?_
    refine bg_iload2 (pc := 19) X1 dX6_hole_19 ?_
    refine bg_tsw3 (pc := 20) X1 (t0 := 48) (t1 := 53) (t2 := 58) (td := 63) dX6_hole_20 (by decide) (by decide) (by decide) (by decide) (fun u20 => ?_) (fun u20 => ?_) (fun u20 => ?_) (fun u20 => ?_) 
    · refine bg_aload3 (pc := 48) X1 dX6_hole_48 ?_
      refine bo_V0i (pc := 49) X1 (c_X0_collarElevation hc) vX0_collarElevation lX6_96 rfl hc.1 (by decide) dX6_hole_49 (by exact Nat.le_of_ble_eq_true rfl) ?_
      rintro _ _ ⟨h9, h8⟩
      obtain rfl := h9.symm
      obtain rfl := h8.symm
      clear h9 h8
      exact bo_iret (pc := 52) X rfl dX6_hole_52 (fun hi => by unfold xHole; rw [if_pos u4, if_pos (by omega)]; exact ⟨hq.1, hX, frR.rf⟩)
    · refine bg_aload3 (pc := 53) X1 dX6_hole_53 ?_
      refine bo_V0i (pc := 54) X1 (c_X0_size hc) vX0_size lX6_107 rfl hc.1 (by decide) dX6_hole_54 (by exact Nat.le_of_ble_eq_true rfl) ?_
      rintro _ _ ⟨h9, h8⟩
      obtain rfl := h9.symm
      obtain rfl := h8.symm
      clear h9 h8
      exact bo_iret (pc := 57) X rfl dX6_hole_57 (fun hi => by unfold xHole; rw [if_pos u4, if_neg (by omega), if_pos (by omega)]; exact ⟨hq.2.1, hX, frR.rf⟩)
    · refine bg_aload3 (pc := 58) X1 dX6_hole_58 ?_
      refine bo_V0i (pc := 59) X1 (c_X0_totalThickness hc hq.2 (ok.1.2.2.2.2.2.2.2 h.toNat (by omega)).1) vX0_totalThickness lX6_136 rfl hc.1 (by decide) dX6_hole_59 (by exact Nat.le_of_ble_eq_true rfl) ?_
      rintro _ _ ⟨h9, h8⟩
      obtain rfl := h9.symm
      obtain rfl := h8.symm
      clear h9 h8
      exact bo_iret (pc := 62) X rfl dX6_hole_62 (fun hi => by unfold xHole; rw [if_pos u4, if_neg (by omega), if_neg (by omega), if_pos (by omega)]; exact ⟨rfl, hX, frR.rf⟩)
    · refine bg_ldc (pc := 63) X1 dX6_hole_63 kX6_58 (by decide) ?_
      exact bo_iret (pc := 65) X rfl dX6_hole_65 (fun hi => by unfold xHole; rw [if_pos u4, if_neg (by omega), if_neg (by omega), if_neg (by omega)]; exact ⟨rfl, hX, frR.rf⟩)
  · refine bg_ldc (pc := 7) X1 dX6_hole_7 kX6_58 (by decide) ?_
    exact bo_iret (pc := 9) X rfl dX6_hole_9 (fun hi => by unfold xHole; rw [if_neg u4]; exact ⟨rfl, hX, frR.rf⟩)
theorem c_X6_bed {y : bg_Y} {g : bg_E} {h b w : Int} {Z : bm_X} (hX : clsR g Z) (ok : okX Z) : bg_Si y 6 mX6_bed [.inr 0, .inl h, .inl b, .inl w] g (fun r g' => r = xBed Z h b w ∧ clsR g' Z ∧ frR 0 198 g g') := by
  have b1 : bg_sta 1 := bg_stas 1 (by simp)
  obtain ⟨s1, s2, s3, s4, s5, s6, s7, s8, s9⟩ := id b1
  refine bg_enter pnX6 (Nat.le_of_ble_eq_true rfl) (fun κ X hR hg => ?_)
  have X1 : bg_X κ y cX6_bed RX6 6 0 0 := X.1
  have hg : ∀ a k, R32 (g a k) := hg
  show bg_g κ y 0 [some (.inr 0), some (.inl h), some (.inl b), some (.inl w), none] [] g
  refine bg_iload1 (pc := 0) X1 dX6_bed_0 ?_
  refine bo_S1i (pc := 1) X1 (c_X6_isHole) sX6_isHole lX6_89 rfl (by decide) dX6_bed_1 (by exact Nat.le_of_ble_eq_true rfl) ?_
  rintro _ _ ⟨h9, h8⟩
  obtain rfl := h9.symm
  obtain rfl := h8.symm
  clear h9 h8
  refine bo_ifeq_b (pc := 4) X1 (tgt := 20) dX6_bed_4 (by decide) (fun u4 => ?_) (fun u4 => ?_)
  · refine bg_ldc (pc := 20) X1 dX6_bed_20 kX6_58 (by decide) ?_
    exact bo_iret (pc := 22) X rfl dX6_bed_22 (fun hi => by unfold xBed; rw [if_neg (by omega)]; exact ⟨rfl, hX, frR.rf⟩)
  · have hc := s9 h.toNat (by omega)
    have hq : colR g (1 + 3 + 3 * h.toNat) (qH Z h) := (hX.1.2.2.1 h.toNat (by omega)).2
    have hcol := (hX.1.2.2.1 h.toNat (by omega)).1
    have hv : colOK (qH Z h) ∧ (qH Z h).length ≤ 24 := ok.1.2.2.2.2.2.2.2 h.toNat (by omega)
    have hco := ok.1.2.2.2.2.2.2.1 h.toNat (by omega)
    refine bg_iload3 (pc := 7) X1 dX6_bed_7 ?_
    refine bg_if_lt (pc := 8) X1 (tgt := 20) dX6_bed_8 (by decide) (fun u8 => ?_) (fun u8 => ?_)
    · refine bg_ldc (pc := 20) X1 dX6_bed_20 kX6_58 (by decide) ?_
      exact bo_iret (pc := 22) X rfl dX6_bed_22 (fun hi => by unfold xBed; rw [if_neg (by omega)]; exact ⟨rfl, hX, frR.rf⟩)
    · refine bg_iload3 (pc := 11) X1 dX6_bed_11 ?_
      refine bg_iconst (pc := 12) X1 dX6_bed_12 (by decide) ?_
      refine bg_icmp_gt (pc := 13) X1 (tgt := 20) dX6_bed_13 (by decide) (fun u13 => ?_) (fun u13 => ?_)
      · refine bg_ldc (pc := 20) X1 dX6_bed_20 kX6_58 (by decide) ?_
        exact bo_iret (pc := 22) X rfl dX6_bed_22 (fun hi => by unfold xBed; rw [if_neg (by omega)]; exact ⟨rfl, hX, frR.rf⟩)
      · refine bg_iload2 (pc := 16) X1 dX6_bed_16 ?_
        refine bg_if_ge (pc := 17) X1 (tgt := 23) dX6_bed_17 (by decide) (fun u17 => ?_) (fun u17 => ?_)
        · refine bg_aload0 (pc := 23) X1 dX6_bed_23 ?_
          refine bo_getR (pc := 24) X1 dX6_bed_24 fX6_10 (by first | assumption | rfl) rfl (by first | assumption | rfl) ?_
          refine bg_iload1 (pc := 27) X1 dX6_bed_27 ?_
          refine bo_V1r (pc := 28) X1 (c_X4_columnOf b1 u4) vX4_columnOf lX6_92 rfl (by first | assumption | rfl) (by decide) dX6_bed_28 (by exact Nat.le_of_ble_eq_true rfl) ?_
          rintro _ _ ⟨h9, h8⟩
          obtain rfl := h9.symm
          obtain rfl := h8.symm
          clear h9 h8
          refine bg_astore4 (pc := 31) X1 dX6_bed_31 ?_
          refine bg_aload4 (pc := 33) X1 dX6_bed_33 ?_
          refine bg_iload2 (pc := 35) X1 dX6_bed_35 ?_
          refine bo_V1i (pc := 36) X1 (c_X0_has hc) vX0_has lX6_118 rfl hc.1 (by decide) dX6_bed_36 (by exact Nat.le_of_ble_eq_true rfl) ?_
          rintro _ _ ⟨h9, h8⟩
          obtain rfl := h9.symm
          obtain rfl := h8.symm
          clear h9 h8
          refine bo_ifne_b (pc := 39) X1 (tgt := 45) dX6_bed_39 (by decide) (fun u39 => ?_) (fun u39 => ?_)
          · rw [has_I hq] at u39
            refine bg_iload3 (pc := 45) X1 dX6_bed_45 ?_
            refine bg_tsw3 (pc := 46) X1 (t0 := 72) (t1 := 79) (t2 := 86) (td := 93) dX6_bed_46 (by decide) (by decide) (by decide) (by decide) (fun u46 => ?_) (fun u46 => ?_) (fun u46 => ?_) (fun u46 => ?_) 
            · refine bg_aload4 (pc := 72) X1 dX6_bed_72 ?_
              refine bg_iload2 (pc := 74) X1 dX6_bed_74 ?_
              refine bo_V1i (pc := 75) X1 (c_X0_markOf hc) vX0_markOf lX6_192 rfl hc.1 (by decide) dX6_bed_75 (by exact Nat.le_of_ble_eq_true rfl) ?_
              rintro _ _ ⟨h9, h8⟩
              obtain rfl := h9.symm
              obtain rfl := h8.symm
              clear h9 h8
              rw [mk_I hq u39]
              exact bo_iret (pc := 78) X rfl dX6_bed_78 (fun hi => by unfold xBed; rw [if_pos (by omega), if_pos (by omega), if_pos (by omega)]; exact ⟨rfl, hX, frR.rf⟩)
            · refine bg_aload4 (pc := 79) X1 dX6_bed_79 ?_
              refine bg_iload2 (pc := 81) X1 dX6_bed_81 ?_
              refine bo_V1i (pc := 82) X1 (c_X0_thicknessOf hc) vX0_thicknessOf lX6_121 rfl hc.1 (by decide) dX6_bed_82 (by exact Nat.le_of_ble_eq_true rfl) ?_
              rintro _ _ ⟨h9, h8⟩
              obtain rfl := h9.symm
              obtain rfl := h8.symm
              clear h9 h8
              rw [th_I hq u39]
              exact bo_iret (pc := 85) X rfl dX6_bed_85 (fun hi => by unfold xBed; rw [if_pos (by omega), if_pos (by omega), if_neg (by omega), if_pos (by omega)]; exact ⟨rfl, hX, frR.rf⟩)
            · refine bg_aload4 (pc := 86) X1 dX6_bed_86 ?_
              refine bg_iload2 (pc := 88) X1 dX6_bed_88 ?_
              refine bo_V1i (pc := 89) X1 (c_X0_depthOf hc hq hv.1 (by omega)) vX0_depthOf lX6_195 rfl hc.1 (by decide) dX6_bed_89 (by exact Nat.le_of_ble_eq_true rfl) ?_
              rintro _ _ ⟨h9, h8⟩
              obtain rfl := h9.symm
              obtain rfl := h8.symm
              clear h9 h8
              exact bo_iret (pc := 92) X rfl dX6_bed_92 (fun hi => by unfold xBed; rw [if_pos (by omega), if_pos (by omega), if_neg (by omega), if_neg (by omega), if_pos (by omega)]; exact ⟨rfl, hX, frR.rf⟩)
            · refine bg_aload4 (pc := 93) X1 dX6_bed_93 ?_
              refine bg_iload2 (pc := 95) X1 dX6_bed_95 ?_
              refine bo_V1i (pc := 96) X1 (c_X0_elevationOf hc hq hv.1 (by omega) (by rw [hcol]; exact hco)) vX0_elevationOf lX6_198 rfl hc.1 (by decide) dX6_bed_96 (by exact Nat.le_of_ble_eq_true rfl) ?_
              rintro _ _ ⟨h9, h8⟩
              obtain rfl := h9.symm
              obtain rfl := h8.symm
              clear h9 h8
              exact bo_iret (pc := 99) X rfl dX6_bed_99 (fun hi => by unfold xBed; rw [if_pos (by omega), if_pos (by omega), if_neg (by omega), if_neg (by omega), if_neg (by omega)]; exact ⟨by rw [hcol], hX, frR.rf⟩)
          · rw [has_I hq] at u39
            refine bg_ldc (pc := 42) X1 dX6_bed_42 kX6_191 (by decide) ?_
            exact bo_iret (pc := 44) X rfl dX6_bed_44 (fun hi => by unfold xBed; rw [if_pos (by omega), if_neg (by omega)]; exact ⟨rfl, hX, frR.rf⟩)
        · refine bg_ldc (pc := 20) X1 dX6_bed_20 kX6_58 (by decide) ?_
          exact bo_iret (pc := 22) X rfl dX6_bed_22 (fun hi => by unfold xBed; rw [if_neg (by omega)]; exact ⟨rfl, hX, frR.rf⟩)
theorem c_X6_find {y : bg_Y} {g : bg_E} {h m w : Int} {Z : bm_X} (hX : clsR g Z) : bg_Si y 6 mX6_find [.inr 0, .inl h, .inl m, .inl w] g (fun r g' => r = xFind Z h m w ∧ clsR g' Z ∧ frR 0 198 g g') := by
  have b1 : bg_sta 1 := bg_stas 1 (by simp)
  obtain ⟨s1, s2, s3, s4, s5, s6, s7, s8, s9⟩ := id b1
  refine bg_enter pnX6 (Nat.le_of_ble_eq_true rfl) (fun κ X hR hg => ?_)
  have X1 : bg_X κ y cX6_find RX6 6 0 0 := X.1
  have hg : ∀ a k, R32 (g a k) := hg
  show bg_g κ y 0 [some (.inr 0), some (.inl h), some (.inl m), some (.inl w)] [] g
  refine bg_iload1 (pc := 0) X1 dX6_find_0 ?_
  refine bo_S1i (pc := 1) X1 (c_X6_isHole) sX6_isHole lX6_89 rfl (by decide) dX6_find_1 (by exact Nat.le_of_ble_eq_true rfl) ?_
  rintro _ _ ⟨h9, h8⟩
  obtain rfl := h9.symm
  obtain rfl := h8.symm
  clear h9 h8
  refine bo_ifeq_b (pc := 4) X1 (tgt := 18) dX6_find_4 (by decide) (fun u4 => ?_) (fun u4 => ?_)
  · refine bg_ldc (pc := 18) X1 dX6_find_18 kX6_58 (by decide) ?_
    exact bo_iret (pc := 20) X rfl dX6_find_20 (fun hi => by unfold xFind; rw [if_neg (by omega)]; exact ⟨rfl, hX, frR.rf⟩)
  · refine bg_iload2 (pc := 7) X1 dX6_find_7 ?_
    refine bo_S1i (pc := 8) X1 (c_X6_isMark) sX6_isMark lX6_78 rfl (by decide) dX6_find_8 (by exact Nat.le_of_ble_eq_true rfl) ?_
    rintro _ _ ⟨h9, h8⟩
    obtain rfl := h9.symm
    obtain rfl := h8.symm
    clear h9 h8
    refine bo_ifeq_b (pc := 11) X1 (tgt := 18) dX6_find_11 (by decide) (fun u11 => ?_) (fun u11 => ?_)
    · refine bg_ldc (pc := 18) X1 dX6_find_18 kX6_58 (by decide) ?_
      exact bo_iret (pc := 20) X rfl dX6_find_20 (fun hi => by unfold xFind; rw [if_neg (by omega)]; exact ⟨rfl, hX, frR.rf⟩)
    · refine bg_iload3 (pc := 14) X1 dX6_find_14 ?_
      refine bg_if_ge (pc := 15) X1 (tgt := 21) dX6_find_15 (by decide) (fun u15 => ?_) (fun u15 => ?_)
      · refine bg_aload0 (pc := 21) X1 dX6_find_21 ?_
        refine bo_getR (pc := 22) X1 dX6_find_22 fX6_10 (by first | assumption | rfl) rfl (by first | assumption | rfl) ?_
        refine bg_iload1 (pc := 25) X1 dX6_find_25 ?_
        refine bo_V1r (pc := 26) X1 (c_X4_columnOf b1 u4) vX4_columnOf lX6_92 rfl (by first | assumption | rfl) (by decide) dX6_find_26 (by exact Nat.le_of_ble_eq_true rfl) ?_
        rintro _ _ ⟨h9, h8⟩
        obtain rfl := h9.symm
        obtain rfl := h8.symm
        clear h9 h8
        refine bg_iload2 (pc := 29) X1 dX6_find_29 ?_
        refine bg_iload3 (pc := 30) X1 dX6_find_30 ?_
        refine bo_V2i (pc := 31) X1 (c_X0_bedWithMark (s9 h.toNat (by omega)) (hX.1.2.2.1 h.toNat (by omega)).2 u15) vX0_bedWithMark lX6_201 rfl (s9 h.toNat (by omega)).1 (by decide) dX6_find_31 (by exact Nat.le_of_ble_eq_true rfl) ?_
        rintro _ _ ⟨h9, h8⟩
        obtain rfl := h9.symm
        obtain rfl := h8.symm
        clear h9 h8
        exact bo_iret (pc := 34) X rfl dX6_find_34 (fun hi => by unfold xFind; rw [if_pos (by omega)]; exact ⟨rfl, hX, frR.rf⟩)
      · refine bg_ldc (pc := 18) X1 dX6_find_18 kX6_58 (by decide) ?_
        exact bo_iret (pc := 20) X rfl dX6_find_20 (fun hi => by unfold xFind; rw [if_neg (by omega)]; exact ⟨rfl, hX, frR.rf⟩)
theorem c_X6_account {y : bg_Y} {g : bg_E} {w : Int} {Z : bm_X} (hX : clsR g Z) (ok : okX Z) : bg_Si y 6 mX6_account [.inr 0, .inl w] g (fun r g' => r = xAccount Z w ∧ clsR g' Z ∧ frR 0 198 g g') := by
  have b1 : bg_sta 1 := bg_stas 1 (by simp)
  refine bg_enter pnX6 (Nat.le_of_ble_eq_true rfl) (fun κ X hR hg => ?_)
  have X1 : bg_X κ y cX6_account RX6 6 0 0 := X.1
  have hg : ∀ a k, R32 (g a k) := hg
  show bg_g κ y 0 [some (.inr 0), some (.inl w)] [] g
  refine bg_iload1 (pc := 0) X1 dX6_account_0 ?_
  refine bg_if_lt (pc := 1) X1 (tgt := 9) dX6_account_1 (by decide) (fun u1 => ?_) (fun u1 => ?_)
  · refine bg_ldc (pc := 9) X1 dX6_account_9 kX6_58 (by decide) ?_
    exact bo_iret (pc := 11) X rfl dX6_account_11 (fun hi => by unfold xAccount; rw [if_neg (by omega)]; exact ⟨rfl, hX, frR.rf⟩)
  · refine bg_iload1 (pc := 4) X1 dX6_account_4 ?_
    refine bg_iconst (pc := 5) X1 dX6_account_5 (by decide) ?_
    refine bg_icmp_lt (pc := 6) X1 (tgt := 12) dX6_account_6 (by decide) (fun u6 => ?_) (fun u6 => ?_)
    · refine bg_iload1 (pc := 12) X1 dX6_account_12 ?_
      refine bg_if_ne (pc := 13) X1 (tgt := 26) dX6_account_13 (by decide) (fun u13 => ?_) (fun u13 => ?_)
      · refine bg_aload0 (pc := 26) X1 dX6_account_26 ?_
        refine bo_getR (pc := 27) X1 dX6_account_27 fX6_10 (by first | assumption | rfl) rfl (by first | assumption | rfl) ?_
        refine bg_iload1 (pc := 30) X1 dX6_account_30 ?_
        refine bo_V1i (pc := 31) X1 (c_X4_bookedIn b1 hX.1 (by omega)) vX4_bookedIn lX6_207 rfl (by first | assumption | rfl) (by decide) dX6_account_31 (by exact Nat.le_of_ble_eq_true rfl) ?_
        rintro _ _ ⟨h9, h8⟩
        obtain rfl := h9.symm
        obtain rfl := h8.symm
        clear h9 h8
        exact bo_iret (pc := 34) X rfl dX6_account_34 (fun hi => by unfold xAccount; rw [if_pos (by omega)]; first | (rw [if_pos u13]; exact ⟨rfl, hX, frR.rf⟩) | (rw [if_neg u13]; exact ⟨rfl, hX, frR.rf⟩))
      · refine bg_aload0 (pc := 16) X1 dX6_account_16 ?_
        refine bo_getR (pc := 17) X1 dX6_account_17 fX6_10 (by first | assumption | rfl) rfl (by first | assumption | rfl) ?_
        refine bo_V0i (pc := 20) X1 (c_X4_sumOfLengths b1 hX.1 ok.1) vX4_sumOfLengths lX6_204 rfl (by first | assumption | rfl) (by decide) dX6_account_20 (by exact Nat.le_of_ble_eq_true rfl) ?_
        rintro _ _ ⟨h9, h8⟩
        obtain rfl := h9.symm
        obtain rfl := h8.symm
        clear h9 h8
        refine bg_goto (pc := 23) X1 (tgt := 34) dX6_account_23 (by decide) ?_
        exact bo_iret (pc := 34) X rfl dX6_account_34 (fun hi => by unfold xAccount; rw [if_pos (by omega)]; first | (rw [if_pos u13]; exact ⟨rfl, hX, frR.rf⟩) | (rw [if_neg u13]; exact ⟨rfl, hX, frR.rf⟩))
    · refine bg_ldc (pc := 9) X1 dX6_account_9 kX6_58 (by decide) ?_
      exact bo_iret (pc := 11) X rfl dX6_account_11 (fun hi => by unfold xAccount; rw [if_neg (by omega)]; exact ⟨rfl, hX, frR.rf⟩)
theorem bm_1 : bg_mat 156 := bg_mats 156 (by simp)
theorem bm_2 : bg_mat 170 := bg_mats 170 (by simp)
theorem bm_3 : bg_mat 184 := bg_mats 184 (by simp)
theorem c_X6_cost {y : bg_Y} {g : bg_E} {a b w : Int} {Z : bm_X} (hX : clsR g Z) (ok : okX Z) : bg_Si y 6 mX6_cost [.inr 0, .inl a, .inl b, .inl w] g (fun r g' => r = xCost Z a b w ∧ clsR g' Z ∧ frR 0 198 g g') := by
  refine bg_enter pnX6 (Nat.le_of_ble_eq_true rfl) (fun κ X hR hg => ?_)
  have X1 : bg_X κ y cX6_cost RX6 6 0 0 := X.1
  have hg : ∀ a k, R32 (g a k) := hg
  show bg_g κ y 0 [some (.inr 0), some (.inl a), some (.inl b), some (.inl w)] [] g
  refine bg_iload1 (pc := 0) X1 dX6_cost_0 ?_
  refine bg_iload2 (pc := 1) X1 dX6_cost_1 ?_
  refine bo_S2i (pc := 2) X1 (c_X6_arePair) sX6_arePair lX6_210 rfl (by decide) dX6_cost_2 (by exact Nat.le_of_ble_eq_true rfl) ?_
  rintro _ _ ⟨h9, h8⟩
  obtain rfl := h9.symm
  obtain rfl := h8.symm
  clear h9 h8
  refine bo_ifeq_b (pc := 5) X1 (tgt := 17) dX6_cost_5 (by decide) (fun u5 => ?_) (fun u5 => ?_)
  · refine bg_ldc (pc := 17) X1 dX6_cost_17 kX6_58 (by decide) ?_
    exact bo_iret (pc := 19) X rfl dX6_cost_19 (fun hi => by unfold xCost; rw [if_neg (by omega)]; exact ⟨rfl, hX, frR.rf⟩)
  · refine bg_iload3 (pc := 8) X1 dX6_cost_8 ?_
    refine bg_if_eq (pc := 9) X1 (tgt := 20) dX6_cost_9 (by decide) (fun u9 => ?_) (fun u9 => ?_)
    · refine bg_aload0 (pc := 20) X1 dX6_cost_20 ?_
      refine bo_getR (pc := 21) X1 dX6_cost_21 fX6_48 (by first | assumption | rfl) rfl (by first | assumption | rfl) ?_
      refine bg_aload0 (pc := 24) X1 dX6_cost_24 ?_
      refine bo_getR (pc := 25) X1 dX6_cost_25 fX6_10 (by first | assumption | rfl) rfl (by first | assumption | rfl) ?_
      refine bg_iload1 (pc := 28) X1 dX6_cost_28 ?_
      refine bg_iload2 (pc := 29) X1 dX6_cost_29 ?_
      refine bg_iload3 (pc := 30) X1 dX6_cost_30 ?_
      refine bo_V4i (pc := 31) X1 (c_X2_leastCost bm_1 (by omega) hX.1 ok.1 u5.1 u5.2.1 hX.2.2.2.2.2.1) vX2_leastCost lX6_214 rfl (by first | assumption | rfl) (by decide) dX6_cost_31 (by exact Nat.le_of_ble_eq_true rfl) ?_
      rintro r31 g1 ⟨x1, x2, x3⟩
      exact bo_iret (pc := 34) X rfl dX6_cost_34 (fun hi => by unfold xCost; rw [if_pos (show arePa a b ∧ (w = 0 ∨ w = 1) from ⟨u5, by omega⟩)]; exact ⟨x1, hX.mat (q := 156) (Or.inl rfl) (x3.wide (by omega) (by omega)) x2, x3.wide (by omega) (by omega)⟩)
    · refine bg_iload3 (pc := 12) X1 dX6_cost_12 ?_
      refine bg_iconst (pc := 13) X1 dX6_cost_13 (by decide) ?_
      refine bg_icmp_eq (pc := 14) X1 (tgt := 20) dX6_cost_14 (by decide) (fun u14 => ?_) (fun u14 => ?_)
      · refine bg_aload0 (pc := 20) X1 dX6_cost_20 ?_
        refine bo_getR (pc := 21) X1 dX6_cost_21 fX6_48 (by first | assumption | rfl) rfl (by first | assumption | rfl) ?_
        refine bg_aload0 (pc := 24) X1 dX6_cost_24 ?_
        refine bo_getR (pc := 25) X1 dX6_cost_25 fX6_10 (by first | assumption | rfl) rfl (by first | assumption | rfl) ?_
        refine bg_iload1 (pc := 28) X1 dX6_cost_28 ?_
        refine bg_iload2 (pc := 29) X1 dX6_cost_29 ?_
        refine bg_iload3 (pc := 30) X1 dX6_cost_30 ?_
        refine bo_V4i (pc := 31) X1 (c_X2_leastCost bm_1 (by omega) hX.1 ok.1 u5.1 u5.2.1 hX.2.2.2.2.2.1) vX2_leastCost lX6_214 rfl (by first | assumption | rfl) (by decide) dX6_cost_31 (by exact Nat.le_of_ble_eq_true rfl) ?_
        rintro r31 g1 ⟨x1, x2, x3⟩
        exact bo_iret (pc := 34) X rfl dX6_cost_34 (fun hi => by unfold xCost; rw [if_pos (show arePa a b ∧ (w = 0 ∨ w = 1) from ⟨u5, by omega⟩)]; exact ⟨x1, hX.mat (q := 156) (Or.inl rfl) (x3.wide (by omega) (by omega)) x2, x3.wide (by omega) (by omega)⟩)
      · refine bg_ldc (pc := 17) X1 dX6_cost_17 kX6_58 (by decide) ?_
        exact bo_iret (pc := 19) X rfl dX6_cost_19 (fun hi => by unfold xCost; rw [if_neg (by omega)]; exact ⟨rfl, hX, frR.rf⟩)
theorem c_X6_isBedOfPair {y : bg_Y} {g : bg_E} {a b s k : Int} {Z : bm_X} (hX : clsR g Z) : bg_Si y 2 mX6_isBedOfPair [.inr 0, .inl a, .inl b, .inl s, .inl k] g (fun r g' => r = b2i (isOn Z a b s k) ∧ g' = g) := by
  have b1 : bg_sta 1 := bg_stas 1 (by simp)
  obtain ⟨s1, s2, s3, s4, s5, s6, s7, s8, s9⟩ := id b1
  refine bg_enter pnX6 (Nat.le_of_ble_eq_true rfl) (fun κ X hR hg => ?_)
  have X1 : bg_X κ y cX6_isBedOfPair RX6 2 0 0 := X.1
  have hg : ∀ a k, R32 (g a k) := hg
  show bg_g κ y 0 [some (.inr 0), some (.inl a), some (.inl b), some (.inl s), some (.inl k)] [] g
  have fin : ∀ h : Int, isHo h → arePa a b → (s = 0 ∨ s = 1) → h = (if s = 0 then a else b) → bg_g κ y 32 [some (.inr 0), some (.inl a), some (.inl b), some (.inl s), some (.inl k)] [.inl h, .inr 1] g := by
    intro h hh hp hs he
    have hq : colR g (1 + 3 + 3 * h.toNat) (qH Z h) := (hX.1.2.2.1 h.toNat (by omega)).2
    refine bo_V1r (pc := 32) X1 (c_X4_columnOf b1 hh) vX4_columnOf lX6_92 rfl (by first | assumption | rfl) (by decide) dX6_isBedOfPair_32 (by exact Nat.le_of_ble_eq_true rfl) ?_
    rintro _ _ ⟨h9, h8⟩
    obtain rfl := h9.symm
    obtain rfl := h8.symm
    clear h9 h8
    refine bg_iload4 (pc := 35) X1 dX6_isBedOfPair_35 ?_
    refine bo_V1i (pc := 37) X1 (c_X0_has (s9 h.toNat (by omega))) vX0_has lX6_118 rfl (s9 h.toNat (by omega)).1 (by decide) dX6_isBedOfPair_37 (by exact Nat.le_of_ble_eq_true rfl) ?_
    rintro _ _ ⟨h9, h8⟩
    obtain rfl := h9.symm
    obtain rfl := h8.symm
    clear h9 h8
    exact bo_zret (pc := 40) X rfl (by first | exact Or.inl rfl | exact Or.inr rfl | exact b2i_01 _) dX6_isBedOfPair_40 (by
        refine ⟨?_, rfl⟩
        have e1 : hasP g (1 + 3 + 3 * h.toNat) k ↔ isOn Z a b s k := by
          rw [has_I hq]
          unfold isOn
          rw [← he]
          exact ⟨fun h9 => ⟨hp, hs, h9⟩, fun h9 => h9.2.2⟩
        by_cases h9 : isOn Z a b s k
        · rw [b2i_t h9, b2i_t (e1.mpr h9)]
        · rw [b2i_f h9, b2i_f (fun h8 => h9 (e1.mp h8))])
  refine bg_iload1 (pc := 0) X1 dX6_isBedOfPair_0 ?_
  refine bg_iload2 (pc := 1) X1 dX6_isBedOfPair_1 ?_
  refine bo_S2i (pc := 2) X1 (c_X6_arePair) sX6_arePair lX6_210 rfl (by decide) dX6_isBedOfPair_2 (by exact Nat.le_of_ble_eq_true rfl) ?_
  rintro _ _ ⟨h9, h8⟩
  obtain rfl := h9.symm
  obtain rfl := h8.symm
  clear h9 h8
  refine bo_ifeq_b (pc := 5) X1 (tgt := 17) dX6_isBedOfPair_5 (by decide) (fun u5 => ?_) (fun u5 => ?_)
  · refine bg_iconst (pc := 17) X1 dX6_isBedOfPair_17 (by decide) ?_
    exact bo_zret (pc := 18) X rfl (by first | exact Or.inl rfl | exact Or.inr rfl | exact b2i_01 _) dX6_isBedOfPair_18 (⟨by first | exact (b2i_f (fun h9 => u5 h9.1)).symm | exact (b2i_f (fun h9 => by have := h9.2.1; omega)).symm, rfl⟩)
  · refine bg_iload3 (pc := 8) X1 dX6_isBedOfPair_8 ?_
    refine bg_if_eq (pc := 9) X1 (tgt := 19) dX6_isBedOfPair_9 (by decide) (fun u9 => ?_) (fun u9 => ?_)
    · refine bg_aload0 (pc := 19) X1 dX6_isBedOfPair_19 ?_
      refine bo_getR (pc := 20) X1 dX6_isBedOfPair_20 fX6_10 (by first | assumption | rfl) rfl (by first | assumption | rfl) ?_
      refine bg_iload3 (pc := 23) X1 dX6_isBedOfPair_23 ?_
      refine bg_if_ne (pc := 24) X1 (tgt := 31) dX6_isBedOfPair_24 (by decide) (fun u24 => ?_) (fun u24 => ?_)
      · refine bg_iload2 (pc := 31) X1 dX6_isBedOfPair_31 ?_
        first
        | exact fin _ u5.1 u5 (by omega) (by rw [if_pos (by omega)])
        | exact fin _ u5.2.1 u5 (by omega) (by rw [if_neg (by omega)])
      · refine bg_iload1 (pc := 27) X1 dX6_isBedOfPair_27 ?_
        refine bg_goto (pc := 28) X1 (tgt := 32) dX6_isBedOfPair_28 (by decide) ?_
        first
        | exact fin _ u5.1 u5 (by omega) (by rw [if_pos (by omega)])
        | exact fin _ u5.2.1 u5 (by omega) (by rw [if_neg (by omega)])
    · refine bg_iload3 (pc := 12) X1 dX6_isBedOfPair_12 ?_
      refine bg_iconst (pc := 13) X1 dX6_isBedOfPair_13 (by decide) ?_
      refine bg_icmp_eq (pc := 14) X1 (tgt := 19) dX6_isBedOfPair_14 (by decide) (fun u14 => ?_) (fun u14 => ?_)
      · refine bg_aload0 (pc := 19) X1 dX6_isBedOfPair_19 ?_
        refine bo_getR (pc := 20) X1 dX6_isBedOfPair_20 fX6_10 (by first | assumption | rfl) rfl (by first | assumption | rfl) ?_
        refine bg_iload3 (pc := 23) X1 dX6_isBedOfPair_23 ?_
        refine bg_if_ne (pc := 24) X1 (tgt := 31) dX6_isBedOfPair_24 (by decide) (fun u24 => ?_) (fun u24 => ?_)
        · refine bg_iload2 (pc := 31) X1 dX6_isBedOfPair_31 ?_
          first
          | exact fin _ u5.1 u5 (by omega) (by rw [if_pos (by omega)])
          | exact fin _ u5.2.1 u5 (by omega) (by rw [if_neg (by omega)])
        · refine bg_iload1 (pc := 27) X1 dX6_isBedOfPair_27 ?_
          refine bg_goto (pc := 28) X1 (tgt := 32) dX6_isBedOfPair_28 (by decide) ?_
          first
          | exact fin _ u5.1 u5 (by omega) (by rw [if_pos (by omega)])
          | exact fin _ u5.2.1 u5 (by omega) (by rw [if_neg (by omega)])
      · refine bg_iconst (pc := 17) X1 dX6_isBedOfPair_17 (by decide) ?_
        exact bo_zret (pc := 18) X rfl (by first | exact Or.inl rfl | exact Or.inr rfl | exact b2i_01 _) dX6_isBedOfPair_18 (⟨by first | exact (b2i_f (fun h9 => u5 h9.1)).symm | exact (b2i_f (fun h9 => by have := h9.2.1; omega)).symm, rfl⟩)
theorem on_go {Z : bm_X} {a b s k : Int} (ok : okX Z) (h : isOn Z a b s k) : 0 ≤ k ∧ k < 24 := by
  have h1 := h.1
  have h2 := ok.1.2.2.2.2.2.2.2
  have h3 := h.2.2
  by_cases e : s = 0
  · rw [if_pos e] at h3
    have : (qH Z a).length ≤ 24 := (h2 a.toNat (by omega)).2
    omega
  · rw [if_neg e] at h3
    have : (qH Z b).length ≤ 24 := (h2 b.toNat (by omega)).2
    omega
theorem c_X6_why {y : bg_Y} {g : bg_E} {a b s k : Int} {Z : bm_X} (hX : clsR g Z) (ok : okX Z) : bg_Si y 6 mX6_why [.inr 0, .inl a, .inl b, .inl s, .inl k] g (fun r g' => r = xWhy Z a b s k ∧ clsR g' Z ∧ frR 0 198 g g') := by
  refine bg_enter pnX6 (Nat.le_of_ble_eq_true rfl) (fun κ X hR hg => ?_)
  have X1 : bg_X κ y cX6_why RX6 6 0 0 := X.1
  have hg : ∀ a k, R32 (g a k) := hg
  show bg_g κ y 0 [some (.inr 0), some (.inl a), some (.inl b), some (.inl s), some (.inl k)] [] g
  refine bg_aload0 (pc := 0) X1 dX6_why_0 ?_
  refine bg_iload1 (pc := 1) X1 dX6_why_1 ?_
  refine bg_iload2 (pc := 2) X1 dX6_why_2 ?_
  refine bg_iload3 (pc := 3) X1 dX6_why_3 ?_
  refine bg_iload4 (pc := 4) X1 dX6_why_4 ?_
  refine bo_V4i (pc := 6) X1 (c_X6_isBedOfPair hX) vX6_isBedOfPair lX6_218 rfl (by first | assumption | rfl) (by decide) dX6_why_6 (by exact Nat.le_of_ble_eq_true rfl) ?_
  rintro _ _ ⟨h9, h8⟩
  obtain rfl := h9.symm
  obtain rfl := h8.symm
  clear h9 h8
  refine bo_ifne_b (pc := 9) X1 (tgt := 15) dX6_why_9 (by decide) (fun u9 => ?_) (fun u9 => ?_)
  · refine bg_aload0 (pc := 15) X1 dX6_why_15 ?_
    refine bo_getR (pc := 16) X1 dX6_why_16 fX6_48 (by first | assumption | rfl) rfl (by first | assumption | rfl) ?_
    refine bg_aload0 (pc := 19) X1 dX6_why_19 ?_
    refine bo_getR (pc := 20) X1 dX6_why_20 fX6_10 (by first | assumption | rfl) rfl (by first | assumption | rfl) ?_
    refine bg_iload1 (pc := 23) X1 dX6_why_23 ?_
    refine bg_iload2 (pc := 24) X1 dX6_why_24 ?_
    refine bo_V3v (pc := 25) X1 (c_X2_solve bm_1 (by omega) hX.1 ok.1 u9.1.1 u9.1.2.1 hX.2.2.2.2.2.1) vX2_solve lX6_222 rfl (by first | assumption | rfl) (by decide) dX6_why_25 (by exact Nat.le_of_ble_eq_true rfl) ?_
    rintro g1 ⟨x1, x2, x3⟩
    refine bg_aload0 (pc := 28) X1 dX6_why_28 ?_
    refine bo_getR (pc := 29) X1 dX6_why_29 fX6_48 (by first | assumption | rfl) rfl (by first | assumption | rfl) ?_
    refine bg_iload3 (pc := 32) X1 dX6_why_32 ?_
    refine bg_iload4 (pc := 33) X1 dX6_why_33 ?_
    refine bo_V2i (pc := 35) X1 (c_X2_fateOf bm_1 x1) vX2_fateOf lX6_226 rfl (by first | assumption | rfl) (by decide) dX6_why_35 (by exact Nat.le_of_ble_eq_true rfl) ?_
    rintro _ _ ⟨h9, h8⟩
    obtain rfl := h9.symm
    obtain rfl := h8.symm
    clear h9 h8
    exact bo_iret (pc := 38) X rfl dX6_why_38 (fun hi => by unfold xWhy; rw [if_pos u9, if_pos (on_go ok u9)]; exact ⟨rfl, hX.mat (q := 156) (Or.inl rfl) x3 x2, x3.wide (by omega) (by omega)⟩)
  · refine bg_ldc (pc := 12) X1 dX6_why_12 kX6_58 (by decide) ?_
    exact bo_iret (pc := 14) X rfl dX6_why_14 (fun hi => by unfold xWhy; rw [if_neg u9]; exact ⟨rfl, hX, frR.rf⟩)
theorem c_X6_partner {y : bg_Y} {g : bg_E} {a b s k : Int} {Z : bm_X} (hX : clsR g Z) (ok : okX Z) : bg_Si y 6 mX6_partner [.inr 0, .inl a, .inl b, .inl s, .inl k] g (fun r g' => r = xPartner Z a b s k ∧ clsR g' Z ∧ frR 0 198 g g') := by
  refine bg_enter pnX6 (Nat.le_of_ble_eq_true rfl) (fun κ X hR hg => ?_)
  have X1 : bg_X κ y cX6_partner RX6 6 0 0 := X.1
  have hg : ∀ a k, R32 (g a k) := hg
  show bg_g κ y 0 [some (.inr 0), some (.inl a), some (.inl b), some (.inl s), some (.inl k)] [] g
  refine bg_aload0 (pc := 0) X1 dX6_partner_0 ?_
  refine bg_iload1 (pc := 1) X1 dX6_partner_1 ?_
  refine bg_iload2 (pc := 2) X1 dX6_partner_2 ?_
  refine bg_iload3 (pc := 3) X1 dX6_partner_3 ?_
  refine bg_iload4 (pc := 4) X1 dX6_partner_4 ?_
  refine bo_V4i (pc := 6) X1 (c_X6_isBedOfPair hX) vX6_isBedOfPair lX6_218 rfl (by first | assumption | rfl) (by decide) dX6_partner_6 (by exact Nat.le_of_ble_eq_true rfl) ?_
  rintro _ _ ⟨h9, h8⟩
  obtain rfl := h9.symm
  obtain rfl := h8.symm
  clear h9 h8
  refine bo_ifne_b (pc := 9) X1 (tgt := 15) dX6_partner_9 (by decide) (fun u9 => ?_) (fun u9 => ?_)
  · refine bg_aload0 (pc := 15) X1 dX6_partner_15 ?_
    refine bo_getR (pc := 16) X1 dX6_partner_16 fX6_48 (by first | assumption | rfl) rfl (by first | assumption | rfl) ?_
    refine bg_aload0 (pc := 19) X1 dX6_partner_19 ?_
    refine bo_getR (pc := 20) X1 dX6_partner_20 fX6_10 (by first | assumption | rfl) rfl (by first | assumption | rfl) ?_
    refine bg_iload1 (pc := 23) X1 dX6_partner_23 ?_
    refine bg_iload2 (pc := 24) X1 dX6_partner_24 ?_
    refine bo_V3v (pc := 25) X1 (c_X2_solve bm_1 (by omega) hX.1 ok.1 u9.1.1 u9.1.2.1 hX.2.2.2.2.2.1) vX2_solve lX6_222 rfl (by first | assumption | rfl) (by decide) dX6_partner_25 (by exact Nat.le_of_ble_eq_true rfl) ?_
    rintro g1 ⟨x1, x2, x3⟩
    refine bg_aload0 (pc := 28) X1 dX6_partner_28 ?_
    refine bo_getR (pc := 29) X1 dX6_partner_29 fX6_48 (by first | assumption | rfl) rfl (by first | assumption | rfl) ?_
    refine bg_iload3 (pc := 32) X1 dX6_partner_32 ?_
    refine bg_iload4 (pc := 33) X1 dX6_partner_33 ?_
    refine bo_V2i (pc := 35) X1 (c_X2_partnerOf bm_1 x1) vX2_partnerOf lX6_229 rfl (by first | assumption | rfl) (by decide) dX6_partner_35 (by exact Nat.le_of_ble_eq_true rfl) ?_
    rintro _ _ ⟨h9, h8⟩
    obtain rfl := h9.symm
    obtain rfl := h8.symm
    clear h9 h8
    exact bo_iret (pc := 38) X rfl dX6_partner_38 (fun hi => by unfold xPartner; rw [if_pos u9, if_pos (on_go ok u9)]; exact ⟨rfl, hX.mat (q := 156) (Or.inl rfl) x3 x2, x3.wide (by omega) (by omega)⟩)
  · refine bg_ldc (pc := 12) X1 dX6_partner_12 kX6_58 (by decide) ?_
    exact bo_iret (pc := 14) X rfl dX6_partner_14 (fun hi => by unfold xPartner; rw [if_neg u9]; exact ⟨rfl, hX, frR.rf⟩)
theorem c_X6_matched {y : bg_Y} {g : bg_E} {a b w : Int} {Z : bm_X} (hX : clsR g Z) (ok : okX Z) : bg_Si y 6 mX6_matched [.inr 0, .inl a, .inl b, .inl w] g (fun r g' => r = xMatched Z a b w ∧ clsR g' Z ∧ frR 0 198 g g') := by
  refine bg_enter pnX6 (Nat.le_of_ble_eq_true rfl) (fun κ X hR hg => ?_)
  have X1 : bg_X κ y cX6_matched RX6 6 0 0 := X.1
  have hg : ∀ a k, R32 (g a k) := hg
  show bg_g κ y 0 [some (.inr 0), some (.inl a), some (.inl b), some (.inl w)] [] g
  refine bg_iload1 (pc := 0) X1 dX6_matched_0 ?_
  refine bg_iload2 (pc := 1) X1 dX6_matched_1 ?_
  refine bo_S2i (pc := 2) X1 (c_X6_arePair) sX6_arePair lX6_210 rfl (by decide) dX6_matched_2 (by exact Nat.le_of_ble_eq_true rfl) ?_
  rintro _ _ ⟨h9, h8⟩
  obtain rfl := h9.symm
  obtain rfl := h8.symm
  clear h9 h8
  refine bo_ifeq_b (pc := 5) X1 (tgt := 18) dX6_matched_5 (by decide) (fun u5 => ?_) (fun u5 => ?_)
  · refine bg_ldc (pc := 18) X1 dX6_matched_18 kX6_58 (by decide) ?_
    exact bo_iret (pc := 20) X rfl dX6_matched_20 (fun hi => by unfold xMatched; rw [if_neg (fun h9 => by obtain ⟨v1, v2, v3⟩ := h9; first | exact u5 v1 | omega)]; exact ⟨rfl, hX, frR.rf⟩)
  · have okP1 := mkP_ok ok.1 (a := a.toNat) (b := b.toNat) (by omega) (by omega)
    refine bg_iload3 (pc := 8) X1 dX6_matched_8 ?_
    refine bg_iconst (pc := 9) X1 dX6_matched_9 (by decide) ?_
    refine bg_icmp_lt (pc := 10) X1 (tgt := 18) dX6_matched_10 (by decide) (fun u10 => ?_) (fun u10 => ?_)
    · refine bg_ldc (pc := 18) X1 dX6_matched_18 kX6_58 (by decide) ?_
      exact bo_iret (pc := 20) X rfl dX6_matched_20 (fun hi => by unfold xMatched; rw [if_neg (fun h9 => by obtain ⟨v1, v2, v3⟩ := h9; first | exact u5 v1 | omega)]; exact ⟨rfl, hX, frR.rf⟩)
    · refine bg_iload3 (pc := 13) X1 dX6_matched_13 ?_
      refine bg_iconst (pc := 14) X1 dX6_matched_14 (by decide) ?_
      refine bg_icmp_le (pc := 15) X1 (tgt := 21) dX6_matched_15 (by decide) (fun u15 => ?_) (fun u15 => ?_)
      · refine bg_aload0 (pc := 21) X1 dX6_matched_21 ?_
        refine bo_getR (pc := 22) X1 dX6_matched_22 fX6_48 (by first | assumption | rfl) rfl (by first | assumption | rfl) ?_
        refine bg_aload0 (pc := 25) X1 dX6_matched_25 ?_
        refine bo_getR (pc := 26) X1 dX6_matched_26 fX6_10 (by first | assumption | rfl) rfl (by first | assumption | rfl) ?_
        refine bg_iload1 (pc := 29) X1 dX6_matched_29 ?_
        refine bg_iload2 (pc := 30) X1 dX6_matched_30 ?_
        refine bo_V3v (pc := 31) X1 (c_X2_solve bm_1 (by omega) hX.1 ok.1 u5.1 u5.2.1 hX.2.2.2.2.2.1) vX2_solve lX6_222 rfl (by first | assumption | rfl) (by decide) dX6_matched_31 (by exact Nat.le_of_ble_eq_true rfl) ?_
        rintro g1 ⟨x1, x2, x3⟩
        refine bg_iload3 (pc := 34) X1 dX6_matched_34 ?_
        refine bg_tsw4 (pc := 35) X1 (t0 := 64) (t1 := 64) (t2 := 74) (t3 := 74) (td := 84) dX6_matched_35 (by decide) (by decide) (by decide) (by decide) (by decide) (fun u35 => ?_) (fun u35 => ?_) (fun u35 => ?_) (fun u35 => ?_) (fun u35 => ?_) 
        · refine bg_aload0 (pc := 64) X1 dX6_matched_64 ?_
          refine bo_getR (pc := 65) X1 dX6_matched_65 fX6_48 (by first | assumption | rfl) rfl (by first | assumption | rfl) ?_
          refine bg_iconst (pc := 68) X1 dX6_matched_68 (by decide) ?_
          refine bg_iload3 (pc := 69) X1 dX6_matched_69 ?_
          refine bo_V2i (pc := 70) X1 (c_X2_countFates bm_1 x1) vX2_countFates lX6_232 rfl (by first | assumption | rfl) (by decide) dX6_matched_70 (by exact Nat.le_of_ble_eq_true rfl) ?_
          rintro _ _ ⟨h9, h8⟩
          obtain rfl := h9.symm
          obtain rfl := h8.symm
          clear h9 h8
          exact bo_iret (pc := 73) X rfl dX6_matched_73 (fun hi => by unfold xMatched; rw [if_pos (show arePa a b ∧ 1 ≤ w ∧ w ≤ 5 from ⟨u5, by omega, by omega⟩), if_neg (show ¬ w = 5 by omega), if_pos (show w = 1 ∨ w = 2 by omega)]; exact ⟨by rw [if_pos (rfl : (0 : Int) = 0)], hX.mat (q := 156) (Or.inl rfl) x3 x2, x3.wide (by omega) (by omega)⟩)
        · refine bg_aload0 (pc := 64) X1 dX6_matched_64 ?_
          refine bo_getR (pc := 65) X1 dX6_matched_65 fX6_48 (by first | assumption | rfl) rfl (by first | assumption | rfl) ?_
          refine bg_iconst (pc := 68) X1 dX6_matched_68 (by decide) ?_
          refine bg_iload3 (pc := 69) X1 dX6_matched_69 ?_
          refine bo_V2i (pc := 70) X1 (c_X2_countFates bm_1 x1) vX2_countFates lX6_232 rfl (by first | assumption | rfl) (by decide) dX6_matched_70 (by exact Nat.le_of_ble_eq_true rfl) ?_
          rintro _ _ ⟨h9, h8⟩
          obtain rfl := h9.symm
          obtain rfl := h8.symm
          clear h9 h8
          exact bo_iret (pc := 73) X rfl dX6_matched_73 (fun hi => by unfold xMatched; rw [if_pos (show arePa a b ∧ 1 ≤ w ∧ w ≤ 5 from ⟨u5, by omega, by omega⟩), if_neg (show ¬ w = 5 by omega), if_pos (show w = 1 ∨ w = 2 by omega)]; exact ⟨by rw [if_pos (rfl : (0 : Int) = 0)], hX.mat (q := 156) (Or.inl rfl) x3 x2, x3.wide (by omega) (by omega)⟩)
        · refine bg_aload0 (pc := 74) X1 dX6_matched_74 ?_
          refine bo_getR (pc := 75) X1 dX6_matched_75 fX6_48 (by first | assumption | rfl) rfl (by first | assumption | rfl) ?_
          refine bg_iconst (pc := 78) X1 dX6_matched_78 (by decide) ?_
          refine bg_iload3 (pc := 79) X1 dX6_matched_79 ?_
          refine bo_V2i (pc := 80) X1 (c_X2_countFates bm_1 x1) vX2_countFates lX6_232 rfl (by first | assumption | rfl) (by decide) dX6_matched_80 (by exact Nat.le_of_ble_eq_true rfl) ?_
          rintro _ _ ⟨h9, h8⟩
          obtain rfl := h9.symm
          obtain rfl := h8.symm
          clear h9 h8
          exact bo_iret (pc := 83) X rfl dX6_matched_83 (fun hi => by unfold xMatched; rw [if_pos (show arePa a b ∧ 1 ≤ w ∧ w ≤ 5 from ⟨u5, by omega, by omega⟩), if_neg (show ¬ w = 5 by omega), if_neg (show ¬ (w = 1 ∨ w = 2) by omega)]; exact ⟨by rw [if_neg (show ¬ (1 : Int) = 0 by decide)], hX.mat (q := 156) (Or.inl rfl) x3 x2, x3.wide (by omega) (by omega)⟩)
        · refine bg_aload0 (pc := 74) X1 dX6_matched_74 ?_
          refine bo_getR (pc := 75) X1 dX6_matched_75 fX6_48 (by first | assumption | rfl) rfl (by first | assumption | rfl) ?_
          refine bg_iconst (pc := 78) X1 dX6_matched_78 (by decide) ?_
          refine bg_iload3 (pc := 79) X1 dX6_matched_79 ?_
          refine bo_V2i (pc := 80) X1 (c_X2_countFates bm_1 x1) vX2_countFates lX6_232 rfl (by first | assumption | rfl) (by decide) dX6_matched_80 (by exact Nat.le_of_ble_eq_true rfl) ?_
          rintro _ _ ⟨h9, h8⟩
          obtain rfl := h9.symm
          obtain rfl := h8.symm
          clear h9 h8
          exact bo_iret (pc := 83) X rfl dX6_matched_83 (fun hi => by unfold xMatched; rw [if_pos (show arePa a b ∧ 1 ≤ w ∧ w ≤ 5 from ⟨u5, by omega, by omega⟩), if_neg (show ¬ w = 5 by omega), if_neg (show ¬ (w = 1 ∨ w = 2) by omega)]; exact ⟨by rw [if_neg (show ¬ (1 : Int) = 0 by decide)], hX.mat (q := 156) (Or.inl rfl) x3 x2, x3.wide (by omega) (by omega)⟩)
        · refine bg_aload0 (pc := 84) X1 dX6_matched_84 ?_
          refine bo_getR (pc := 85) X1 dX6_matched_85 fX6_48 (by first | assumption | rfl) rfl (by first | assumption | rfl) ?_
          refine bo_V0i (pc := 88) X1 (c_X2_faultCount bm_1 x1 okP1) vX2_faultCount lX6_235 rfl (by first | assumption | rfl) (by decide) dX6_matched_88 (by exact Nat.le_of_ble_eq_true rfl) ?_
          rintro _ _ ⟨h9, h8⟩
          obtain rfl := h9.symm
          obtain rfl := h8.symm
          clear h9 h8
          exact bo_iret (pc := 91) X rfl dX6_matched_91 (fun hi => by unfold xMatched; rw [if_pos (show arePa a b ∧ 1 ≤ w ∧ w ≤ 5 from ⟨u5, by omega, by omega⟩), if_pos (show w = 5 by omega)]; exact ⟨rfl, hX.mat (q := 156) (Or.inl rfl) x3 x2, x3.wide (by omega) (by omega)⟩)
      · refine bg_ldc (pc := 18) X1 dX6_matched_18 kX6_58 (by decide) ?_
        exact bo_iret (pc := 20) X rfl dX6_matched_20 (fun hi => by unfold xMatched; rw [if_neg (fun h9 => by obtain ⟨v1, v2, v3⟩ := h9; first | exact u5 v1 | omega)]; exact ⟨rfl, hX, frR.rf⟩)
/-- an entry of the list of faults -/
theorem fl_at {P : bm_P} {t : Int} {i : Nat} {e : bm_T} (h : ((TT P).filter (fF t))[i]? = some e) : ∃ k : Nat, k < 24 ∧ FT P t k ∧ e = ((k : Int), TH P k, RS P k) := by
  have h1 := List.mem_of_getElem? h
  obtain ⟨h2, h3⟩ := List.mem_filter.mp h1
  unfold TT TTn at h2
  obtain ⟨k, h4, h5⟩ := List.mem_map.mp h2
  obtain ⟨h6, h7⟩ := List.mem_filter.mp h4
  refine ⟨k, List.mem_range.mp h6, ⟨of_decide_eq_true h7, ?_⟩, h5.symm⟩
  rw [← h5] at h3
  exact of_decide_eq_true h3
abbrev oT (o : Option bm_T) (f : bm_T → Int) : Int := match o with
  | some e => f e
  | none => -1000009
theorem c_X6_fault {y : bg_Y} {g : bg_E} {a b i w : Int} {Z : bm_X} (hX : clsR g Z) (ok : okX Z) : bg_Si y 6 mX6_fault [.inr 0, .inl a, .inl b, .inl i, .inl w] g (fun r g' => r = xFault Z a b i w ∧ clsR g' Z ∧ frR 0 198 g g') := by
  refine bg_enter pnX6 (Nat.le_of_ble_eq_true rfl) (fun κ X hR hg => ?_)
  have X1 : bg_X κ y cX6_fault RX6 6 0 0 := X.1
  have hg : ∀ a k, R32 (g a k) := hg
  show bg_g κ y 0 [some (.inr 0), some (.inl a), some (.inl b), some (.inl i), some (.inl w), none] [] g
  refine bg_iload1 (pc := 0) X1 dX6_fault_0 ?_
  refine bg_iload2 (pc := 1) X1 dX6_fault_1 ?_
  refine bo_S2i (pc := 2) X1 (c_X6_arePair) sX6_arePair lX6_210 rfl (by decide) dX6_fault_2 (by exact Nat.le_of_ble_eq_true rfl) ?_
  rintro _ _ ⟨h9, h8⟩
  obtain rfl := h9.symm
  obtain rfl := h8.symm
  clear h9 h8
  refine bo_ifeq_b (pc := 5) X1 (tgt := 23) dX6_fault_5 (by decide) (fun u5 => ?_) (fun u5 => ?_)
  · refine bg_ldc (pc := 23) X1 dX6_fault_23 kX6_58 (by decide) ?_
    exact bo_iret (pc := 25) X rfl dX6_fault_25 (fun hi => by unfold xFault; rw [if_neg (show ¬ (arePa a b ∧ 0 ≤ i ∧ 0 ≤ w ∧ w ≤ 2) by omega)]; exact ⟨rfl, hX, frR.rf⟩)
  · have okP1 := mkP_ok ok.1 (a := a.toNat) (b := b.toNat) (by omega) (by omega)
    refine bg_iload3 (pc := 8) X1 dX6_fault_8 ?_
    refine bg_if_lt (pc := 9) X1 (tgt := 23) dX6_fault_9 (by decide) (fun u9 => ?_) (fun u9 => ?_)
    · refine bg_ldc (pc := 23) X1 dX6_fault_23 kX6_58 (by decide) ?_
      exact bo_iret (pc := 25) X rfl dX6_fault_25 (fun hi => by unfold xFault; rw [if_neg (show ¬ (arePa a b ∧ 0 ≤ i ∧ 0 ≤ w ∧ w ≤ 2) by omega)]; exact ⟨rfl, hX, frR.rf⟩)
    · refine bg_iload4 (pc := 12) X1 dX6_fault_12 ?_
      refine bg_if_lt (pc := 14) X1 (tgt := 23) dX6_fault_14 (by decide) (fun u14 => ?_) (fun u14 => ?_)
      · refine bg_ldc (pc := 23) X1 dX6_fault_23 kX6_58 (by decide) ?_
        exact bo_iret (pc := 25) X rfl dX6_fault_25 (fun hi => by unfold xFault; rw [if_neg (show ¬ (arePa a b ∧ 0 ≤ i ∧ 0 ≤ w ∧ w ≤ 2) by omega)]; exact ⟨rfl, hX, frR.rf⟩)
      · refine bg_iload4 (pc := 17) X1 dX6_fault_17 ?_
        refine bg_iconst (pc := 19) X1 dX6_fault_19 (by decide) ?_
        refine bg_icmp_le (pc := 20) X1 (tgt := 26) dX6_fault_20 (by decide) (fun u20 => ?_) (fun u20 => ?_)
        · refine bg_aload0 (pc := 26) X1 dX6_fault_26 ?_
          refine bo_getR (pc := 27) X1 dX6_fault_27 fX6_48 (by first | assumption | rfl) rfl (by first | assumption | rfl) ?_
          refine bg_aload0 (pc := 30) X1 dX6_fault_30 ?_
          refine bo_getR (pc := 31) X1 dX6_fault_31 fX6_10 (by first | assumption | rfl) rfl (by first | assumption | rfl) ?_
          refine bg_iload1 (pc := 34) X1 dX6_fault_34 ?_
          refine bg_iload2 (pc := 35) X1 dX6_fault_35 ?_
          refine bo_V3v (pc := 36) X1 (c_X2_solve bm_1 (by omega) hX.1 ok.1 u5.1 u5.2.1 hX.2.2.2.2.2.1) vX2_solve lX6_222 rfl (by first | assumption | rfl) (by decide) dX6_fault_36 (by exact Nat.le_of_ble_eq_true rfl) ?_
          rintro g1 ⟨x1, x2, x3⟩
          have hX1 := hX.mat (q := 156) (Or.inl rfl) x3 x2
          have F1 : frR 0 198 g g1 := x3.wide (by omega) (by omega)
          obtain ⟨o, ho⟩ : ∃ o, o = (fl Z a b)[i.toNat]? := ⟨_, rfl⟩
          have eX : xFault Z a b i w = oT o (fun e => if w = 0 then e.1 else if w = 1 then e.2.1 else e.2.2) := by unfold xFault; rw [if_pos (show arePa a b ∧ 0 ≤ i ∧ 0 ≤ w ∧ w ≤ 2 by omega), ho]; rfl
          refine bg_aload0 (pc := 39) X1 dX6_fault_39 ?_
          refine bo_getR (pc := 40) X1 dX6_fault_40 fX6_48 (by first | assumption | rfl) rfl (by first | assumption | rfl) ?_
          refine bg_iload3 (pc := 43) X1 dX6_fault_43 ?_
          refine bo_V1i (pc := 44) X1 (c_X2_bedAheadOfFault bm_1 x1 okP1 (by omega)) vX2_bedAheadOfFault lX6_238 rfl (by first | assumption | rfl) (by decide) dX6_fault_44 (by exact Nat.le_of_ble_eq_true rfl) ?_
          rintro _ _ ⟨h9, h8⟩
          obtain rfl := h9.symm
          obtain rfl := h8.symm
          clear h9 h8
          rw [show getT ((TT (mkP Z.1 a.toNat b.toNat)).filter (fF (Z.1.1 4))) i.toNat = oT o (fun e => e.1) by rw [ho]; rfl]
          refine bg_istore5 (pc := 47) X1 dX6_fault_47 ?_
          refine bg_iload5 (pc := 49) X1 dX6_fault_49 ?_
          refine bg_ldc (pc := 51) X1 dX6_fault_51 kX6_191 (by decide) ?_
          refine bg_icmp_ne (pc := 53) X1 (tgt := 59) dX6_fault_53 (by decide) (fun u53 => ?_) (fun u53 => ?_)
          · obtain ⟨e, e1⟩ : ∃ e, o = some e := by
              cases h : o with
              | none => rw [h] at u53; exact absurd rfl u53
              | some e => exact ⟨e, rfl⟩
            obtain ⟨k, k1, k2, k3⟩ := fl_at (e1 ▸ ho.symm)
            rw [e1, k3]
            have eX : xFault Z a b i w = (if w = 0 then (k : Int) else if w = 1 then TH (mP Z a b) k else RS (mP Z a b) k) := by rw [eX, e1, k3]
            refine bg_iload4 (pc := 59) X1 dX6_fault_59 ?_
            refine bg_lsw2 (pc := 61) X1 (t0 := 88) (t1 := 91) (td := 101) dX6_fault_61 (by decide) (by decide) (by decide) (fun u61 => ?_) (fun u61 => ?_) (fun u61 => ?_) 
            · refine bg_iload5 (pc := 88) X1 dX6_fault_88 ?_
              exact bo_iret (pc := 90) X rfl dX6_fault_90 (fun hi => ⟨by rw [eX, if_pos u61], hX1, F1⟩)
            · refine bg_aload0 (pc := 91) X1 dX6_fault_91 ?_
              refine bo_getR (pc := 92) X1 dX6_fault_92 fX6_48 (by first | assumption | rfl) rfl (by first | assumption | rfl) ?_
              refine bg_iload5 (pc := 95) X1 dX6_fault_95 ?_
              refine bo_V1i (pc := 97) X1 (c_X2_throwBelow bm_1 x1 okP1 k1) vX2_throwBelow lX6_241 rfl (by first | assumption | rfl) (by decide) dX6_fault_97 (by exact Nat.le_of_ble_eq_true rfl) ?_
              rintro _ _ ⟨h9, h8⟩
              obtain rfl := h9.symm
              obtain rfl := h8.symm
              clear h9 h8
              exact bo_iret (pc := 100) X rfl dX6_fault_100 (fun hi => ⟨by rw [eX, if_pos k2.1, if_neg (show ¬ w = 0 by omega), if_pos u61], hX1, F1⟩)
            · intro v61
              refine bg_aload0 (pc := 101) X1 dX6_fault_101 ?_
              refine bo_getR (pc := 102) X1 dX6_fault_102 fX6_48 (by first | assumption | rfl) rfl (by first | assumption | rfl) ?_
              refine bg_iload5 (pc := 105) X1 dX6_fault_105 ?_
              refine bo_V1i (pc := 107) X1 (c_X2_reasonBelow bm_1 x1 okP1 k1 k2.1) vX2_reasonBelow lX6_244 rfl (by first | assumption | rfl) (by decide) dX6_fault_107 (by exact Nat.le_of_ble_eq_true rfl) ?_
              rintro _ _ ⟨h9, h8⟩
              obtain rfl := h9.symm
              obtain rfl := h8.symm
              clear h9 h8
              exact bo_iret (pc := 110) X rfl dX6_fault_110 (fun hi => ⟨by rw [eX, if_neg u61, if_neg v61], hX1, F1⟩)
          · have e1 : o = none := by
              cases h : o with
              | none => rfl
              | some e =>
                rw [h] at u53 ho
                obtain ⟨k, k1, k2, k3⟩ := fl_at ho.symm
                rw [k3] at u53
                have u53 : (k : Int) = -1000009 := u53
                omega
            refine bg_ldc (pc := 56) X1 dX6_fault_56 kX6_191 (by decide) ?_
            exact bo_iret (pc := 58) X rfl dX6_fault_58 (fun hi => ⟨by rw [eX, e1], hX1, F1⟩)
        · refine bg_ldc (pc := 23) X1 dX6_fault_23 kX6_58 (by decide) ?_
          exact bo_iret (pc := 25) X rfl dX6_fault_25 (fun hi => by unfold xFault; rw [if_neg (show ¬ (arePa a b ∧ 0 ≤ i ∧ 0 ≤ w ∧ w ≤ 2) by omega)]; exact ⟨rfl, hX, frR.rf⟩)
theorem c_X6_sumOfThrows {y : bg_Y} {g : bg_E} {a b w : Int} {Z : bm_X} (hX : clsR g Z) (ok : okX Z) : bg_Si y 6 mX6_sumOfThrows [.inr 0, .inl a, .inl b, .inl w] g (fun r g' => r = xSum Z a b w ∧ clsR g' Z ∧ frR 0 198 g g') := by
  refine bg_enter pnX6 (Nat.le_of_ble_eq_true rfl) (fun κ X hR hg => ?_)
  have X1 : bg_X κ y cX6_sumOfThrows RX6 6 0 0 := X.1
  have hg : ∀ a k, R32 (g a k) := hg
  show bg_g κ y 0 [some (.inr 0), some (.inl a), some (.inl b), some (.inl w)] [] g
  refine bg_iload1 (pc := 0) X1 dX6_sumOfThrows_0 ?_
  refine bg_iload2 (pc := 1) X1 dX6_sumOfThrows_1 ?_
  refine bo_S2i (pc := 2) X1 (c_X6_arePair) sX6_arePair lX6_210 rfl (by decide) dX6_sumOfThrows_2 (by exact Nat.le_of_ble_eq_true rfl) ?_
  rintro _ _ ⟨h9, h8⟩
  obtain rfl := h9.symm
  obtain rfl := h8.symm
  clear h9 h8
  refine bo_ifeq_b (pc := 5) X1 (tgt := 17) dX6_sumOfThrows_5 (by decide) (fun u5 => ?_) (fun u5 => ?_)
  · refine bg_ldc (pc := 17) X1 dX6_sumOfThrows_17 kX6_58 (by decide) ?_
    exact bo_iret (pc := 19) X rfl dX6_sumOfThrows_19 (fun hi => by unfold xSum; rw [if_neg (show ¬ (arePa a b ∧ 0 ≤ w ∧ w ≤ 2) by omega)]; exact ⟨rfl, hX, frR.rf⟩)
  · have okP1 := mkP_ok ok.1 (a := a.toNat) (b := b.toNat) (by omega) (by omega)
    have n1 : nxt (FA (mP Z a b)) 24 0 = -1 ∨ 0 ≤ nxt (FA (mP Z a b)) 24 0 := by
      rcases nxt_or (FA (mP Z a b)) 24 0 with h | h
      · exact Or.inl h.1
      · exact Or.inr (by omega)
    refine bg_iload3 (pc := 8) X1 dX6_sumOfThrows_8 ?_
    refine bg_if_lt (pc := 9) X1 (tgt := 17) dX6_sumOfThrows_9 (by decide) (fun u9 => ?_) (fun u9 => ?_)
    · refine bg_ldc (pc := 17) X1 dX6_sumOfThrows_17 kX6_58 (by decide) ?_
      exact bo_iret (pc := 19) X rfl dX6_sumOfThrows_19 (fun hi => by unfold xSum; rw [if_neg (show ¬ (arePa a b ∧ 0 ≤ w ∧ w ≤ 2) by omega)]; exact ⟨rfl, hX, frR.rf⟩)
    · refine bg_iload3 (pc := 12) X1 dX6_sumOfThrows_12 ?_
      refine bg_iconst (pc := 13) X1 dX6_sumOfThrows_13 (by decide) ?_
      refine bg_icmp_le (pc := 14) X1 (tgt := 20) dX6_sumOfThrows_14 (by decide) (fun u14 => ?_) (fun u14 => ?_)
      · refine bg_aload0 (pc := 20) X1 dX6_sumOfThrows_20 ?_
        refine bo_getR (pc := 21) X1 dX6_sumOfThrows_21 fX6_48 (by first | assumption | rfl) rfl (by first | assumption | rfl) ?_
        refine bg_aload0 (pc := 24) X1 dX6_sumOfThrows_24 ?_
        refine bo_getR (pc := 25) X1 dX6_sumOfThrows_25 fX6_10 (by first | assumption | rfl) rfl (by first | assumption | rfl) ?_
        refine bg_iload1 (pc := 28) X1 dX6_sumOfThrows_28 ?_
        refine bg_iload2 (pc := 29) X1 dX6_sumOfThrows_29 ?_
        refine bo_V3v (pc := 30) X1 (c_X2_solve bm_1 (by omega) hX.1 ok.1 u5.1 u5.2.1 hX.2.2.2.2.2.1) vX2_solve lX6_222 rfl (by first | assumption | rfl) (by decide) dX6_sumOfThrows_30 (by exact Nat.le_of_ble_eq_true rfl) ?_
        rintro g1 ⟨x1, x2, x3⟩
        have hX1 := hX.mat (q := 156) (Or.inl rfl) x3 x2
        have F1 : frR 0 198 g g1 := x3.wide (by omega) (by omega)
        refine bg_aload0 (pc := 33) X1 dX6_sumOfThrows_33 ?_
        refine bo_getR (pc := 34) X1 dX6_sumOfThrows_34 fX6_48 (by first | assumption | rfl) rfl (by first | assumption | rfl) ?_
        refine bg_iconst (pc := 37) X1 dX6_sumOfThrows_37 (by decide) ?_
        refine bo_V1i (pc := 38) X1 (c_X2_nextMatch bm_1 x1 (by omega)) vX2_nextMatch lX6_247 rfl (by first | assumption | rfl) (by decide) dX6_sumOfThrows_38 (by exact Nat.le_of_ble_eq_true rfl) ?_
        rintro _ _ ⟨h9, h8⟩
        obtain rfl := h9.symm
        obtain rfl := h8.symm
        clear h9 h8
        rw [show (24 - (-1 + 1 : Int).toNat) = 24 from rfl, show (-1 + 1 : Int).toNat = 0 from rfl]
        refine bg_ldc (pc := 41) X1 dX6_sumOfThrows_41 kX6_191 (by decide) ?_
        refine bg_icmp_ne (pc := 43) X1 (tgt := 49) dX6_sumOfThrows_43 (by decide) (fun u43 => ?_) (fun u43 => ?_)
        · rw [nn_ne n1] at u43
          refine bg_iload3 (pc := 49) X1 dX6_sumOfThrows_49 ?_
          refine bg_lsw2 (pc := 50) X1 (t0 := 76) (t1 := 85) (td := 94) dX6_sumOfThrows_50 (by decide) (by decide) (by decide) (fun u50 => ?_) (fun u50 => ?_) (fun u50 => ?_) 
          · refine bg_aload0 (pc := 76) X1 dX6_sumOfThrows_76 ?_
            refine bo_getR (pc := 77) X1 dX6_sumOfThrows_77 fX6_48 (by first | assumption | rfl) rfl (by first | assumption | rfl) ?_
            refine bg_iconst (pc := 80) X1 dX6_sumOfThrows_80 (by decide) ?_
            refine bo_V1i (pc := 81) X1 (c_X2_totalThrow (b := false) bm_1 x1 okP1) vX2_totalThrow lX6_250 rfl (by first | assumption | rfl) (by decide) dX6_sumOfThrows_81 (by exact Nat.le_of_ble_eq_true rfl) ?_
            rintro _ _ ⟨h9, h8⟩
            obtain rfl := h9.symm
            obtain rfl := h8.symm
            clear h9 h8
            exact bo_iret (pc := 84) X rfl dX6_sumOfThrows_84 (fun hi => ⟨by unfold xSum; rw [if_pos (show arePa a b ∧ 0 ≤ w ∧ w ≤ 2 by omega), if_neg (show ¬ nxt (FA (mP Z a b)) 24 0 < 0 by omega), if_neg (show ¬ w = 1 by omega)]; rfl, hX1, F1⟩)
          · refine bg_aload0 (pc := 85) X1 dX6_sumOfThrows_85 ?_
            refine bo_getR (pc := 86) X1 dX6_sumOfThrows_86 fX6_48 (by first | assumption | rfl) rfl (by first | assumption | rfl) ?_
            refine bg_iconst (pc := 89) X1 dX6_sumOfThrows_89 (by decide) ?_
            refine bo_V1i (pc := 90) X1 (c_X2_totalThrow (b := true) bm_1 x1 okP1) vX2_totalThrow lX6_250 rfl (by first | assumption | rfl) (by decide) dX6_sumOfThrows_90 (by exact Nat.le_of_ble_eq_true rfl) ?_
            rintro _ _ ⟨h9, h8⟩
            obtain rfl := h9.symm
            obtain rfl := h8.symm
            clear h9 h8
            exact bo_iret (pc := 93) X rfl dX6_sumOfThrows_93 (fun hi => ⟨by unfold xSum; rw [if_pos (show arePa a b ∧ 0 ≤ w ∧ w ≤ 2 by omega), if_neg (show ¬ nxt (FA (mP Z a b)) 24 0 < 0 by omega), if_pos (show w = 1 by omega)]; rfl, hX1, F1⟩)
          · intro v50
            refine bg_aload0 (pc := 94) X1 dX6_sumOfThrows_94 ?_
            refine bo_getR (pc := 95) X1 dX6_sumOfThrows_95 fX6_48 (by first | assumption | rfl) rfl (by first | assumption | rfl) ?_
            refine bo_V0i (pc := 98) X1 (c_X2_changeOfElevations bm_1 x1 okP1 (n1.resolve_left u43)) vX2_changeOfElevations lX6_254 rfl (by first | assumption | rfl) (by decide) dX6_sumOfThrows_98 (by exact Nat.le_of_ble_eq_true rfl) ?_
            rintro _ _ ⟨h9, h8⟩
            obtain rfl := h9.symm
            obtain rfl := h8.symm
            clear h9 h8
            exact bo_iret (pc := 101) X rfl dX6_sumOfThrows_101 (fun hi => ⟨by unfold xSum; rw [if_pos (show arePa a b ∧ 0 ≤ w ∧ w ≤ 2 by omega), if_neg (show ¬ nxt (FA (mP Z a b)) 24 0 < 0 by omega), if_neg (show ¬ w = 1 by omega)], hX1, F1⟩)
        · rw [nn_ne n1] at u43
          refine bg_ldc (pc := 46) X1 dX6_sumOfThrows_46 kX6_191 (by decide) ?_
          exact bo_iret (pc := 48) X rfl dX6_sumOfThrows_48 (fun hi => ⟨by unfold xSum; rw [if_pos (show arePa a b ∧ 0 ≤ w ∧ w ≤ 2 by omega), if_pos (show nxt (FA (mP Z a b)) 24 0 < 0 by omega)]; rfl, hX1, F1⟩)
      · refine bg_ldc (pc := 17) X1 dX6_sumOfThrows_17 kX6_58 (by decide) ?_
        exact bo_iret (pc := 19) X rfl dX6_sumOfThrows_19 (fun hi => by unfold xSum; rw [if_neg (show ¬ (arePa a b ∧ 0 ≤ w ∧ w ≤ 2) by omega)]; exact ⟨rfl, hX, frR.rf⟩)
theorem nea_R {Z : bm_X} (ok : okX Z) {h : Int} (hh : isHo h) : ∀ n, n ≤ 4 → 0 ≤ (nea Z h n).2 ∧ (nea Z h n).2 ≤ 1000000
  | 0, _ => ⟨show (0 : Int) ≤ 1000000 by decide, show (1000000 : Int) ≤ 1000000 by decide⟩
  | n + 1, hn => by
    have := nea_R ok hh n (by omega)
    rw [nea]
    split
    · have h1 := mkP_ok ok.1 (a := h.toNat) (b := n) (by omega) (by omega)
      have := bw_B h1 (Nat.zero_le _) (Nat.zero_le _)
      show 0 ≤ bw (mkP Z.1 h.toNat (n : Int).toNat) 0 0 ∧ bw (mkP Z.1 h.toNat (n : Int).toNat) 0 0 ≤ 1000000
      rw [Int.toNat_natCast]
      omega
    · exact this
