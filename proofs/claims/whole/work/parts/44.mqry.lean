/-! the model's calls that only look -/
theorem c_X7_count {y : bg_Y} {g : bg_E} {w : Int} {Z : bm_X} (hM : modR g Z) (ok : okX Z) : bg_Si y 6 mX7_count [.inr 198, .inl w] g (fun r g' => r = xCount Z w ∧ modR g' Z ∧ frR 198 214 g g') := by
  obtain ⟨m1, m2, m3, m4⟩ := id hM
  refine bg_enter pnX7 (Nat.le_of_ble_eq_true rfl) (fun κ X hR hg => ?_)
  have X1 : bg_X κ y cX7_count RX7 6 0 0 := X.1
  have hg : ∀ a k, R32 (g a k) := hg
  show bg_g κ y 0 [some (.inr 198), some (.inl w)] [] g
  refine bg_iload1 (pc := 0) X1 dX7_count_0 ?_
  refine bg_tsw5 (pc := 1) X1 (t0 := 36) (t1 := 41) (t2 := 46) (t3 := 51) (t4 := 56) (td := 61) dX7_count_1 (by decide) (by decide) (by decide) (by decide) (by decide) (by decide) (fun u1 => ?_) (fun u1 => ?_) (fun u1 => ?_) (fun u1 => ?_) (fun u1 => ?_) (fun u1 => ?_) 
  · refine bg_aload0 (pc := 36) X1 dX7_count_36 ?_
    refine bo_V0i (pc := 37) X1 (c_X7_keyMany m1 ok.1) vX7_keyMany lX7_145 rfl (by first | assumption | rfl) (by decide) dX7_count_37 (by exact Nat.le_of_ble_eq_true rfl) ?_
    rintro _ _ ⟨h9, h8⟩
    obtain rfl := h9.symm
    obtain rfl := h8.symm
    clear h9 h8
    exact bo_iret (pc := 40) X rfl dX7_count_40 (fun hi => by unfold xCount; rw [if_neg (show ¬ (0 ≤ w ∧ w < 5) by omega), if_pos (show w = 5 by omega)]; exact ⟨rfl, hM, frR.rf⟩)
  · refine bg_aload0 (pc := 41) X1 dX7_count_41 ?_
    refine bo_V0i (pc := 42) X1 (c_X7_allBeds m1 ok.1) vX7_allBeds lX7_141 rfl (by first | assumption | rfl) (by decide) dX7_count_42 (by exact Nat.le_of_ble_eq_true rfl) ?_
    rintro _ _ ⟨h9, h8⟩
    obtain rfl := h9.symm
    obtain rfl := h8.symm
    clear h9 h8
    exact bo_iret (pc := 45) X rfl dX7_count_45 (fun hi => by unfold xCount; rw [if_neg (show ¬ (0 ≤ w ∧ w < 5) by omega), if_neg (show ¬ w = 5 by omega), if_pos (show w = 6 by omega)]; exact ⟨rfl, hM, frR.rf⟩)
  · refine bg_aload0 (pc := 46) X1 dX7_count_46 ?_
    refine bo_getI (pc := 47) X1 dX7_count_47 fX7_117 (by first | assumption | rfl) rfl ?_
    exact bo_iret (pc := 50) X rfl dX7_count_50 (fun hi => by unfold xCount; rw [if_neg (show ¬ (0 ≤ w ∧ w < 5) by omega), if_neg (show ¬ w = 5 by omega), if_neg (show ¬ w = 6 by omega), if_pos (show w = 7 by omega)]; exact ⟨m4.1, hM, frR.rf⟩)
  · refine bg_aload0 (pc := 51) X1 dX7_count_51 ?_
    refine bo_getI (pc := 52) X1 dX7_count_52 fX7_55 (by first | assumption | rfl) rfl ?_
    exact bo_iret (pc := 55) X rfl dX7_count_55 (fun hi => by unfold xCount; rw [if_neg (show ¬ (0 ≤ w ∧ w < 5) by omega), if_neg (show ¬ w = 5 by omega), if_neg (show ¬ w = 6 by omega), if_neg (show ¬ w = 7 by omega), if_pos (show w = 8 by omega)]; exact ⟨m2.1, hM, frR.rf⟩)
  · refine bg_aload0 (pc := 56) X1 dX7_count_56 ?_
    refine bo_getI (pc := 57) X1 dX7_count_57 fX7_138 (by first | assumption | rfl) rfl ?_
    exact bo_iret (pc := 60) X rfl dX7_count_60 (fun hi => by unfold xCount; rw [if_neg (show ¬ (0 ≤ w ∧ w < 5) by omega), if_neg (show ¬ w = 5 by omega), if_neg (show ¬ w = 6 by omega), if_neg (show ¬ w = 7 by omega), if_neg (show ¬ w = 8 by omega), if_pos (show w = 9 by omega)]; exact ⟨m3.1, hM, frR.rf⟩)
  · refine bg_iload1 (pc := 61) X1 dX7_count_61 ?_
    refine bg_iconst (pc := 62) X1 dX7_count_62 (by decide) ?_
    refine bg_iconst (pc := 63) X1 dX7_count_63 (by decide) ?_
    refine bo_S3i (pc := 64) X1 (c_X7_in) sX7_in lX7_59 rfl (by decide) dX7_count_64 (by exact Nat.le_of_ble_eq_true rfl) ?_
    rintro _ _ ⟨h9, h8⟩
    obtain rfl := h9.symm
    obtain rfl := h8.symm
    clear h9 h8
    refine bo_ifeq_b (pc := 67) X1 (tgt := 79) dX7_count_67 (by decide) (fun u67 => ?_) (fun u67 => ?_)
    · refine bg_ldc (pc := 79) X1 dX7_count_79 kX7_87 (by decide) ?_
      exact bo_iret (pc := 81) X rfl dX7_count_81 (fun hi => by
          unfold xCount
          first
          | (rw [if_pos (show 0 ≤ w ∧ w < 5 by omega)]; exact ⟨m1.1 _ (by omega), hM, frR.rf⟩)
          | (rw [if_neg (show ¬ (0 ≤ w ∧ w < 5) by omega), if_neg (show ¬ w = 5 by omega), if_neg (show ¬ w = 6 by omega), if_neg (show ¬ w = 7 by omega), if_neg (show ¬ w = 8 by omega), if_neg (show ¬ w = 9 by omega)]; exact ⟨rfl, hM, frR.rf⟩))
    · refine bg_aload0 (pc := 70) X1 dX7_count_70 ?_
      refine bo_getR (pc := 71) X1 dX7_count_71 fX7_7 (by first | assumption | rfl) rfl (by first | assumption | rfl) ?_
      refine bg_iload1 (pc := 74) X1 dX7_count_74 ?_
      refine bo_iaload (pc := 75) X1 dX7_count_75 (by first | assumption | rfl) (by omega) ?_
      refine bg_goto (pc := 76) X1 (tgt := 81) dX7_count_76 (by decide) ?_
      exact bo_iret (pc := 81) X rfl dX7_count_81 (fun hi => by
          unfold xCount
          first
          | (rw [if_pos (show 0 ≤ w ∧ w < 5 by omega)]; exact ⟨m1.1 _ (by omega), hM, frR.rf⟩)
          | (rw [if_neg (show ¬ (0 ≤ w ∧ w < 5) by omega), if_neg (show ¬ w = 5 by omega), if_neg (show ¬ w = 6 by omega), if_neg (show ¬ w = 7 by omega), if_neg (show ¬ w = 8 by omega), if_neg (show ¬ w = 9 by omega)]; exact ⟨rfl, hM, frR.rf⟩))
theorem c_X7_hole {y : bg_Y} {g : bg_E} {h w : Int} {Z : bm_X} (hM : modR g Z) (ok : okX Z) : bg_Si y 6 mX7_hole [.inr 198, .inl h, .inl w] g (fun r g' => r = xHole Z h w ∧ modR g' Z ∧ frR 198 214 g g') := by
  refine bg_enter pnX7 (Nat.le_of_ble_eq_true rfl) (fun κ X hR hg => ?_)
  have X1 : bg_X κ y cX7_hole RX7 6 0 0 := X.1
  have hg : ∀ a k, R32 (g a k) := hg
  show bg_g κ y 0 [some (.inr 198), some (.inl h), some (.inl w)] [] g
  refine bg_iload1 (pc := 0) X1 dX7_hole_0 ?_
  refine bo_S1i (pc := 1) X1 (c_X7_isHole) sX7_isHole lX7_63 rfl (by decide) dX7_hole_1 (by exact Nat.le_of_ble_eq_true rfl) ?_
  rintro _ _ ⟨h9, h8⟩
  obtain rfl := h9.symm
  obtain rfl := h8.symm
  clear h9 h8
  refine bo_ifeq_b (pc := 4) X1 (tgt := 16) dX7_hole_4 (by decide) (fun u4 => ?_) (fun u4 => ?_)
  · refine bg_ldc (pc := 16) X1 dX7_hole_16 kX7_87 (by decide) ?_
    exact bo_iret (pc := 18) X rfl dX7_hole_18 (fun hi => by
        unfold xHole
        first
        | (rw [if_neg u4]; exact ⟨rfl, hM, frR.rf⟩)
        | (rw [if_pos u4, if_neg (by omega), if_neg (by omega), if_neg (by omega)]; exact ⟨rfl, hM, frR.rf⟩))
  · refine bg_iload2 (pc := 7) X1 dX7_hole_7 ?_
    refine bg_iconst (pc := 8) X1 dX7_hole_8 (by decide) ?_
    refine bg_iconst (pc := 9) X1 dX7_hole_9 (by decide) ?_
    refine bo_S3i (pc := 10) X1 (c_X7_in) sX7_in lX7_59 rfl (by decide) dX7_hole_10 (by exact Nat.le_of_ble_eq_true rfl) ?_
    rintro _ _ ⟨h9, h8⟩
    obtain rfl := h9.symm
    obtain rfl := h8.symm
    clear h9 h8
    refine bo_ifne_b (pc := 13) X1 (tgt := 19) dX7_hole_13 (by decide) (fun u13 => ?_) (fun u13 => ?_)
    · refine bg_iload2 (pc := 19) X1 dX7_hole_19 ?_
      refine bg_if_ne (pc := 20) X1 (tgt := 35) dX7_hole_20 (by decide) (fun u20 => ?_) (fun u20 => ?_)
      · refine bg_iload2 (pc := 35) X1 dX7_hole_35 ?_
        refine bg_iconst (pc := 36) X1 dX7_hole_36 (by decide) ?_
        refine bg_icmp_ne (pc := 37) X1 (tgt := 52) dX7_hole_37 (by decide) (fun u37 => ?_) (fun u37 => ?_)
        · refine bg_aload0 (pc := 52) X1 dX7_hole_52 ?_
          refine bg_iload1 (pc := 53) X1 dX7_hole_53 ?_
          refine bo_V1i (pc := 54) X1 (c_X7_length hM.1 ok.1 u4) vX7_length lX7_110 rfl (by first | assumption | rfl) (by decide) dX7_hole_54 (by exact Nat.le_of_ble_eq_true rfl) ?_
          rintro _ _ ⟨h9, h8⟩
          obtain rfl := h9.symm
          obtain rfl := h8.symm
          clear h9 h8
          exact bo_iret (pc := 57) X rfl dX7_hole_57 (fun hi => by
              unfold xHole
              rw [if_pos u4]
              first
              | (rw [if_pos u20]; exact ⟨row_col hM.1 u4, hM, frR.rf⟩)
              | (rw [if_neg u20, if_pos u37]; exact ⟨row_len hM.1 u4, hM, frR.rf⟩)
              | (rw [if_neg u20, if_neg u37, if_pos (by omega)]; exact ⟨rfl, hM, frR.rf⟩))
        · refine bg_aload0 (pc := 40) X1 dX7_hole_40 ?_
          refine bo_getR (pc := 41) X1 dX7_hole_41 fX7_7 (by first | assumption | rfl) rfl (by first | assumption | rfl) ?_
          refine bg_bipush (pc := 44) X1 dX7_hole_44 rfl (by decide) ?_
          refine bg_iload1 (pc := 46) X1 dX7_hole_46 ?_
          refine bg_iadd (pc := 47) X1 dX7_hole_47 (by omega) ?_
          refine bo_iaload (pc := 48) X1 dX7_hole_48 (by first | assumption | rfl) (by omega) ?_
          refine bg_goto (pc := 49) X1 (tgt := 57) dX7_hole_49 (by decide) ?_
          exact bo_iret (pc := 57) X rfl dX7_hole_57 (fun hi => by
              unfold xHole
              rw [if_pos u4]
              first
              | (rw [if_pos u20]; exact ⟨row_col hM.1 u4, hM, frR.rf⟩)
              | (rw [if_neg u20, if_pos u37]; exact ⟨row_len hM.1 u4, hM, frR.rf⟩)
              | (rw [if_neg u20, if_neg u37, if_pos (by omega)]; exact ⟨rfl, hM, frR.rf⟩))
      · refine bg_aload0 (pc := 23) X1 dX7_hole_23 ?_
        refine bo_getR (pc := 24) X1 dX7_hole_24 fX7_7 (by first | assumption | rfl) rfl (by first | assumption | rfl) ?_
        refine bg_bipush (pc := 27) X1 dX7_hole_27 rfl (by decide) ?_
        refine bg_iload1 (pc := 29) X1 dX7_hole_29 ?_
        refine bg_iadd (pc := 30) X1 dX7_hole_30 (by omega) ?_
        refine bo_iaload (pc := 31) X1 dX7_hole_31 (by first | assumption | rfl) (by omega) ?_
        refine bg_goto (pc := 32) X1 (tgt := 57) dX7_hole_32 (by decide) ?_
        exact bo_iret (pc := 57) X rfl dX7_hole_57 (fun hi => by
            unfold xHole
            rw [if_pos u4]
            first
            | (rw [if_pos u20]; exact ⟨row_col hM.1 u4, hM, frR.rf⟩)
            | (rw [if_neg u20, if_pos u37]; exact ⟨row_len hM.1 u4, hM, frR.rf⟩)
            | (rw [if_neg u20, if_neg u37, if_pos (by omega)]; exact ⟨rfl, hM, frR.rf⟩))
    · refine bg_ldc (pc := 16) X1 dX7_hole_16 kX7_87 (by decide) ?_
      exact bo_iret (pc := 18) X rfl dX7_hole_18 (fun hi => by
          unfold xHole
          first
          | (rw [if_neg u4]; exact ⟨rfl, hM, frR.rf⟩)
          | (rw [if_pos u4, if_neg (by omega), if_neg (by omega), if_neg (by omega)]; exact ⟨rfl, hM, frR.rf⟩))
theorem c_X7_bed {y : bg_Y} {g : bg_E} {h b w : Int} {Z : bm_X} (hM : modR g Z) (ok : okX Z) : bg_Si y 6 mX7_bed [.inr 198, .inl h, .inl b, .inl w] g (fun r g' => r = xBed Z h b w ∧ modR g' Z ∧ frR 198 214 g g') := by
  have eq9 : (qH Z h).length = (sq Z.1 h).length := rfl
  refine bg_enter pnX7 (Nat.le_of_ble_eq_true rfl) (fun κ X hR hg => ?_)
  have X1 : bg_X κ y cX7_bed RX7 6 0 0 := X.1
  have hg : ∀ a k, R32 (g a k) := hg
  show bg_g κ y 0 [some (.inr 198), some (.inl h), some (.inl b), some (.inl w)] [] g
  refine bg_iload1 (pc := 0) X1 dX7_bed_0 ?_
  refine bo_S1i (pc := 1) X1 (c_X7_isHole) sX7_isHole lX7_63 rfl (by decide) dX7_bed_1 (by exact Nat.le_of_ble_eq_true rfl) ?_
  rintro _ _ ⟨h9, h8⟩
  obtain rfl := h9.symm
  obtain rfl := h8.symm
  clear h9 h8
  refine bo_ifeq_b (pc := 4) X1 (tgt := 20) dX7_bed_4 (by decide) (fun u4 => ?_) (fun u4 => ?_)
  · refine bg_ldc (pc := 20) X1 dX7_bed_20 kX7_87 (by decide) ?_
    exact bo_iret (pc := 22) X rfl dX7_bed_22 (fun hi => by unfold xBed; rw [if_neg (by omega)]; exact ⟨rfl, hM, frR.rf⟩)
  · have hl := sq_OK ok.1 u4
    have hl2 := hl.2
    have hco := ok.1.2.2.2.2.2.2.1 h.toNat (by omega)
    refine bg_iload2 (pc := 7) X1 dX7_bed_7 ?_
    refine bg_if_lt (pc := 8) X1 (tgt := 20) dX7_bed_8 (by decide) (fun u8 => ?_) (fun u8 => ?_)
    · refine bg_ldc (pc := 20) X1 dX7_bed_20 kX7_87 (by decide) ?_
      exact bo_iret (pc := 22) X rfl dX7_bed_22 (fun hi => by unfold xBed; rw [if_neg (by omega)]; exact ⟨rfl, hM, frR.rf⟩)
    · refine bg_iload3 (pc := 11) X1 dX7_bed_11 ?_
      refine bg_iconst (pc := 12) X1 dX7_bed_12 (by decide) ?_
      refine bg_iconst (pc := 13) X1 dX7_bed_13 (by decide) ?_
      refine bo_S3i (pc := 14) X1 (c_X7_in) sX7_in lX7_59 rfl (by decide) dX7_bed_14 (by exact Nat.le_of_ble_eq_true rfl) ?_
      rintro _ _ ⟨h9, h8⟩
      obtain rfl := h9.symm
      obtain rfl := h8.symm
      clear h9 h8
      refine bo_ifne_b (pc := 17) X1 (tgt := 23) dX7_bed_17 (by decide) (fun u17 => ?_) (fun u17 => ?_)
      · refine bg_iload2 (pc := 23) X1 dX7_bed_23 ?_
        refine bg_aload0 (pc := 24) X1 dX7_bed_24 ?_
        refine bo_getR (pc := 25) X1 dX7_bed_25 fX7_7 (by first | assumption | rfl) rfl (by first | assumption | rfl) ?_
        refine bg_bipush (pc := 28) X1 dX7_bed_28 rfl (by decide) ?_
        refine bg_iload1 (pc := 30) X1 dX7_bed_30 ?_
        refine bg_iadd (pc := 31) X1 dX7_bed_31 (by omega) ?_
        refine bo_iaload (pc := 32) X1 dX7_bed_32 (by first | assumption | rfl) (by omega) ?_
        rw [row_len hM.1 u4]
        refine bg_icmp_lt (pc := 33) X1 (tgt := 39) dX7_bed_33 (by decide) (fun u33 => ?_) (fun u33 => ?_)
        · have hb : 0 ≤ b ∧ b < ((sq Z.1 h).length : Int) := ⟨by omega, by omega⟩
          have hd := sq_dep ok.1 u4 (n := b.toNat) (by omega)
          refine bg_iload3 (pc := 39) X1 dX7_bed_39 ?_
          refine bg_iconst (pc := 40) X1 dX7_bed_40 (by decide) ?_
          refine bg_icmp_ge (pc := 41) X1 (tgt := 59) dX7_bed_41 (by decide) (fun u41 => ?_) (fun u41 => ?_)
          · refine bg_iload3 (pc := 59) X1 dX7_bed_59 ?_
            refine bg_iconst (pc := 60) X1 dX7_bed_60 (by decide) ?_
            refine bg_icmp_ne (pc := 61) X1 (tgt := 73) dX7_bed_61 (by decide) (fun u61 => ?_) (fun u61 => ?_)
            · refine bg_aload0 (pc := 73) X1 dX7_bed_73 ?_
              refine bo_getR (pc := 74) X1 dX7_bed_74 fX7_7 (by first | assumption | rfl) rfl (by first | assumption | rfl) ?_
              refine bg_bipush (pc := 77) X1 dX7_bed_77 rfl (by decide) ?_
              refine bg_iload1 (pc := 79) X1 dX7_bed_79 ?_
              refine bg_iadd (pc := 80) X1 dX7_bed_80 (by omega) ?_
              refine bo_iaload (pc := 81) X1 dX7_bed_81 (by first | assumption | rfl) (by omega) ?_
              rw [row_col hM.1 u4]
              refine bg_aload0 (pc := 82) X1 dX7_bed_82 ?_
              refine bg_iload1 (pc := 83) X1 dX7_bed_83 ?_
              refine bg_iload2 (pc := 84) X1 dX7_bed_84 ?_
              refine bo_V2i (pc := 85) X1 (c_X7_depth hM.1 ok.1 u4 (by omega)) vX7_depth lX7_74 rfl (by first | assumption | rfl) (by decide) dX7_bed_85 (by exact Nat.le_of_ble_eq_true rfl) ?_
              rintro _ _ ⟨h9, h8⟩
              obtain rfl := h9.symm
              obtain rfl := h8.symm
              clear h9 h8
              refine bg_isub (pc := 88) X1 dX7_bed_88 (by omega) ?_
              exact bo_iret (pc := 89) X rfl dX7_bed_89 (fun hi => by
                  unfold xBed
                  rw [if_pos (by omega), if_pos (by omega)]
                  first
                  | (rw [if_neg (by omega), if_neg (by omega), if_pos (by omega)]; exact ⟨rfl, hM, frR.rf⟩)
                  | (rw [if_neg (by omega), if_neg (by omega), if_neg (by omega)]; exact ⟨rfl, hM, frR.rf⟩)
                  | (rcases (show w = 0 ∨ w = 1 by omega) with rfl | rfl
                     · rw [if_pos rfl, Int.add_zero]; exact ⟨row_mrk hM.1 u4 hb, hM, frR.rf⟩
                     · rw [if_neg (by decide), if_pos rfl]; exact ⟨row_th hM.1 u4 hb, hM, frR.rf⟩))
            · refine bg_aload0 (pc := 64) X1 dX7_bed_64 ?_
              refine bg_iload1 (pc := 65) X1 dX7_bed_65 ?_
              refine bg_iload2 (pc := 66) X1 dX7_bed_66 ?_
              refine bo_V2i (pc := 67) X1 (c_X7_depth hM.1 ok.1 u4 (by omega)) vX7_depth lX7_74 rfl (by first | assumption | rfl) (by decide) dX7_bed_67 (by exact Nat.le_of_ble_eq_true rfl) ?_
              rintro _ _ ⟨h9, h8⟩
              obtain rfl := h9.symm
              obtain rfl := h8.symm
              clear h9 h8
              refine bg_goto (pc := 70) X1 (tgt := 89) dX7_bed_70 (by decide) ?_
              exact bo_iret (pc := 89) X rfl dX7_bed_89 (fun hi => by
                  unfold xBed
                  rw [if_pos (by omega), if_pos (by omega)]
                  first
                  | (rw [if_neg (by omega), if_neg (by omega), if_pos (by omega)]; exact ⟨rfl, hM, frR.rf⟩)
                  | (rw [if_neg (by omega), if_neg (by omega), if_neg (by omega)]; exact ⟨rfl, hM, frR.rf⟩)
                  | (rcases (show w = 0 ∨ w = 1 by omega) with rfl | rfl
                     · rw [if_pos rfl, Int.add_zero]; exact ⟨row_mrk hM.1 u4 hb, hM, frR.rf⟩
                     · rw [if_neg (by decide), if_pos rfl]; exact ⟨row_th hM.1 u4 hb, hM, frR.rf⟩))
          · refine bg_aload0 (pc := 44) X1 dX7_bed_44 ?_
            refine bo_getR (pc := 45) X1 dX7_bed_45 fX7_7 (by first | assumption | rfl) rfl (by first | assumption | rfl) ?_
            refine bg_iload1 (pc := 48) X1 dX7_bed_48 ?_
            refine bg_iload2 (pc := 49) X1 dX7_bed_49 ?_
            refine bo_S2i (pc := 50) X1 (c_X7_at u4 (by omega)) sX7_at lX7_67 rfl (by decide) dX7_bed_50 (by exact Nat.le_of_ble_eq_true rfl) ?_
            rintro _ _ ⟨h9, h8⟩
            obtain rfl := h9.symm
            obtain rfl := h8.symm
            clear h9 h8
            refine bg_iload3 (pc := 53) X1 dX7_bed_53 ?_
            refine bg_iadd (pc := 54) X1 dX7_bed_54 (by omega) ?_
            refine bo_iaload (pc := 55) X1 dX7_bed_55 (by first | assumption | rfl) (by omega) ?_
            refine bg_goto (pc := 56) X1 (tgt := 89) dX7_bed_56 (by decide) ?_
            exact bo_iret (pc := 89) X rfl dX7_bed_89 (fun hi => by
                unfold xBed
                rw [if_pos (by omega), if_pos (by omega)]
                first
                | (rw [if_neg (by omega), if_neg (by omega), if_pos (by omega)]; exact ⟨rfl, hM, frR.rf⟩)
                | (rw [if_neg (by omega), if_neg (by omega), if_neg (by omega)]; exact ⟨rfl, hM, frR.rf⟩)
                | (rcases (show w = 0 ∨ w = 1 by omega) with rfl | rfl
                   · rw [if_pos rfl, Int.add_zero]; exact ⟨row_mrk hM.1 u4 hb, hM, frR.rf⟩
                   · rw [if_neg (by decide), if_pos rfl]; exact ⟨row_th hM.1 u4 hb, hM, frR.rf⟩))
        · refine bg_ldc (pc := 36) X1 dX7_bed_36 kX7_148 (by decide) ?_
          exact bo_iret (pc := 38) X rfl dX7_bed_38 (fun hi => by unfold xBed; rw [if_pos (by omega), if_neg (by omega)]; exact ⟨rfl, hM, frR.rf⟩)
      · refine bg_ldc (pc := 20) X1 dX7_bed_20 kX7_87 (by decide) ?_
        exact bo_iret (pc := 22) X rfl dX7_bed_22 (fun hi => by unfold xBed; rw [if_neg (by omega)]; exact ⟨rfl, hM, frR.rf⟩)
theorem c_X7_find {y : bg_Y} {g : bg_E} {h m w : Int} {Z : bm_X} (hM : modR g Z) (ok : okX Z) : bg_Si y 6 mX7_find [.inr 198, .inl h, .inl m, .inl w] g (fun r g' => r = xFind Z h m w ∧ modR g' Z ∧ frR 198 214 g g') := by
  refine bg_enter pnX7 (Nat.le_of_ble_eq_true rfl) (fun κ X hR hg => ?_)
  have X1 : bg_X κ y cX7_find RX7 6 0 0 := X.1
  have hg : ∀ a k, R32 (g a k) := hg
  show bg_g κ y 0 [some (.inr 198), some (.inl h), some (.inl m), some (.inl w), none, none] [] g
  have hw0 : R32 w := hR.2.2.2.1
  have loop : ∀ (n k : Nat) (l : Int), isHo h → (sq Z.1 h).length ≤ 24 → 0 ≤ l ∧ l ≤ w → k + n = (sq Z.1 h).length → xFind Z h m w = fndB (sq Z.1 h) m n k l → bg_g κ y 27 [some (.inr 198), some (.inl h), some (.inl m), some (.inl w), some (.inl l), some (.inl (k : Int))] [] g := by
    intro n
    induction n with
    | zero =>
      intro k l hh hl h0 hk hx
      refine bg_iload5 (pc := 27) X1 dX7_find_27 ?_
      refine bg_aload0 (pc := 29) X1 dX7_find_29 ?_
      refine bo_getR (pc := 30) X1 dX7_find_30 fX7_7 (by first | assumption | rfl) rfl (by first | assumption | rfl) ?_
      refine bg_bipush (pc := 33) X1 dX7_find_33 rfl (by decide) ?_
      refine bg_iload1 (pc := 35) X1 dX7_find_35 ?_
      refine bg_iadd (pc := 36) X1 dX7_find_36 (by omega) ?_
      refine bo_iaload (pc := 37) X1 dX7_find_37 (by first | assumption | rfl) (by omega) ?_
      rw [row_len hM.1 hh]
      refine bg_icmp_ge (pc := 38) X1 (tgt := 69) dX7_find_38 (by decide) (fun u38 => ?_) (fun u38 => ?_)
      · refine bg_ldc (pc := 69) X1 dX7_find_69 kX7_148 (by decide) ?_
        exact bo_iret (pc := 71) X rfl dX7_find_71 (fun hi => ⟨hx.symm, hM, frR.rf⟩)
      · exfalso; omega
    | succ n ih =>
      intro k l hh hl h0 hk hx
      rw [fndB] at hx
      refine bg_iload5 (pc := 27) X1 dX7_find_27 ?_
      refine bg_aload0 (pc := 29) X1 dX7_find_29 ?_
      refine bo_getR (pc := 30) X1 dX7_find_30 fX7_7 (by first | assumption | rfl) rfl (by first | assumption | rfl) ?_
      refine bg_bipush (pc := 33) X1 dX7_find_33 rfl (by decide) ?_
      refine bg_iload1 (pc := 35) X1 dX7_find_35 ?_
      refine bg_iadd (pc := 36) X1 dX7_find_36 (by omega) ?_
      refine bo_iaload (pc := 37) X1 dX7_find_37 (by first | assumption | rfl) (by omega) ?_
      rw [row_len hM.1 hh]
      refine bg_icmp_ge (pc := 38) X1 (tgt := 69) dX7_find_38 (by decide) (fun u38 => ?_) (fun u38 => ?_)
      · exfalso; omega
      · refine bg_aload0 (pc := 41) X1 dX7_find_41 ?_
        refine bg_iload1 (pc := 42) X1 dX7_find_42 ?_
        refine bg_iload5 (pc := 43) X1 dX7_find_43 ?_
        refine bo_V2i (pc := 45) X1 (c_X7_mark hM.1 ok.1 hh (by omega)) vX7_mark lX7_107 rfl (by first | assumption | rfl) (by decide) dX7_find_45 (by exact Nat.le_of_ble_eq_true rfl) ?_
        rintro _ _ ⟨h9, h8⟩
        obtain rfl := h9.symm
        obtain rfl := h8.symm
        clear h9 h8
        rw [Int.toNat_natCast]
        refine bg_iload2 (pc := 48) X1 dX7_find_48 ?_
        refine bg_icmp_ne (pc := 49) X1 (tgt := 63) dX7_find_49 (by decide) (fun u49 => ?_) (fun u49 => ?_)
        · rw [if_neg u49] at hx
          refine bg_iinc5 (pc := 63) X1 dX7_find_63 (by omega) ?_
          refine bg_goto (pc := 66) X1 (tgt := 27) dX7_find_66 (by decide) ?_
          exact ih (k + 1) _ hh hl (by omega) (by omega) hx
        · rw [if_pos u49] at hx
          refine bg_iload4 (pc := 52) X1 dX7_find_52 ?_
          refine bg_if_ne (pc := 54) X1 (tgt := 60) dX7_find_54 (by decide) (fun u54 => ?_) (fun u54 => ?_)
          · rw [if_neg u54] at hx
            refine bg_iinc4 (pc := 60) X1 dX7_find_60 (by omega) ?_
            refine bg_iinc5 (pc := 63) X1 dX7_find_63 (by omega) ?_
            refine bg_goto (pc := 66) X1 (tgt := 27) dX7_find_66 (by decide) ?_
            exact ih (k + 1) _ hh hl (by omega) (by omega) hx
          · refine bg_iload5 (pc := 57) X1 dX7_find_57 ?_
            exact bo_iret (pc := 59) X rfl dX7_find_59 (fun hi => ⟨by rw [hx, if_pos u54], hM, frR.rf⟩)
  refine bg_iload1 (pc := 0) X1 dX7_find_0 ?_
  refine bo_S1i (pc := 1) X1 (c_X7_isHole) sX7_isHole lX7_63 rfl (by decide) dX7_find_1 (by exact Nat.le_of_ble_eq_true rfl) ?_
  rintro _ _ ⟨h9, h8⟩
  obtain rfl := h9.symm
  obtain rfl := h8.symm
  clear h9 h8
  refine bo_ifeq_b (pc := 4) X1 (tgt := 18) dX7_find_4 (by decide) (fun u4 => ?_) (fun u4 => ?_)
  · refine bg_ldc (pc := 18) X1 dX7_find_18 kX7_87 (by decide) ?_
    exact bo_iret (pc := 20) X rfl dX7_find_20 (fun hi => by unfold xFind; rw [if_neg (by omega)]; exact ⟨rfl, hM, frR.rf⟩)
  · refine bg_iload2 (pc := 7) X1 dX7_find_7 ?_
    refine bo_S1i (pc := 8) X1 (c_X7_isMark) sX7_isMark lX7_88 rfl (by decide) dX7_find_8 (by exact Nat.le_of_ble_eq_true rfl) ?_
    rintro _ _ ⟨h9, h8⟩
    obtain rfl := h9.symm
    obtain rfl := h8.symm
    clear h9 h8
    refine bo_ifeq_b (pc := 11) X1 (tgt := 18) dX7_find_11 (by decide) (fun u11 => ?_) (fun u11 => ?_)
    · refine bg_ldc (pc := 18) X1 dX7_find_18 kX7_87 (by decide) ?_
      exact bo_iret (pc := 20) X rfl dX7_find_20 (fun hi => by unfold xFind; rw [if_neg (by omega)]; exact ⟨rfl, hM, frR.rf⟩)
    · refine bg_iload3 (pc := 14) X1 dX7_find_14 ?_
      refine bg_if_ge (pc := 15) X1 (tgt := 21) dX7_find_15 (by decide) (fun u15 => ?_) (fun u15 => ?_)
      · refine bg_iload3 (pc := 21) X1 dX7_find_21 ?_
        refine bg_istore4 (pc := 22) X1 dX7_find_22 ?_
        refine bg_iconst (pc := 24) X1 dX7_find_24 (by decide) ?_
        refine bg_istore5 (pc := 25) X1 dX7_find_25 ?_
        exact loop (sq Z.1 h).length 0 w u4 (sq_OK ok.1 u4).2 (by omega) (by omega) (by unfold xFind; rw [if_pos (by omega)])
      · refine bg_ldc (pc := 18) X1 dX7_find_18 kX7_87 (by decide) ?_
        exact bo_iret (pc := 20) X rfl dX7_find_20 (fun hi => by unfold xFind; rw [if_neg (by omega)]; exact ⟨rfl, hM, frR.rf⟩)
theorem c_X7_account {y : bg_Y} {g : bg_E} {w : Int} {Z : bm_X} (hM : modR g Z) (ok : okX Z) : bg_Si y 6 mX7_account [.inr 198, .inl w] g (fun r g' => r = xAccount Z w ∧ modR g' Z ∧ frR 198 214 g g') := by
  have d0 := sq_dep ok.1 (a := 0) ⟨by decide, by decide⟩ (Nat.le_refl _)
  have d1 := sq_dep ok.1 (a := 1) ⟨by decide, by decide⟩ (Nat.le_refl _)
  have d2 := sq_dep ok.1 (a := 2) ⟨by decide, by decide⟩ (Nat.le_refl _)
  have d3 := sq_dep ok.1 (a := 3) ⟨by decide, by decide⟩ (Nat.le_refl _)
  refine bg_enter pnX7 (Nat.le_of_ble_eq_true rfl) (fun κ X hR hg => ?_)
  have X1 : bg_X κ y cX7_account RX7 6 0 0 := X.1
  have hg : ∀ a k, R32 (g a k) := hg
  show bg_g κ y 0 [some (.inr 198), some (.inl w)] [] g
  refine bg_iload1 (pc := 0) X1 dX7_account_0 ?_
  refine bg_iconst (pc := 1) X1 dX7_account_1 (by decide) ?_
  refine bg_iconst (pc := 2) X1 dX7_account_2 (by decide) ?_
  refine bo_S3i (pc := 3) X1 (c_X7_in) sX7_in lX7_59 rfl (by decide) dX7_account_3 (by exact Nat.le_of_ble_eq_true rfl) ?_
  rintro _ _ ⟨h9, h8⟩
  obtain rfl := h9.symm
  obtain rfl := h8.symm
  clear h9 h8
  refine bo_ifne_b (pc := 6) X1 (tgt := 12) dX7_account_6 (by decide) (fun u6 => ?_) (fun u6 => ?_)
  · refine bg_iload1 (pc := 12) X1 dX7_account_12 ?_
    refine bg_if_ne (pc := 13) X1 (tgt := 42) dX7_account_13 (by decide) (fun u13 => ?_) (fun u13 => ?_)
    · refine bg_aload0 (pc := 42) X1 dX7_account_42 ?_
      refine bo_getR (pc := 43) X1 dX7_account_43 fX7_7 (by first | assumption | rfl) rfl (by first | assumption | rfl) ?_
      refine bg_bipush (pc := 46) X1 dX7_account_46 rfl (by decide) ?_
      refine bg_iload1 (pc := 48) X1 dX7_account_48 ?_
      refine bg_iadd (pc := 49) X1 dX7_account_49 (by omega) ?_
      refine bg_iconst (pc := 50) X1 dX7_account_50 (by decide) ?_
      refine bg_isub (pc := 51) X1 dX7_account_51 (by omega) ?_
      refine bo_iaload (pc := 52) X1 dX7_account_52 (by first | assumption | rfl) (by omega) ?_
      exact bo_iret (pc := 53) X rfl dX7_account_53 (fun hi => by
          unfold xAccount
          rw [if_pos (by omega)]
          first
          | (rw [if_pos u13]
             refine ⟨?_, hM, frR.rf⟩
             show _ = (((0 + dep (sq Z.1 0) (sq Z.1 0).length) + dep (sq Z.1 1) (sq Z.1 1).length) + dep (sq Z.1 2) (sq Z.1 2).length) + dep (sq Z.1 3) (sq Z.1 3).length
             omega)
          | (rw [if_neg u13]
             exact ⟨row_acc hM.1 (by omega), hM, frR.rf⟩))
    · refine bg_aload0 (pc := 16) X1 dX7_account_16 ?_
      refine bg_iconst (pc := 17) X1 dX7_account_17 (by decide) ?_
      refine bo_V1i (pc := 18) X1 (c_X7_length hM.1 ok.1 ⟨by decide, by decide⟩) vX7_length lX7_110 rfl (by first | assumption | rfl) (by decide) dX7_account_18 (by exact Nat.le_of_ble_eq_true rfl) ?_
      rintro _ _ ⟨h9, h8⟩
      obtain rfl := h9.symm
      obtain rfl := h8.symm
      clear h9 h8
      refine bg_aload0 (pc := 21) X1 dX7_account_21 ?_
      refine bg_iconst (pc := 22) X1 dX7_account_22 (by decide) ?_
      refine bo_V1i (pc := 23) X1 (c_X7_length hM.1 ok.1 ⟨by decide, by decide⟩) vX7_length lX7_110 rfl (by first | assumption | rfl) (by decide) dX7_account_23 (by exact Nat.le_of_ble_eq_true rfl) ?_
      rintro _ _ ⟨h9, h8⟩
      obtain rfl := h9.symm
      obtain rfl := h8.symm
      clear h9 h8
      refine bg_iadd (pc := 26) X1 dX7_account_26 (by omega) ?_
      refine bg_aload0 (pc := 27) X1 dX7_account_27 ?_
      refine bg_iconst (pc := 28) X1 dX7_account_28 (by decide) ?_
      refine bo_V1i (pc := 29) X1 (c_X7_length hM.1 ok.1 ⟨by decide, by decide⟩) vX7_length lX7_110 rfl (by first | assumption | rfl) (by decide) dX7_account_29 (by exact Nat.le_of_ble_eq_true rfl) ?_
      rintro _ _ ⟨h9, h8⟩
      obtain rfl := h9.symm
      obtain rfl := h8.symm
      clear h9 h8
      refine bg_iadd (pc := 32) X1 dX7_account_32 (by omega) ?_
      refine bg_aload0 (pc := 33) X1 dX7_account_33 ?_
      refine bg_iconst (pc := 34) X1 dX7_account_34 (by decide) ?_
      refine bo_V1i (pc := 35) X1 (c_X7_length hM.1 ok.1 ⟨by decide, by decide⟩) vX7_length lX7_110 rfl (by first | assumption | rfl) (by decide) dX7_account_35 (by exact Nat.le_of_ble_eq_true rfl) ?_
      rintro _ _ ⟨h9, h8⟩
      obtain rfl := h9.symm
      obtain rfl := h8.symm
      clear h9 h8
      refine bg_iadd (pc := 38) X1 dX7_account_38 (by omega) ?_
      refine bg_goto (pc := 39) X1 (tgt := 53) dX7_account_39 (by decide) ?_
      exact bo_iret (pc := 53) X rfl dX7_account_53 (fun hi => by
          unfold xAccount
          rw [if_pos (by omega)]
          first
          | (rw [if_pos u13]
             refine ⟨?_, hM, frR.rf⟩
             show _ = (((0 + dep (sq Z.1 0) (sq Z.1 0).length) + dep (sq Z.1 1) (sq Z.1 1).length) + dep (sq Z.1 2) (sq Z.1 2).length) + dep (sq Z.1 3) (sq Z.1 3).length
             omega)
          | (rw [if_neg u13]
             exact ⟨row_acc hM.1 (by omega), hM, frR.rf⟩))
  · refine bg_ldc (pc := 9) X1 dX7_account_9 kX7_87 (by decide) ?_
    exact bo_iret (pc := 11) X rfl dX7_account_11 (fun hi => by unfold xAccount; rw [if_neg (by omega)]; exact ⟨rfl, hM, frR.rf⟩)
