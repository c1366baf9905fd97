/-! the class's text, images, undo -/
theorem mk2_R (a b : Bool) : 0 ≤ mk2 a b ∧ mk2 a b ≤ 3 := by cases a <;> cases b <;> decide
theorem mk2_or (a b : Bool) (i : Int) (hi : i = 0 ∨ i = 1) : bg_bor (mk2 a b) (bg_shl 1 i) = (if i = 0 then mk2 true b else mk2 a true) := by
  rcases hi with rfl | rfl <;> cases a <;> cases b <;> decide
theorem mk2_and (a b : Bool) (i : Int) (hi : i = 0 ∨ i = 1) : bg_band (mk2 a b) (bg_shl 1 i) = 0 ↔ ¬ (if i = 0 then a else b) = true := by
  rcases hi with rfl | rfl <;> cases a <;> cases b <;> decide
theorem bg_imgs : ∀ p, p < 2 → bg_F 115 p = some (116 + 16 * p) ∧ bg_sta (116 + 16 * p) := by
  intro p hp
  have h1 : bg_F 115 p = some (116 + 16 * p) := by
    revert p
    decide +kernel
  refine ⟨h1, bg_stas _ ?_⟩
  have : p = 0 ∨ p = 1 := by omega
  rcases this with rfl | rfl <;> simp
theorem c_X6_appendCharacter {y : bg_Y} {g : bg_E} {v : Int} {Z : bm_X} (hX : clsR g Z) : bg_Si y 6 mX6_appendCharacter [.inr 0, .inl v] g (fun r g' => r = (xAppend Z v).1 ∧ clsR g' (xAppend Z v).2 ∧ frR 0 198 g g') := by
  obtain ⟨t1, t2, t3, t4⟩ := hX.2.2.2.2.1
  refine bg_enter pnX6 (Nat.le_of_ble_eq_true rfl) (fun κ X hR hg => ?_)
  have X1 : bg_X κ y cX6_appendCharacter RX6 6 0 0 := X.1
  have hg : ∀ a k, R32 (g a k) := hg
  show bg_g κ y 0 [some (.inr 0), some (.inl v)] [] g
  refine bg_iload1 (pc := 0) X1 dX6_appendCharacter_0 ?_
  refine bg_if_lt (pc := 1) X1 (tgt := 11) dX6_appendCharacter_1 (by decide) (fun u1 => ?_) (fun u1 => ?_)
  · refine bg_ldc (pc := 11) X1 dX6_appendCharacter_11 kX6_58 (by decide) ?_
    exact bo_iret (pc := 13) X rfl dX6_appendCharacter_13 (fun hi => by unfold xAppend; rw [if_neg (by omega)]; exact ⟨rfl, hX, frR.rf⟩)
  · refine bg_iload1 (pc := 4) X1 dX6_appendCharacter_4 ?_
    refine bg_sipush (pc := 5) X1 dX6_appendCharacter_5 rfl (by decide) ?_
    refine bg_icmp_le (pc := 8) X1 (tgt := 14) dX6_appendCharacter_8 (by decide) (fun u8 => ?_) (fun u8 => ?_)
    · refine bg_aload0 (pc := 14) X1 dX6_appendCharacter_14 ?_
      refine bo_getR (pc := 15) X1 dX6_appendCharacter_15 fX6_34 (by first | assumption | rfl) rfl (by first | assumption | rfl) ?_
      refine bg_iload1 (pc := 18) X1 dX6_appendCharacter_18 ?_
      refine bo_V1i (pc := 19) X1 (c_X5_append (by omega)) vX5_append lX6_153 rfl (by first | assumption | rfl) (by decide) dX6_appendCharacter_19 (by exact Nat.le_of_ble_eq_true rfl) ?_
      rintro r19 g1 ⟨h9, h8⟩
      subst h9
      refine bo_ifne_b (pc := 22) X1 (tgt := 28) dX6_appendCharacter_22 (by decide) (fun u22 => ?a22) (fun u22 => ?b22)
      case b22 =>
        rw [if_neg u22] at h8
        subst h8
        refine bg_ldc (pc := 25) X1 dX6_appendCharacter_25 kX6_110 (by decide) ?_
        exact bo_iret (pc := 27) X rfl dX6_appendCharacter_27 (fun hi => by unfold xAppend; rw [if_pos (by omega), if_neg (by omega)]; exact ⟨rfl, hX, frR.rf⟩)
      rw [if_pos u22, show (g 148 1).toNat = Z.2.2.2.length by omega] at h8
      subst h8
      refine bg_aload0 (pc := 28) X1 dX6_appendCharacter_28 ?_
      refine bo_getR (pc := 29) X1 dX6_appendCharacter_29 fX6_34 (by first | assumption | rfl) rfl (by first | assumption | rfl) ?_
      refine bo_V0i (pc := 32) X1 (c_X5_size) vX5_size lX6_156 rfl (by first | assumption | rfl) (by decide) dX6_appendCharacter_32 (by exact Nat.le_of_ble_eq_true rfl) ?_
      rintro _ _ ⟨h9, h8⟩
      obtain rfl := h9.symm
      obtain rfl := h8.symm
      clear h9 h8
      exact bo_iret (pc := 35) X rfl dX6_appendCharacter_35 (fun hi => by
          unfold xAppend
          rw [if_pos (by omega), if_pos (by omega)]
          refine ⟨by rw [up_eq, t1], hX.txt (fun x hx hy => by rw [bg_up_ne (by omega), bg_up_ne (by omega)]) ⟨by rw [up_eq, List.length_append, t1]; rfl, by rw [List.length_append, List.length_singleton]; omega, fun k hk => ?_, ?_⟩, fun x hx => by rw [bg_up_ne (by omega), bg_up_ne (by omega)]⟩
          · rw [up_a (by decide)]
            unfold chr
            rw [List.length_append, List.length_singleton] at hk
            by_cases hkl : k = Z.2.2.2.length
            · subst hkl
              rw [up_eq, List.getD_eq_getElem?_getD, List.getElem?_append_right (Nat.le_refl _), Nat.sub_self]
              rfl
            · rw [up_k hkl, t3 k (by omega), List.getD_eq_getElem?_getD, List.getElem?_append_left (by omega)]
              unfold chr
              rw [List.getD_eq_getElem?_getD]
          · intro x hx
            rcases List.mem_append.mp hx with h | h
            · exact t4 x h
            · rw [List.mem_singleton.mp h]; omega)
    · refine bg_ldc (pc := 11) X1 dX6_appendCharacter_11 kX6_58 (by decide) ?_
      exact bo_iret (pc := 13) X rfl dX6_appendCharacter_13 (fun hi => by unfold xAppend; rw [if_neg (by omega)]; exact ⟨rfl, hX, frR.rf⟩)
theorem c_X6_clearText {y : bg_Y} {g : bg_E} {Z : bm_X} (hX : clsR g Z) : bg_Si y 6 mX6_clearText [.inr 0] g (fun r g' => r = (xClear Z).1 ∧ clsR g' (xClear Z).2 ∧ frR 0 198 g g') := by
  obtain ⟨t1, t2, t3, t4⟩ := hX.2.2.2.2.1
  refine bg_enter pnX6 (Nat.le_of_ble_eq_true rfl) (fun κ X hR hg => ?_)
  have X1 : bg_X κ y cX6_clearText RX6 6 0 0 := X.1
  have hg : ∀ a k, R32 (g a k) := hg
  show bg_g κ y 0 [some (.inr 0), none] [] g
  refine bg_aload0 (pc := 0) X1 dX6_clearText_0 ?_
  refine bo_getR (pc := 1) X1 dX6_clearText_1 fX6_34 (by first | assumption | rfl) rfl (by first | assumption | rfl) ?_
  refine bo_V0i (pc := 4) X1 (c_X5_size) vX5_size lX6_156 rfl (by first | assumption | rfl) (by decide) dX6_clearText_4 (by exact Nat.le_of_ble_eq_true rfl) ?_
  rintro _ _ ⟨h9, h8⟩
  obtain rfl := h9.symm
  obtain rfl := h8.symm
  clear h9 h8
  refine bg_istore1 (pc := 7) X1 dX6_clearText_7 ?_
  refine bg_aload0 (pc := 8) X1 dX6_clearText_8 ?_
  refine bo_getR (pc := 9) X1 dX6_clearText_9 fX6_34 (by first | assumption | rfl) rfl (by first | assumption | rfl) ?_
  refine bo_V0v (pc := 12) X1 (c_X5_clear) vX5_clear lX6_157 rfl (by first | assumption | rfl) (by decide) dX6_clearText_12 (by exact Nat.le_of_ble_eq_true rfl) ?_
  rintro _ h8
  obtain rfl := h8.symm
  clear h8
  refine bg_iload1 (pc := 15) X1 dX6_clearText_15 ?_
  exact bo_iret (pc := 16) X rfl dX6_clearText_16 (fun hi => ⟨t1, hX.txt (fun x hx hy => bg_up_ne (by omega)) ⟨by rw [up_eq]; rfl, by simp, fun k hk => by simp at hk, fun x hx => by cases hx⟩, fun x hx => bg_up_ne (by omega)⟩)
theorem clsR.T {g g' : bg_E} {Z : bm_X} (h : clsR g Z) (hf : frT g g') (ht : txC g' Z.2.2.2) : clsR g' Z ∧ frR 0 198 g g' := by
  have hf2 : ∀ x, ¬ (x = 148 ∨ x = 149) → ¬ (150 ≤ x ∧ x < 153) → g' x = g x := fun x hx hy => funext fun j => hf x j (by omega) hy
  exact ⟨h.txt hf2 ht, fun x hx => hf2 x (by omega) (by omega)⟩
theorem c_X6_load {y : bg_Y} {g : bg_E} {Z : bm_X} (hX : clsR g Z) (ok : okX Z) : bg_Si y 6 mX6_load [.inr 0] g (fun r g' => r = (xLoad Z).1 ∧ clsR g' (xLoad Z).2 ∧ frR 0 198 g g') := by
  have b1 : bg_sta 1 := bg_stas 1 (by simp)
  obtain ⟨s1, s2, s3, s4, s5, s6, s7, s8, s9⟩ := id b1
  have fc : bg_col 150 := bg_cols 150 (by simp)
  have pk := prs_ok (t := Z.2.2.2)
  obtain ⟨R, hRe⟩ : ∃ R, R = prs Z.2.2.2 := ⟨_, rfl⟩
  rw [← hRe] at pk
  have eL : xLoad Z = if 0 ≤ R.1 then ((R.2.2.length : Int), (sBook (sBed (sBook Z.1 2 (dep (qH Z R.1) (qH Z R.1).length)) R.1.toNat R.2.2) 1 (dep R.2.2 R.2.2.length), hPush Z.2.1 Z.1, Z.2.2.1, [])) else (-2000000 - (R.2.1 : Int), Z) := by rw [hRe]; rfl
  refine bg_enter pnX6 (Nat.le_of_ble_eq_true rfl) (fun κ X hR hg => ?_)
  have X1 : bg_X κ y cX6_load RX6 6 0 0 := X.1
  have hg : ∀ a k, R32 (g a k) := hg
  show bg_g κ y 0 [some (.inr 0), none] [] g
  refine bg_aload0 (pc := 0) X1 dX6_load_0 ?_
  refine bo_getR (pc := 1) X1 dX6_load_1 fX6_34 (by first | assumption | rfl) rfl (by first | assumption | rfl) ?_
  refine bo_V0i (pc := 4) X1 (c_X5_parse hX.2.2.2.2.1) vX5_parse lX6_158 rfl (by first | assumption | rfl) (by decide) dX6_load_4 (by exact Nat.le_of_ble_eq_true rfl) ?_
  rintro r4 g1 ⟨h9, y1, y2, y3⟩
  subst h9
  rw [← hRe] at y1 y2
  obtain ⟨hX1, F1⟩ := hX.T y3 y1.C
  have yr := y1.R
  refine bo_ifne_b (pc := 7) X1 (tgt := 21) dX6_load_7 (by decide) (fun u7 => ?a7) (fun u7 => ?b7)
  case b7 =>
    rw [← hRe] at u7
    refine bg_ldc (pc := 10) X1 dX6_load_10 kX6_162 (by decide) ?_
    refine bg_aload0 (pc := 12) X1 dX6_load_12 ?_
    refine bo_getR (pc := 13) X1 dX6_load_13 fX6_34 (by first | assumption | rfl) rfl (by first | assumption | rfl) ?_
    refine bo_V0i (pc := 16) X1 (c_X5_parsedTo) vX5_parsedTo lX6_163 rfl (by first | assumption | rfl) (by decide) dX6_load_16 (by exact Nat.le_of_ble_eq_true rfl) ?_
    rintro _ _ ⟨h9, h8⟩
    obtain rfl := h9.symm
    obtain rfl := h8.symm
    refine bg_isub (pc := 19) X1 dX6_load_19 (by omega) ?_
    exact bo_iret (pc := 20) X rfl dX6_load_20 (fun hi => by rw [eL, if_neg u7]; exact ⟨by rw [yr.1], hX1, F1⟩)
  rw [← hRe] at u7
  obtain ⟨w1, w2⟩ := y2 u7
  have hh : isHo R.1 := by rcases pk.2.2 with h | h; (· omega); (· exact h)
  have hc := s9 R.1.toNat (by omega)
  refine bg_aload0 (pc := 21) X1 dX6_load_21 ?_
  refine bo_getR (pc := 22) X1 dX6_load_22 fX6_19 (by first | assumption | rfl) rfl (by first | assumption | rfl) ?_
  refine bg_aload0 (pc := 25) X1 dX6_load_25 ?_
  refine bo_getR (pc := 26) X1 dX6_load_26 fX6_10 (by first | assumption | rfl) rfl (by first | assumption | rfl) ?_
  refine bo_V1v (pc := 29) X1 (c_X1_save hX1.2.1 hX1.1) vX1_save lX6_66 rfl (by first | assumption | rfl) (by decide) dX6_load_29 (by exact Nat.le_of_ble_eq_true rfl) ?_
  rintro g2 ⟨x1, x2⟩
  have hS1 := hX1.1.fr x2 (by omega)
  refine bg_aload0 (pc := 32) X1 dX6_load_32 ?_
  refine bo_getR (pc := 33) X1 dX6_load_33 fX6_10 (by first | assumption | rfl) rfl (by first | assumption | rfl) ?_
  refine bg_aload0 (pc := 36) X1 dX6_load_36 ?_
  refine bo_getR (pc := 37) X1 dX6_load_37 fX6_34 (by first | assumption | rfl) rfl (by first | assumption | rfl) ?_
  refine bo_V0i (pc := 40) X1 (c_X5_parsedHole) vX5_parsedHole lX6_166 rfl (by first | assumption | rfl) (by decide) dX6_load_40 (by exact Nat.le_of_ble_eq_true rfl) ?_
  rintro _ _ ⟨h9, h8⟩
  obtain rfl := h9.symm
  obtain rfl := h8.symm
  clear h9 h8
  rw [show g2 148 3 = R.1 by rw [x2 148 (by omega)]; exact w1]
  refine bo_V1r (pc := 43) X1 (c_X4_columnOf b1 hh) vX4_columnOf lX6_92 rfl (by first | assumption | rfl) (by decide) dX6_load_43 (by exact Nat.le_of_ble_eq_true rfl) ?_
  rintro _ _ ⟨h9, h8⟩
  obtain rfl := h9.symm
  obtain rfl := h8.symm
  clear h9 h8
  refine bg_astore1 (pc := 46) X1 dX6_load_46 ?_
  refine bg_aload0 (pc := 47) X1 dX6_load_47 ?_
  refine bo_getR (pc := 48) X1 dX6_load_48 fX6_10 (by first | assumption | rfl) rfl (by first | assumption | rfl) ?_
  refine bg_iconst (pc := 51) X1 dX6_load_51 (by decide) ?_
  refine bg_aload1 (pc := 52) X1 dX6_load_52 ?_
  refine bo_V0i (pc := 53) X1 (c_X0_totalThickness hc (hS1.2.2.1 R.1.toNat (by omega)).2 (ok.1.2.2.2.2.2.2.2 R.1.toNat (by omega)).1) vX0_totalThickness lX6_136 rfl hc.1 (by decide) dX6_load_53 (by exact Nat.le_of_ble_eq_true rfl) ?_
  rintro _ _ ⟨h9, h8⟩
  obtain rfl := h9.symm
  obtain rfl := h8.symm
  clear h9 h8
  refine bo_V2v (pc := 56) X1 (c_X4_book b1 hS1 (by omega)) vX4_book lX6_115 rfl (by first | assumption | rfl) (by decide) dX6_load_56 (by exact Nat.le_of_ble_eq_true rfl) ?_
  rintro g3 ⟨x3, x4⟩
  refine bg_aload1 (pc := 59) X1 dX6_load_59 ?_
  refine bg_aload0 (pc := 60) X1 dX6_load_60 ?_
  refine bo_getR (pc := 61) X1 dX6_load_61 fX6_34 (by first | assumption | rfl) rfl (by first | assumption | rfl) ?_
  refine bo_V0r (pc := 64) X1 (c_X5_parsedBeds) vX5_parsedBeds lX6_169 rfl (by first | assumption | rfl) (by decide) dX6_load_64 (by exact Nat.le_of_ble_eq_true rfl) ?_
  rintro _ _ ⟨h9, h8⟩
  obtain rfl := h9.symm
  obtain rfl := h8.symm
  clear h9 h8
  refine bo_V1v (pc := 67) X1 (c_X0_takeBedsOf hc fc (by omega) ((w2.fr x2 (by omega)).fr x4 (by omega))) vX0_takeBedsOf lX6_149 rfl hc.1 (by decide) dX6_load_67 (by exact Nat.le_of_ble_eq_true rfl) ?_
  rintro g4 ⟨x5, x6, x7⟩
  have hS2 := x3.col (by omega) x6 x5 x7
  refine bg_aload0 (pc := 70) X1 dX6_load_70 ?_
  refine bo_getR (pc := 71) X1 dX6_load_71 fX6_10 (by first | assumption | rfl) rfl (by first | assumption | rfl) ?_
  refine bg_iconst (pc := 74) X1 dX6_load_74 (by decide) ?_
  refine bg_aload1 (pc := 75) X1 dX6_load_75 ?_
  refine bo_V0i (pc := 76) X1 (c_X0_totalThickness hc x5 pk.1) vX0_totalThickness lX6_136 rfl hc.1 (by decide) dX6_load_76 (by exact Nat.le_of_ble_eq_true rfl) ?_
  rintro _ _ ⟨h9, h8⟩
  obtain rfl := h9.symm
  obtain rfl := h8.symm
  clear h9 h8
  refine bo_V2v (pc := 79) X1 (c_X4_book b1 hS2 (by omega)) vX4_book lX6_115 rfl (by first | assumption | rfl) (by decide) dX6_load_79 (by exact Nat.le_of_ble_eq_true rfl) ?_
  rintro g5 ⟨x8, x9⟩
  have F5 : frR 1 17 g2 g5 := (x4.tr (x6.wide (by omega) (by omega))).tr x9
  have hX5 := hX1.put x1 x2 F5 x8
  have T5 : txC g5 Z.2.2.2 := hX5.2.2.2.2.1
  have hL := (x8.2.2.1 R.1.toNat (by omega)).2.1
  refine bg_aload0 (pc := 82) X1 dX6_load_82 ?_
  refine bo_getR (pc := 83) X1 dX6_load_83 fX6_34 (by first | assumption | rfl) rfl (by first | assumption | rfl) ?_
  refine bo_V0v (pc := 86) X1 (c_X5_clear) vX5_clear lX6_157 rfl (by first | assumption | rfl) (by decide) dX6_load_86 (by exact Nat.le_of_ble_eq_true rfl) ?_
  rintro _ h8
  obtain rfl := h8.symm
  clear h8
  refine bg_aload1 (pc := 89) X1 dX6_load_89 ?_
  refine bo_V0i (pc := 90) X1 (c_X0_size hc) vX0_size lX6_107 rfl hc.1 (by decide) dX6_load_90 (by exact Nat.le_of_ble_eq_true rfl) ?_
  rintro _ _ ⟨h9, h8⟩
  obtain rfl := h9.symm
  obtain rfl := h8.symm
  clear h9 h8
  exact bo_iret (pc := 93) X rfl dX6_load_93 (fun hi => by
      rw [eL, if_pos u7]
      refine ⟨?_, hX5.txt (t := []) (fun x hx hy => bg_up_ne (by omega)) ⟨by rw [up_eq]; rfl, by simp, fun k hk => by simp at hk, fun x hx => by cases hx⟩, ?_⟩
      · rw [up_a (by omega)]
        refine hL.trans ?_
        show ((fup _ R.1.toNat R.2.2 R.1.toNat).length : Int) = _
        rw [fup_eq]
      · exact ((F1.tr (x2.wide (by omega) (by omega))).tr (F5.wide (by omega) (by omega))).up (by omega) (by omega))
theorem c_X6_keep {y : bg_Y} {g : bg_E} {i : Int} {Z : bm_X} (hX : clsR g Z) (ok : okX Z) : bg_Si y 6 mX6_keep [.inr 0, .inl i] g (fun r g' => r = (xKeep Z i).1 ∧ clsR g' (xKeep Z i).2 ∧ frR 0 198 g g') := by
  have b1 : bg_sta 1 := bg_stas 1 (by simp)
  refine bg_enter pnX6 (Nat.le_of_ble_eq_true rfl) (fun κ X hR hg => ?_)
  have X1 : bg_X κ y cX6_keep RX6 6 0 0 := X.1
  have hg : ∀ a k, R32 (g a k) := hg
  show bg_g κ y 0 [some (.inr 0), some (.inl i)] [] g
  refine bg_iload1 (pc := 0) X1 dX6_keep_0 ?_
  refine bo_S1i (pc := 1) X1 (c_X6_isImage) sX6_isImage lX6_173 rfl (by decide) dX6_keep_1 (by exact Nat.le_of_ble_eq_true rfl) ?_
  rintro _ _ ⟨h9, h8⟩
  obtain rfl := h9.symm
  obtain rfl := h8.symm
  clear h9 h8
  refine bo_ifne_b (pc := 4) X1 (tgt := 10) dX6_keep_4 (by decide) (fun u4 => ?_) (fun u4 => ?_)
  · obtain ⟨f1, f2⟩ := bg_imgs i.toNat (by omega)
    refine bg_aload0 (pc := 10) X1 dX6_keep_10 ?_
    refine bo_getR (pc := 11) X1 dX6_keep_11 fX6_23 (by first | assumption | rfl) rfl (by first | assumption | rfl) ?_
    refine bg_iload1 (pc := 14) X1 dX6_keep_14 ?_
    refine bo_aaload (pc := 15) X1 dX6_keep_15 (by first | assumption | rfl) (by decide) (by omega) f1 ?_
    refine bg_aload0 (pc := 16) X1 dX6_keep_16 ?_
    refine bo_getR (pc := 17) X1 dX6_keep_17 fX6_10 (by first | assumption | rfl) rfl (by first | assumption | rfl) ?_
    refine bo_V1v (pc := 20) X1 (c_X4_copyFrom f2 b1 (by omega) hX.1) vX4_copyFrom lX6_176 rfl f2.1 (by decide) dX6_keep_20 (by exact Nat.le_of_ble_eq_true rfl) ?_
    rintro g1 ⟨x1, x2⟩
    have e3 : g1 0 3 = mk2 (Z.2.2.1 0).isSome (Z.2.2.1 1).isSome := by rw [x2 0 (by omega)]; exact hX.2.2.1
    have hS1 := hX.1.fr x2 (by omega)
    refine bg_aload0 (pc := 23) X1 dX6_keep_23 ?_
    refine bg_dup (pc := 24) X1 dX6_keep_24 ?_
    refine bo_getI (pc := 25) X1 dX6_keep_25 fX6_27 (by first | assumption | rfl) rfl ?_
    refine bg_iconst (pc := 28) X1 dX6_keep_28 (by decide) ?_
    refine bg_iload1 (pc := 29) X1 dX6_keep_29 ?_
    refine bg_ishl (pc := 30) X1 dX6_keep_30 ?_
    refine bg_ior (pc := 31) X1 dX6_keep_31 ?_
    rw [e3, mk2_or _ _ i (by omega)]
    refine bo_putI (pc := 32) X1 dX6_keep_32 fX6_27 (by first | assumption | rfl) rfl ?_
    refine bg_aload0 (pc := 35) X1 dX6_keep_35 ?_
    refine bo_getR (pc := 36) X1 dX6_keep_36 fX6_10 (by first | assumption | rfl) rfl (by first | assumption | rfl) ?_
    have f3 : frR 0 1 g1 (bg_up g1 0 3 (if i = 0 then mk2 true (Z.2.2.1 1).isSome else mk2 (Z.2.2.1 0).isSome true)) := frR.rf.up (by omega) (by omega)
    refine bo_V0i (pc := 39) X1 (c_X4_sumOfSizes b1 (hS1.fr f3 (by omega))) vX4_sumOfSizes lX6_179 rfl (by first | assumption | rfl) (by decide) dX6_keep_39 (by exact Nat.le_of_ble_eq_true rfl) ?_
    rintro _ _ ⟨h9, h8⟩
    obtain rfl := h9.symm
    obtain rfl := h8.symm
    clear h9 h8
    exact bo_iret (pc := 42) X rfl dX6_keep_42 (fun hi => by
        unfold xKeep
        rw [if_pos u4]
        obtain ⟨h1, h2, h3, h4, ⟨h5, h6, h7, h8⟩, h9, h10, h11⟩ := hX
        have F2 := (x2.wide (lo' := 0) (hi' := 148) (by omega) (by omega)).tr (f3.wide (lo' := 0) (hi' := 148) (by omega) (by omega))
        refine ⟨rfl, ⟨hS1.fr f3 (by omega), (h2.fr x2 (by omega)).fr f3 (by omega), ?_, fun j T hj hT => ?_, ⟨by rw [F2 148 (by omega)]; exact h5, h6, fun k hk => by rw [F2 149 (by omega)]; exact h7 k hk, h8⟩, fun k hk => by rw [F2 _ (by omega)]; exact h9 k hk, fun k hk => by rw [F2 _ (by omega)]; exact h10 k hk, fun k hk => by rw [F2 _ (by omega)]; exact h11 k hk⟩, F2.wide (by omega) (by omega)⟩
        · rw [up_eq]
          have e1 : i = 0 ∨ i = 1 := by omega
          rcases e1 with rfl | rfl
          · rw [if_pos rfl]
            show mk2 true _ = mk2 (fup Z.2.2.1 0 (some Z.1) 0).isSome (fup Z.2.2.1 0 (some Z.1) 1).isSome
            rw [fup_eq, fup_ne (by decide)]; rfl
          · rw [if_neg (by decide)]
            show mk2 _ true = mk2 (fup Z.2.2.1 1 (some Z.1) 0).isSome (fup Z.2.2.1 1 (some Z.1) 1).isSome
            rw [fup_eq, fup_ne (by decide)]; rfl
        · have hT' : fup Z.2.2.1 i.toNat (some Z.1) j = some T := hT
          by_cases hji : j = i.toNat
          · subst hji
            rw [fup_eq] at hT'
            cases hT'
            exact x1.fr f3 (by omega)
          · rw [fup_ne hji] at hT'
            exact ((h4 j T hj hT').fr x2 (by omega)).fr f3 (by omega))
  · refine bg_ldc (pc := 7) X1 dX6_keep_7 kX6_58 (by decide) ?_
    exact bo_iret (pc := 9) X rfl dX6_keep_9 (fun hi => by unfold xKeep; rw [if_neg u4]; exact ⟨rfl, hX, frR.rf⟩)
theorem c_X6_back {y : bg_Y} {g : bg_E} {i : Int} {Z : bm_X} (hX : clsR g Z) (ok : okX Z) : bg_Si y 6 mX6_back [.inr 0, .inl i] g (fun r g' => r = (xBack Z i).1 ∧ clsR g' (xBack Z i).2 ∧ frR 0 198 g g') := by
  have b1 : bg_sta 1 := bg_stas 1 (by simp)
  refine bg_enter pnX6 (Nat.le_of_ble_eq_true rfl) (fun κ X hR hg => ?_)
  have X1 : bg_X κ y cX6_back RX6 6 0 0 := X.1
  have hg : ∀ a k, R32 (g a k) := hg
  show bg_g κ y 0 [some (.inr 0), some (.inl i)] [] g
  refine bg_iload1 (pc := 0) X1 dX6_back_0 ?_
  refine bo_S1i (pc := 1) X1 (c_X6_isImage) sX6_isImage lX6_173 rfl (by decide) dX6_back_1 (by exact Nat.le_of_ble_eq_true rfl) ?_
  rintro _ _ ⟨h9, h8⟩
  obtain rfl := h9.symm
  obtain rfl := h8.symm
  clear h9 h8
  refine bo_ifne_b (pc := 4) X1 (tgt := 10) dX6_back_4 (by decide) (fun u4 => ?_) (fun u4 => ?_)
  · obtain ⟨f1, f2⟩ := bg_imgs i.toNat (by omega)
    have e0 : (if i = 0 then (Z.2.2.1 0).isSome else (Z.2.2.1 1).isSome) = (Z.2.2.1 i.toNat).isSome := by
      have e1 : i = 0 ∨ i = 1 := by omega
      rcases e1 with rfl | rfl <;> rfl
    refine bg_aload0 (pc := 10) X1 dX6_back_10 ?_
    refine bo_getI (pc := 11) X1 dX6_back_11 fX6_27 (by first | assumption | rfl) rfl ?_
    refine bg_iconst (pc := 14) X1 dX6_back_14 (by decide) ?_
    refine bg_iload1 (pc := 15) X1 dX6_back_15 ?_
    refine bg_ishl (pc := 16) X1 dX6_back_16 ?_
    refine bg_iand (pc := 17) X1 dX6_back_17 ?_
    rw [hX.2.2.1]
    refine bg_if_ne (pc := 18) X1 (tgt := 24) dX6_back_18 (by decide) (fun u18 => ?_) (fun u18 => ?_)
    · rw [mk2_and _ _ i (by omega), e0] at u18
      obtain ⟨T, e2⟩ : ∃ T, Z.2.2.1 i.toNat = some T := by
        cases h : Z.2.2.1 i.toNat with
        | none => rw [h] at u18; exact absurd (by decide) u18
        | some T => exact ⟨T, rfl⟩
      have hT := hX.2.2.2.1 i.toNat T (by omega) e2
      refine bg_aload0 (pc := 24) X1 dX6_back_24 ?_
      refine bo_getR (pc := 25) X1 dX6_back_25 fX6_19 (by first | assumption | rfl) rfl (by first | assumption | rfl) ?_
      refine bg_aload0 (pc := 28) X1 dX6_back_28 ?_
      refine bo_getR (pc := 29) X1 dX6_back_29 fX6_10 (by first | assumption | rfl) rfl (by first | assumption | rfl) ?_
      refine bo_V1v (pc := 32) X1 (c_X1_save hX.2.1 hX.1) vX1_save lX6_66 rfl (by first | assumption | rfl) (by decide) dX6_back_32 (by exact Nat.le_of_ble_eq_true rfl) ?_
      rintro g1 ⟨x1, x2⟩
      refine bg_aload0 (pc := 35) X1 dX6_back_35 ?_
      refine bo_getR (pc := 36) X1 dX6_back_36 fX6_10 (by first | assumption | rfl) rfl (by first | assumption | rfl) ?_
      refine bg_aload0 (pc := 39) X1 dX6_back_39 ?_
      refine bo_getR (pc := 40) X1 dX6_back_40 fX6_23 (by first | assumption | rfl) rfl (by first | assumption | rfl) ?_
      refine bg_iload1 (pc := 43) X1 dX6_back_43 ?_
      refine bo_aaload (pc := 44) X1 dX6_back_44 (by first | assumption | rfl) (by decide) (by omega) f1 ?_
      refine bo_V1v (pc := 45) X1 (c_X4_copyFrom b1 f2 (by omega) (hT.fr x2 (by omega))) vX4_copyFrom lX6_176 rfl (by first | assumption | rfl) (by decide) dX6_back_45 (by exact Nat.le_of_ble_eq_true rfl) ?_
      rintro g2 ⟨x3, x4⟩
      refine bg_aload0 (pc := 48) X1 dX6_back_48 ?_
      refine bo_getR (pc := 49) X1 dX6_back_49 fX6_10 (by first | assumption | rfl) rfl (by first | assumption | rfl) ?_
      refine bo_V0i (pc := 52) X1 (c_X4_sumOfSizes b1 x3) vX4_sumOfSizes lX6_179 rfl (by first | assumption | rfl) (by decide) dX6_back_52 (by exact Nat.le_of_ble_eq_true rfl) ?_
      rintro _ _ ⟨h9, h8⟩
      obtain rfl := h9.symm
      obtain rfl := h8.symm
      clear h9 h8
      exact bo_iret (pc := 55) X rfl dX6_back_55 (fun hi => by
          unfold xBack
          rw [if_pos u4, e2]
          exact ⟨rfl, hX.put2 x1 x2 x4 x3⟩)
    · rw [mk2_and _ _ i (by omega), e0] at u18
      have e2 : Z.2.2.1 i.toNat = none := by
        cases h : Z.2.2.1 i.toNat with
        | none => rfl
        | some T => rw [h] at u18; exact absurd rfl u18
      refine bg_ldc (pc := 21) X1 dX6_back_21 kX6_182 (by decide) ?_
      exact bo_iret (pc := 23) X rfl dX6_back_23 (fun hi => by unfold xBack; rw [if_pos u4, e2]; exact ⟨rfl, hX, frR.rf⟩)
  · refine bg_ldc (pc := 7) X1 dX6_back_7 kX6_58 (by decide) ?_
    exact bo_iret (pc := 9) X rfl dX6_back_9 (fun hi => by unfold xBack; rw [if_neg u4]; exact ⟨rfl, hX, frR.rf⟩)
theorem c_X6_undo {y : bg_Y} {g : bg_E} {Z : bm_X} (hX : clsR g Z) : bg_Si y 6 mX6_undo [.inr 0] g (fun r g' => r = (xUndo Z).1 ∧ clsR g' (xUndo Z).2 ∧ frR 0 198 g g') := by
  have hcase : (Z.2.1 = [] ∧ xUndo Z = (ILL, Z)) ∨ ∃ hs S, Z.2.1 = hs ++ [S] ∧ xUndo Z = ((hs.length : Int), (S, hs, Z.2.2)) := by
    rcases List.eq_nil_or_concat Z.2.1 with h | ⟨hs, S, h⟩
    · exact Or.inl ⟨h, by unfold xUndo; rw [h]; rfl⟩
    · rw [List.concat_eq_append] at h
      exact Or.inr ⟨hs, S, h, by unfold xUndo; rw [h, List.getLast?_concat, List.dropLast_concat]⟩
  rcases hcase with ⟨e1, e2⟩ | ⟨hs, S, e1, e2⟩
  · have h1 := hX.2.1.1
    rw [e1] at h1
    rw [e2]
    refine bg_enter pnX6 (Nat.le_of_ble_eq_true rfl) (fun κ X hR hg => ?_)
    have X1 : bg_X κ y cX6_undo RX6 6 0 0 := X.1
    have hg : ∀ a k, R32 (g a k) := hg
    show bg_g κ y 0 [some (.inr 0)] [] g
    refine bg_aload0 (pc := 0) X1 dX6_undo_0 ?_
    refine bo_getR (pc := 1) X1 dX6_undo_1 fX6_19 (by first | assumption | rfl) rfl (by first | assumption | rfl) ?_
    refine bg_aload0 (pc := 4) X1 dX6_undo_4 ?_
    refine bo_getR (pc := 5) X1 dX6_undo_5 fX6_10 (by first | assumption | rfl) rfl (by first | assumption | rfl) ?_
    refine bo_V1i (pc := 8) X1 (c_X1_restoreN h1) vX1_restore lX6_183 rfl (by first | assumption | rfl) (by decide) dX6_undo_8 (by exact Nat.le_of_ble_eq_true rfl) ?_
    rintro _ _ ⟨h9, h8⟩
    obtain rfl := h9.symm
    obtain rfl := h8.symm
    refine bg_if_ne (pc := 11) X1 (tgt := 17) dX6_undo_11 (by decide) (fun u11 => ?_) (fun u11 => ?_)
    · exact absurd rfl u11
    · refine bg_ldc (pc := 14) X1 dX6_undo_14 kX6_182 (by decide) ?_
      exact bo_iret (pc := 16) X rfl dX6_undo_16 (fun hi => ⟨rfl, hX, frR.rf⟩)
  · have h1 := hX.2.1
    rw [e1] at h1
    rw [e2]
    refine bg_enter pnX6 (Nat.le_of_ble_eq_true rfl) (fun κ X hR hg => ?_)
    have X1 : bg_X κ y cX6_undo RX6 6 0 0 := X.1
    have hg : ∀ a k, R32 (g a k) := hg
    show bg_g κ y 0 [some (.inr 0)] [] g
    refine bg_aload0 (pc := 0) X1 dX6_undo_0 ?_
    refine bo_getR (pc := 1) X1 dX6_undo_1 fX6_19 (by first | assumption | rfl) rfl (by first | assumption | rfl) ?_
    refine bg_aload0 (pc := 4) X1 dX6_undo_4 ?_
    refine bo_getR (pc := 5) X1 dX6_undo_5 fX6_10 (by first | assumption | rfl) rfl (by first | assumption | rfl) ?_
    refine bo_V1i (pc := 8) X1 (c_X1_restore h1) vX1_restore lX6_183 rfl (by first | assumption | rfl) (by decide) dX6_undo_8 (by exact Nat.le_of_ble_eq_true rfl) ?_
    rintro r8 g1 ⟨z1, z2, z3, z4⟩
    subst z1
    refine bg_if_ne (pc := 11) X1 (tgt := 17) dX6_undo_11 (by decide) (fun u11 => ?_) (fun u11 => ?_)
    · refine bg_aload0 (pc := 17) X1 dX6_undo_17 ?_
      refine bo_getR (pc := 18) X1 dX6_undo_18 fX6_19 (by first | assumption | rfl) rfl (by first | assumption | rfl) ?_
      refine bo_V0i (pc := 21) X1 (c_X1_size) vX1_size lX6_187 rfl (by first | assumption | rfl) (by decide) dX6_undo_21 (by exact Nat.le_of_ble_eq_true rfl) ?_
      rintro _ _ ⟨h9, h8⟩
      obtain rfl := h9.symm
      obtain rfl := h8.symm
      clear h9 h8
      exact bo_iret (pc := 24) X rfl dX6_undo_24 (fun hi => by
          refine ⟨z2.1, ?_, z4.wide (by omega) (by omega)⟩
          obtain ⟨h1, h2, h3, h4, ⟨h5, h6, h7, h8⟩, h9, h10, h11⟩ := hX
          exact ⟨z3, z2, by rw [z4 0 (by omega)]; exact h3, fun j T hj hT => (h4 j T hj hT).fr z4 (by omega), ⟨by rw [z4 148 (by omega)]; exact h5, h6, fun k hk => by rw [z4 149 (by omega)]; exact h7 k hk, h8⟩, fun k hk => by rw [z4 _ (by omega)]; exact h9 k hk, fun k hk => by rw [z4 _ (by omega)]; exact h10 k hk, fun k hk => by rw [z4 _ (by omega)]; exact h11 k hk⟩)
    · exact absurd u11 (by decide)
