/-! the model: the whole text is read -/
theorem c_X7_reads {y : bg_Y} {g : bg_E} {t : List Int} (hT : txM g t) : bg_Si y 3 mX7_reads [.inr 198] g (fun r g' => r = (prs t).1 ∧ g' 198 10 = ((prs t).2.1 : Int) ∧ (prs t).2.1 ≤ 100 ∧ (0 ≤ (prs t).1 → rdR g' (prs t).2.2) ∧ mres g g') := by
  have h4 := hT.2.2.2
  have lt1 : ∀ p, 0 ≤ chr t p → p < t.length := fun p hp => by
    rcases Nat.lt_or_ge p t.length with h | h
    · exact h
    · rw [chr_ge h] at hp; omega
  have bad : ∀ (g1 : bg_E) (q : Nat), prs t = (-1, q, []) → spR g1 t q → mres g g1 → (-1 : Int) = (prs t).1 ∧ g1 198 10 = ((prs t).2.1 : Int) ∧ (prs t).2.1 ≤ 100 ∧ (0 ≤ (prs t).1 → rdR g1 (prs t).2.2) ∧ mres g g1 := by
    intro g1 q e1 e2 e3
    rw [e1]
    exact ⟨rfl, e2.2.1, e2.R.2.1, fun h => absurd h (show ¬ (0 : Int) ≤ -1 by decide), e3⟩
  refine bg_enter pnX7 (Nat.le_of_ble_eq_true rfl) (fun κ X hR hg => ?_)
  have X1 : bg_X κ y cX7_reads RX7 3 0 0 := X.1
  have hg : ∀ a k, R32 (g a k) := hg
  show bg_g κ y 0 [some (.inr 198), none] [] g
  have tail : ∀ (g1 : bg_E) (p1 : Nat) (L : bm_Q) (d : Int), isHo d → spR g1 t p1 → rdR g1 L → mres g g1 → prs t = prs4 t d L (skp t p1) → bg_g κ y 89 [some (.inr 198), some (.inl d)] [] g1 := by
    intro g1 p1 L d hd hP hr hF hp
    refine bg_aload0 (pc := 89) X1 dX7_reads_89 ?_
    refine bg_bipush (pc := 90) X1 dX7_reads_90 rfl (by decide) ?_
    refine bg_bipush (pc := 92) X1 dX7_reads_92 rfl (by decide) ?_
    refine bo_V2i (pc := 94) X1 (c_X7_isAt hP (by decide)) vX7_isAt lX7_126 rfl (by first | assumption | rfl) (by decide) dX7_reads_94 (by exact Nat.le_of_ble_eq_true rfl) ?_
    rintro r94 g2 ⟨z1, P2, f2⟩
    subst z1
    have F2 := hF.tr f2.M
    have R2 := hr.S f2
    refine bo_ifne_b (pc := 97) X1 (tgt := 102) dX7_reads_97 (by decide) (fun u97 => ?a97) (fun u97 => ?b97)
    case b97 =>
      refine bg_iconst (pc := 100) X1 dX7_reads_100 (by decide) ?_
      exact bo_iret (pc := 101) X rfl dX7_reads_101 (fun hi => bad g2 _ (by rw [hp]; unfold prs4; rw [if_neg (by omega)]) P2 F2)
    have u97 : chr t (skp t p1) = 59 := by omega
    have hlt := lt1 _ (show 0 ≤ chr t (skp t p1) by omega)
    obtain ⟨r1, r2, r3, r4, r5⟩ := P2.R
    refine bg_aload0 (pc := 102) X1 dX7_reads_102 ?_
    refine bg_dup (pc := 103) X1 dX7_reads_103 ?_
    refine bo_getI (pc := 104) X1 dX7_reads_104 fX7_120 (by first | assumption | rfl) rfl ?_
    rw [r1]
    refine bg_iconst (pc := 107) X1 dX7_reads_107 (by decide) ?_
    refine bg_iadd (pc := 108) X1 dX7_reads_108 (by omega) ?_
    refine bo_putI (pc := 109) X1 dX7_reads_109 fX7_120 (by first | assumption | rfl) rfl ?_
    have P3 : spR (bg_up g2 198 10 (((skp t p1 : Nat) : Int) + 1)) t (skp t p1 + 1) := P2.up (by omega) (by omega)
    have F3 := F2.up (a := 198) (k := 10) (v := ((skp t p1 : Nat) : Int) + 1) (by omega)
    refine bg_aload0 (pc := 112) X1 dX7_reads_112 ?_
    refine bg_iconst (pc := 113) X1 dX7_reads_113 (by decide) ?_
    refine bg_sipush (pc := 114) X1 dX7_reads_114 rfl (by decide) ?_
    refine bo_V2i (pc := 117) X1 (c_X7_isAt P3 (by decide)) vX7_isAt lX7_126 rfl (by first | assumption | rfl) (by decide) dX7_reads_117 (by exact Nat.le_of_ble_eq_true rfl) ?_
    rintro r117 g4 ⟨z1, P4, f4⟩
    subst z1
    have F4 := F3.tr f4.M
    have R4 : rdR g4 L := (R2.S (frS.rf.up)).S f4
    have e5 : prs t = prs5 t d L (skp t (skp t p1 + 1)) := by rw [hp]; unfold prs4; rw [if_pos u97]
    have cc := chr_ok h4 (p := skp t (skp t p1 + 1))
    refine bo_ifeq_b (pc := 120) X1 (tgt := 127) dX7_reads_120 (by decide) (fun u120 => ?a120) (fun u120 => ?b120)
    case b120 =>
      refine bg_iconst (pc := 123) X1 dX7_reads_123 (by decide) ?_
      refine bg_goto (pc := 124) X1 (tgt := 128) dX7_reads_124 (by decide) ?_
      have := lt1 _ u120.1
      exact bo_iret (pc := 128) X rfl dX7_reads_128 (fun hi => bad g4 _ (by rw [e5]; unfold prs5; rw [if_neg (by omega)]) P4 F4)
    have e6 : skp t (skp t p1 + 1) = t.length := by
      rcases Nat.lt_or_ge (skp t (skp t p1 + 1)) t.length with h | h
      · exact absurd ⟨cc.1 h, cc.2.2⟩ u120
      · have := P4.2.2; omega
    have e7 : prs t = (d, skp t (skp t p1 + 1), L) := by rw [e5]; unfold prs5; rw [if_pos e6]
    refine bg_iload1 (pc := 127) X1 dX7_reads_127 ?_
    exact bo_iret (pc := 128) X rfl dX7_reads_128 (fun hi => by rw [e7]; exact ⟨rfl, P4.2.1, P4.R.2.1, fun _ => R4, F4⟩)
  have loop : ∀ (n p0 p1 : Nat) (L : bm_Q) (g1 : bg_E) (d : Int), isHo d → L.length + n = 24 → spR g1 t p1 → rdR g1 L → mres g g1 → prs t = prs3 t d (prsB t n p1 L) → bg_g κ y 69 [some (.inr 198), some (.inl d)] [] g1 := by
    intro n
    induction n with
    | zero =>
      intro p0 p1 L g1 d hd hn hP hr hF hp
      have hp : prs t = prs4 t d L (skp t p1) := hp
      refine bg_aload0 (pc := 69) X1 dX7_reads_69 ?_
      refine bg_bipush (pc := 70) X1 dX7_reads_70 rfl (by decide) ?_
      refine bg_bipush (pc := 72) X1 dX7_reads_72 rfl (by decide) ?_
      refine bo_V2i (pc := 74) X1 (c_X7_isAt hP (by decide)) vX7_isAt lX7_126 rfl (by first | assumption | rfl) (by decide) dX7_reads_74 (by exact Nat.le_of_ble_eq_true rfl) ?_
      rintro r74 g2 ⟨z1, P2, f2⟩
      subst z1
      have F2 := hF.tr f2.M
      have R2 := hr.S f2
      refine bo_ifeq_b (pc := 77) X1 (tgt := 89) dX7_reads_77 (by decide) (fun u77 => ?a77) (fun u77 => ?b77)
      case a77 => exact tail g2 _ L d hd P2 R2 F2 (by rw [skp_id hP.2.2]; exact hp)
      refine bg_aload0 (pc := 80) X1 dX7_reads_80 ?_
      refine bo_V0i (pc := 81) X1 (c_X7_readsBed P2 R2 (by omega)) vX7_readsBed lX7_129 rfl (by first | assumption | rfl) (by decide) dX7_reads_81 (by exact Nat.le_of_ble_eq_true rfl) ?_
      rintro r81 g3 ⟨z2, z3, f3⟩
      have z4 : r81 = 0 ∧ spR g3 t (skp t p1) := by
        rcases z3 with h | h | h
        · exact h.2
        · have := h.1; omega
        · have := h.1; omega
      refine bg_if_ne (pc := 84) X1 (tgt := 69) dX7_reads_84 (by decide) (fun u84 => ?_) (fun u84 => ?_)
      · exact absurd z4.1 u84
      · refine bg_iconst (pc := 87) X1 dX7_reads_87 (by decide) ?_
        exact bo_iret (pc := 88) X rfl dX7_reads_88 (fun hi => bad g3 _ (by rw [hp]; unfold prs4; rw [if_neg (by omega)]) z4.2 (F2.tr f3))
    | succ n ih =>
      intro p0 p1 L g1 d hd hn hP hr hF hp
      rw [prsB] at hp
      refine bg_aload0 (pc := 69) X1 dX7_reads_69 ?_
      refine bg_bipush (pc := 70) X1 dX7_reads_70 rfl (by decide) ?_
      refine bg_bipush (pc := 72) X1 dX7_reads_72 rfl (by decide) ?_
      refine bo_V2i (pc := 74) X1 (c_X7_isAt hP (by decide)) vX7_isAt lX7_126 rfl (by first | assumption | rfl) (by decide) dX7_reads_74 (by exact Nat.le_of_ble_eq_true rfl) ?_
      rintro r74 g2 ⟨z1, P2, f2⟩
      subst z1
      have F2 := hF.tr f2.M
      have R2 := hr.S f2
      refine bo_ifeq_b (pc := 77) X1 (tgt := 89) dX7_reads_77 (by decide) (fun u77 => ?c77) (fun u77 => ?d77)
      case c77 =>
        rw [if_pos (show ¬ isMa (chr t (skp t p1) - 97) by omega)] at hp
        exact tail g2 _ L d hd P2 R2 F2 hp
      rw [if_neg (show ¬ ¬ isMa (chr t (skp t p1) - 97) by omega)] at hp
      refine bg_aload0 (pc := 80) X1 dX7_reads_80 ?_
      refine bo_V0i (pc := 81) X1 (c_X7_readsBed P2 R2 (by omega)) vX7_readsBed lX7_129 rfl (by first | assumption | rfl) (by decide) dX7_reads_81 (by exact Nat.le_of_ble_eq_true rfl) ?_
      rintro r81 g3 ⟨z2, z3, f3⟩
      obtain ⟨q, hq⟩ : ∃ q, q = prsT t (skp t (skp t p1 + 1)) := ⟨_, rfl⟩
      rw [← hq] at z3 hp
      refine bg_if_ne (pc := 84) X1 (tgt := 69) dX7_reads_84 (by decide) (fun u84 => ?_) (fun u84 => ?_)
      · have z5 : L.length < 24 ∧ ¬ q.1 = 0 ∧ spR g3 t q.2 ∧ rdR g3 (L ++ [(chr t (skp t p1) - 97, q.1)]) := by
          rcases z3 with h | h | h
          · exact absurd h.2.1 u84
          · exact absurd h.2.2.1 u84
          · exact ⟨h.1, h.2.1, h.2.2.2⟩
        rw [if_neg z5.2.1] at hp
        exact ih p0 _ _ g3 d hd (by rw [List.length_append, List.length_singleton]; omega) z5.2.2.1 z5.2.2.2 (F2.tr f3) hp
      · have z5 : q.1 = 0 ∧ spR g3 t q.2 := by
          rcases z3 with h | h | h
          · have := h.1; omega
          · exact ⟨h.2.1, h.2.2.2⟩
          · have := h.2.2.1; omega
        rw [if_pos z5.1] at hp
        refine bg_iconst (pc := 87) X1 dX7_reads_87 (by decide) ?_
        exact bo_iret (pc := 88) X rfl dX7_reads_88 (fun hi => bad g3 _ (by rw [hp]; rfl) z5.2 (F2.tr f3))
  refine bg_aload0 (pc := 0) X1 dX7_reads_0 ?_
  refine bg_iconst (pc := 1) X1 dX7_reads_1 (by decide) ?_
  refine bo_putI (pc := 2) X1 dX7_reads_2 fX7_120 (by first | assumption | rfl) rfl ?_
  refine bg_aload0 (pc := 5) X1 dX7_reads_5 ?_
  refine bg_iconst (pc := 6) X1 dX7_reads_6 (by decide) ?_
  refine bo_putI (pc := 7) X1 dX7_reads_7 fX7_123 (by first | assumption | rfl) rfl ?_
  have F0 : mres g (bg_up (bg_up g 198 10 0) 198 11 0) := (mres.rf.up (by omega)).up (by omega)
  have P0 : spR (bg_up (bg_up g 198 10 0) 198 11 0) t 0 := ⟨hT.cg (F0 198 7 (by decide)) (F0.at (by decide)), by rw [up_k (by decide), up_eq]; rfl, Nat.zero_le _⟩
  have R0 : rdR (bg_up (bg_up g 198 10 0) 198 11 0) [] := ⟨up_eq, Nat.zero_le _, fun k hk => absurd hk (Nat.not_lt_zero _)⟩
  refine bg_aload0 (pc := 10) X1 dX7_reads_10 ?_
  refine bg_bipush (pc := 11) X1 dX7_reads_11 rfl (by decide) ?_
  refine bg_bipush (pc := 13) X1 dX7_reads_13 rfl (by decide) ?_
  refine bo_V2i (pc := 15) X1 (c_X7_isAt P0 (by decide)) vX7_isAt lX7_126 rfl (by first | assumption | rfl) (by decide) dX7_reads_15 (by exact Nat.le_of_ble_eq_true rfl) ?_
  rintro r15 g1 ⟨z1, P1, f1⟩
  subst z1
  have F1 := F0.tr f1.M
  have R1 := R0.S f1
  refine bo_ifne_b (pc := 18) X1 (tgt := 23) dX7_reads_18 (by decide) (fun u18 => ?a18) (fun u18 => ?b18)
  case b18 =>
    refine bg_iconst (pc := 21) X1 dX7_reads_21 (by decide) ?_
    exact bo_iret (pc := 22) X rfl dX7_reads_22 (fun hi => bad g1 _ (by unfold prs; rw [if_neg (by omega)]) P1 F1)
  have hd : isHo (chr t (skp t 0) - 48) := by omega
  have hlt := lt1 _ (show 0 ≤ chr t (skp t 0) by omega)
  obtain ⟨r1, r2, r3, r4, r5⟩ := P1.R
  have c1 : g1 203 (skp t 0) = chr t (skp t 0) := P1.1.2.2.1 _ hlt
  have q1 : prs t = prs2 t (chr t (skp t 0) - 48) (skp t (skp t 0 + 1)) := by unfold prs; rw [if_pos hd]
  refine bg_aload0 (pc := 23) X1 dX7_reads_23 ?_
  refine bo_getR (pc := 24) X1 dX7_reads_24 fX7_22 (by first | assumption | rfl) rfl (by first | assumption | rfl) ?_
  refine bg_aload0 (pc := 27) X1 dX7_reads_27 ?_
  refine bo_getI (pc := 28) X1 dX7_reads_28 fX7_120 (by first | assumption | rfl) rfl ?_
  rw [r1]
  refine bo_iaload (pc := 31) X1 dX7_reads_31 (by first | assumption | rfl) (by omega) ?_
  rw [Int.toNat_natCast, c1]
  refine bg_bipush (pc := 32) X1 dX7_reads_32 rfl (by decide) ?_
  refine bg_isub (pc := 34) X1 dX7_reads_34 (by omega) ?_
  refine bg_istore1 (pc := 35) X1 dX7_reads_35 ?_
  refine bg_aload0 (pc := 36) X1 dX7_reads_36 ?_
  refine bg_dup (pc := 37) X1 dX7_reads_37 ?_
  refine bo_getI (pc := 38) X1 dX7_reads_38 fX7_120 (by first | assumption | rfl) rfl ?_
  rw [r1]
  refine bg_iconst (pc := 41) X1 dX7_reads_41 (by decide) ?_
  refine bg_iadd (pc := 42) X1 dX7_reads_42 (by omega) ?_
  refine bo_putI (pc := 43) X1 dX7_reads_43 fX7_120 (by first | assumption | rfl) rfl ?_
  have P2 : spR (bg_up g1 198 10 (((skp t 0 : Nat) : Int) + 1)) t (skp t 0 + 1) := P1.up (by omega) (by omega)
  have F2 := F1.up (a := 198) (k := 10) (v := ((skp t 0 : Nat) : Int) + 1) (by omega)
  have R2 := R1.S (frS.rf.up (v := ((skp t 0 : Nat) : Int) + 1))
  refine bg_aload0 (pc := 46) X1 dX7_reads_46 ?_
  refine bg_bipush (pc := 47) X1 dX7_reads_47 rfl (by decide) ?_
  refine bg_bipush (pc := 49) X1 dX7_reads_49 rfl (by decide) ?_
  refine bo_V2i (pc := 51) X1 (c_X7_isAt P2 (by decide)) vX7_isAt lX7_126 rfl (by first | assumption | rfl) (by decide) dX7_reads_51 (by exact Nat.le_of_ble_eq_true rfl) ?_
  rintro r51 g3 ⟨z1, P3, f3⟩
  subst z1
  have F3 := F2.tr f3.M
  have R3 := R2.S f3
  refine bo_ifne_b (pc := 54) X1 (tgt := 59) dX7_reads_54 (by decide) (fun u54 => ?a54) (fun u54 => ?b54)
  case b54 =>
    refine bg_iconst (pc := 57) X1 dX7_reads_57 (by decide) ?_
    exact bo_iret (pc := 58) X rfl dX7_reads_58 (fun hi => bad g3 _ (by rw [q1]; unfold prs2; rw [if_neg (by omega)]) P3 F3)
  have u54 : chr t (skp t (skp t 0 + 1)) = 58 := by omega
  have hlt2 := lt1 _ (show 0 ≤ chr t (skp t (skp t 0 + 1)) by omega)
  obtain ⟨w1, w2, w3, w4, w5⟩ := P3.R
  have q2 : prs t = prs3 t (chr t (skp t 0) - 48) (prsB t 24 (skp t (skp t 0 + 1) + 1) []) := by rw [q1]; unfold prs2; rw [if_pos u54]
  refine bg_aload0 (pc := 59) X1 dX7_reads_59 ?_
  refine bg_dup (pc := 60) X1 dX7_reads_60 ?_
  refine bo_getI (pc := 61) X1 dX7_reads_61 fX7_120 (by first | assumption | rfl) rfl ?_
  rw [w1]
  refine bg_iconst (pc := 64) X1 dX7_reads_64 (by decide) ?_
  refine bg_iadd (pc := 65) X1 dX7_reads_65 (by omega) ?_
  refine bo_putI (pc := 66) X1 dX7_reads_66 fX7_120 (by first | assumption | rfl) rfl ?_
  exact loop 24 0 (skp t (skp t 0 + 1) + 1) [] _ _ hd rfl (P3.up (by omega) (by omega)) (R3.S frS.rf.up) (F3.up (by omega)) q2
theorem c_X7_load {y : bg_Y} {g : bg_E} {Z : bm_X} (hM : modR g Z) (ok : okX Z) : bg_Si y 6 mX7_load [.inr 198] g (fun r g' => r = (xLoad Z).1 ∧ modR g' (xLoad Z).2 ∧ frR 198 214 g g') := by
  have pk := prs_ok (t := Z.2.2.2)
  obtain ⟨R, hRe⟩ : ∃ R, R = prs Z.2.2.2 := ⟨_, rfl⟩
  rw [← hRe] at pk
  have eL : xLoad Z = if 0 ≤ R.1 then ((R.2.2.length : Int), (sBook (sBed (sBook Z.1 2 (dep (qH Z R.1) (qH Z R.1).length)) R.1.toNat R.2.2) 1 (dep R.2.2 R.2.2.length), hPush Z.2.1 Z.1, Z.2.2.1, [])) else (-2000000 - (R.2.1 : Int), Z) := by rw [hRe]; rfl
  have ok2 : isHo R.1 → staOK (sBed (sBook Z.1 2 (dep (qH Z R.1) (qH Z R.1).length)) R.1.toNat R.2.2) := fun hh => stB_OK (stA_OK ok.1) ⟨pk.1, pk.2.1⟩
  refine bg_enter pnX7 (Nat.le_of_ble_eq_true rfl) (fun κ X hR hg => ?_)
  have X1 : bg_X κ y cX7_load RX7 6 0 0 := X.1
  have hg : ∀ a k, R32 (g a k) := hg
  show bg_g κ y 0 [some (.inr 198), none, none] [] g
  -- the copying of the beds
  have loop : ∀ (g2 : bg_E) (n k : Nat), isHo R.1 → R.2.2.length ≤ 24 → g2 198 11 = (R.2.2.length : Int) → k + n = 2 * R.2.2.length → (∀ l2 : Option bg_V, bg_g κ y 80 [some (.inr 198), some (.inl R.1), l2] [] (cp g2 199 (18 + 48 * R.1.toNat) 205 0 (2 * R.2.2.length))) → bg_g κ y 46 [some (.inr 198), some (.inl R.1), some (.inl (k : Int))] [] (cp g2 199 (18 + 48 * R.1.toNat) 205 0 k) := by
    intro g2 n
    induction n with
    | zero =>
      intro k hh hl e11 hk kk
      obtain rfl : k = 2 * R.2.2.length := by omega
      refine bg_iload2 (pc := 46) X1 dX7_load_46 ?_
      refine bg_iconst (pc := 47) X1 dX7_load_47 (by decide) ?_
      refine bg_aload0 (pc := 48) X1 dX7_load_48 ?_
      refine bo_getI (pc := 49) X1 dX7_load_49 fX7_123 (by first | assumption | rfl) rfl ?_
      rw [cp_a (by decide), e11]
      refine bg_imul (pc := 52) X1 dX7_load_52 (by omega) ?_
      refine bg_icmp_ge (pc := 53) X1 (tgt := 80) dX7_load_53 (by decide) (fun u53 => ?_) (fun u53 => ?_)
      · exact kk _
      · exfalso; omega
    | succ n ih =>
      intro k hh hl e11 hk kk
      refine bg_iload2 (pc := 46) X1 dX7_load_46 ?_
      refine bg_iconst (pc := 47) X1 dX7_load_47 (by decide) ?_
      refine bg_aload0 (pc := 48) X1 dX7_load_48 ?_
      refine bo_getI (pc := 49) X1 dX7_load_49 fX7_123 (by first | assumption | rfl) rfl ?_
      rw [cp_a (by decide), e11]
      refine bg_imul (pc := 52) X1 dX7_load_52 (by omega) ?_
      refine bg_icmp_ge (pc := 53) X1 (tgt := 80) dX7_load_53 (by decide) (fun u53 => ?_) (fun u53 => ?_)
      · exfalso; omega
      · refine bg_aload0 (pc := 56) X1 dX7_load_56 ?_
        refine bo_getR (pc := 57) X1 dX7_load_57 fX7_7 (by first | assumption | rfl) rfl (by first | assumption | rfl) ?_
        refine bg_iload1 (pc := 60) X1 dX7_load_60 ?_
        refine bg_iconst (pc := 61) X1 dX7_load_61 (by decide) ?_
        refine bo_S2i (pc := 62) X1 (c_X7_at hh (by omega)) sX7_at lX7_67 rfl (by decide) dX7_load_62 (by exact Nat.le_of_ble_eq_true rfl) ?_
        rintro _ _ ⟨h9, h8⟩
        obtain rfl := h9.symm
        obtain rfl := h8.symm
        clear h9 h8
        refine bg_iload2 (pc := 65) X1 dX7_load_65 ?_
        refine bg_iadd (pc := 66) X1 dX7_load_66 (by omega) ?_
        refine bg_aload0 (pc := 67) X1 dX7_load_67 ?_
        refine bo_getR (pc := 68) X1 dX7_load_68 fX7_28 (by first | assumption | rfl) rfl (by first | assumption | rfl) ?_
        refine bg_iload2 (pc := 71) X1 dX7_load_71 ?_
        refine bo_iaload (pc := 72) X1 dX7_load_72 (by first | assumption | rfl) (by omega) ?_
        refine bo_iastore (pc := 73) X1 dX7_load_73 (by first | assumption | rfl) (by omega) ?_
        refine bg_iinc2 (pc := 74) X1 dX7_load_74 (by omega) ?_
        refine bg_goto (pc := 77) X1 (tgt := 46) dX7_load_77 (by decide) ?_
        rw [cp_s (Or.inl (by decide)) (by omega) (by omega)]
        exact ih (k + 1) hh hl e11 (by omega) kk
  have tail80 : ∀ (l2 : Option bg_V) (g2 g4 : bg_E), ∀ {g1 : bg_E}, isHo R.1 → hisM g2 (hPush Z.2.1 Z.1) → sfr g1 g2 → (∀ x, ¬ x = 199 → g4 x = g2 x) → rowR (g4 199) (sBed (sBook Z.1 2 (dep (sq Z.1 R.1) (sq Z.1 R.1).length)) R.1.toNat R.2.2) → g4 198 11 = (R.2.2.length : Int) → mres g g1 → bg_g κ y 80 [some (.inr 198), some (.inl R.1), l2] [] g4 := by
    intro l2 g2 g4 g1 hh x1 x2 f4 hS4 e11 F1
    have hM1 := hM.cg F1
    have eq4 : sq (sBed (sBook Z.1 2 (dep (sq Z.1 R.1) (sq Z.1 R.1).length)) R.1.toNat R.2.2) R.1 = R.2.2 := fup_eq
    refine bg_aload0 (pc := 80) X1 dX7_load_80 ?_
    refine bg_iconst (pc := 81) X1 dX7_load_81 (by decide) ?_
    refine bg_aload0 (pc := 82) X1 dX7_load_82 ?_
    refine bg_iload1 (pc := 83) X1 dX7_load_83 ?_
    refine bo_V1i (pc := 84) X1 (c_X7_length hS4 (ok2 hh) hh) vX7_length lX7_110 rfl (by first | assumption | rfl) (by decide) dX7_load_84 (by exact Nat.le_of_ble_eq_true rfl) ?_
    rintro _ _ ⟨h9, h8⟩
    obtain rfl := h9.symm
    obtain rfl := h8.symm
    clear h9 h8
    rw [eq4]
    refine bo_V2v (pc := 87) X1 (c_X7_comes (by decide)) vX7_comes lX7_96 rfl (by first | assumption | rfl) (by decide) dX7_load_87 (by exact Nat.le_of_ble_eq_true rfl) ?_
    rintro _ h8
    obtain rfl := h8.symm
    clear h8
    refine bg_aload0 (pc := 90) X1 dX7_load_90 ?_
    refine bg_iconst (pc := 91) X1 dX7_load_91 (by decide) ?_
    refine bo_putI (pc := 92) X1 dX7_load_92 fX7_117 (by first | assumption | rfl) rfl ?_
    refine bg_aload0 (pc := 95) X1 dX7_load_95 ?_
    refine bo_getI (pc := 96) X1 dX7_load_96 fX7_123 (by first | assumption | rfl) rfl ?_
    exact bo_iret (pc := 99) X rfl dX7_load_99 (fun hi => by
        rw [eL, if_pos (by omega), up_k (by decide), up_a (by decide), e11]
        obtain ⟨p1, p2⟩ := hM1.put (g2 := bg_up g4 199 (13 + (1 : Int).toNat) (bg_wr (g4 199 (13 + (1 : Int).toNat) + dep R.2.2 R.2.2.length))) (S := sBook (sBed (sBook Z.1 2 (dep (sq Z.1 R.1) (sq Z.1 R.1).length)) R.1.toNat R.2.2) 1 (dep R.2.2 R.2.2.length)) x1 x2 (fun x hx => by rw [bg_up_ne hx, f4 x hx]) (by rw [up_F]; exact hS4.book (a := 1) (by decide))
        obtain ⟨m1, m2, m3, m4⟩ := p1
        refine ⟨rfl, ⟨by rw [bg_up_ne (by decide)]; exact m1, m2.cg (up_k (by decide)) (bg_up_ne (by decide)), m3.cg (up_k (by decide)) (bg_up_ne (by decide)), tx0 up_eq⟩, fun x hx => ?_⟩
        rw [bg_up_ne (by omega)]
        exact (F1.F.tr p2) x hx)
  refine bg_aload0 (pc := 0) X1 dX7_load_0 ?_
  refine bo_V0i (pc := 1) X1 (c_X7_reads hM.2.2.2) vX7_reads lX7_133 rfl (by first | assumption | rfl) (by decide) dX7_load_1 (by exact Nat.le_of_ble_eq_true rfl) ?_
  rintro r1 g1 ⟨z1, z2, z3, z4, F1⟩
  subst z1
  rw [← hRe] at z2 z3 z4
  rw [← hRe]
  have hM1 := hM.cg F1
  refine bg_istore1 (pc := 4) X1 dX7_load_4 ?_
  refine bg_iload1 (pc := 5) X1 dX7_load_5 ?_
  refine bg_if_ge (pc := 6) X1 (tgt := 17) dX7_load_6 (by decide) (fun u6 => ?_) (fun u6 => ?_)
  · have hh : isHo R.1 := by rcases pk.2.2 with h | h; (· omega); (· exact h)
    have hrd := z4 (by omega)
    have ql := (sq_OK ok.1 hh).2
    refine bg_aload0 (pc := 17) X1 dX7_load_17 ?_
    refine bo_V0v (pc := 18) X1 (c_X7_saves hM1 ok) vX7_saves lX7_77 rfl (by first | assumption | rfl) (by decide) dX7_load_18 (by exact Nat.le_of_ble_eq_true rfl) ?_
    rintro g2 ⟨x1, x2⟩
    have e199 : g2 199 = g1 199 := x2.at (by decide) (by decide)
    have hS1 : rowR (g2 199) Z.1 := by rw [e199]; exact hM1.1
    have hrd2 : rdR g2 R.2.2 := hrd.cg (x2 198 11 (by decide) (by decide)) (fun k _ => x2 205 k (by omega) (by omega))
    refine bg_aload0 (pc := 21) X1 dX7_load_21 ?_
    refine bg_iconst (pc := 22) X1 dX7_load_22 (by decide) ?_
    refine bg_aload0 (pc := 23) X1 dX7_load_23 ?_
    refine bg_iload1 (pc := 24) X1 dX7_load_24 ?_
    refine bo_V1i (pc := 25) X1 (c_X7_length hS1 ok.1 hh) vX7_length lX7_110 rfl (by first | assumption | rfl) (by decide) dX7_load_25 (by exact Nat.le_of_ble_eq_true rfl) ?_
    rintro _ _ ⟨h9, h8⟩
    obtain rfl := h9.symm
    obtain rfl := h8.symm
    clear h9 h8
    refine bo_V2v (pc := 28) X1 (c_X7_comes (by decide)) vX7_comes lX7_96 rfl (by first | assumption | rfl) (by decide) dX7_load_28 (by exact Nat.le_of_ble_eq_true rfl) ?_
    rintro _ h8
    obtain rfl := h8.symm
    clear h8
    obtain ⟨g3, hg3⟩ : ∃ g3, g3 = bg_up g2 199 (13 + (2 : Int).toNat) (bg_wr (g2 199 (13 + (2 : Int).toNat) + dep (sq Z.1 R.1) (sq Z.1 R.1).length)) := ⟨_, rfl⟩
    rw [← hg3]
    have hS3 : rowR (g3 199) (sBook Z.1 2 (dep (sq Z.1 R.1) (sq Z.1 R.1).length)) := by rw [hg3, up_F]; exact hS1.book (a := 2) (by decide)
    have f3 : ∀ x, ¬ x = 199 → g3 x = g2 x := fun x hx => by rw [hg3]; exact bg_up_ne hx
    have e11 : g3 198 11 = (R.2.2.length : Int) := by rw [f3 198 (by decide)]; exact hrd2.1
    refine bg_aload0 (pc := 31) X1 dX7_load_31 ?_
    refine bo_getR (pc := 32) X1 dX7_load_32 fX7_7 (by first | assumption | rfl) rfl (by first | assumption | rfl) ?_
    refine bg_bipush (pc := 35) X1 dX7_load_35 rfl (by decide) ?_
    refine bg_iload1 (pc := 37) X1 dX7_load_37 ?_
    refine bg_iadd (pc := 38) X1 dX7_load_38 (by omega) ?_
    refine bg_aload0 (pc := 39) X1 dX7_load_39 ?_
    refine bo_getI (pc := 40) X1 dX7_load_40 fX7_123 (by first | assumption | rfl) rfl ?_
    rw [e11]
    refine bo_iastore (pc := 43) X1 dX7_load_43 (by first | assumption | rfl) (by omega) ?_
    refine bg_iconst (pc := 44) X1 dX7_load_44 (by decide) ?_
    refine bg_istore2 (pc := 45) X1 dX7_load_45 ?_
    have hh3 : ∀ l2 : Option bg_V, bg_g κ y 80 [some (.inr 198), some (.inl R.1), l2] [] (cp (bg_up g3 199 (10 + R.1).toNat (R.2.2.length : Int)) 199 (18 + 48 * R.1.toNat) 205 0 (2 * R.2.2.length)) := by
      intro l2
      have f4 : ∀ x, ¬ x = 199 → (cp (bg_up g3 199 (10 + R.1).toNat (R.2.2.length : Int)) 199 (18 + 48 * R.1.toNat) 205 0 (2 * R.2.2.length)) x = g2 x := fun x hx => by rw [cp_A hx, bg_up_ne hx, f3 x hx]
      have hS4 : rowR ((cp (bg_up g3 199 (10 + R.1).toNat (R.2.2.length : Int)) 199 (18 + 48 * R.1.toNat) 205 0 (2 * R.2.2.length)) 199) (sBed (sBook Z.1 2 (dep (sq Z.1 R.1) (sq Z.1 R.1).length)) R.1.toNat R.2.2) := by
        have q24 := pk.2.1
        refine hS3.bed (ok_len (stA_OK ok.1)) (by omega) ?_ (fun j hj => ?_) (fun j h1 h2 => ?_)
        · rw [cp_o (by omega), up_e (by omega)]
        · have h205 : ∀ j, (bg_up g3 199 (10 + R.1).toNat (R.2.2.length : Int)) 205 j = g2 205 j := fun j => by rw [up_a (by decide), f3 205 (by decide)]
          exact ⟨by rw [cp_i (j' := 2 * j) (by omega) (by omega), h205]; exact (hrd2.2.2 j hj).1, by rw [cp_i (j' := 2 * j + 1) (by omega) (by omega), h205]; exact (hrd2.2.2 j hj).2⟩
        · rw [cp_o (by omega), up_k (by omega)]
      generalize cp (bg_up g3 199 (10 + R.1).toNat (R.2.2.length : Int)) 199 (18 + 48 * R.1.toNat) 205 0 (2 * R.2.2.length) = g4 at f4 hS4 ⊢
      exact tail80 l2 g2 g4 hh x1 x2 f4 hS4 (by rw [f4 198 (by decide)]; exact hrd2.1) F1
    have := loop (bg_up g3 199 (10 + R.1).toNat (R.2.2.length : Int)) (2 * R.2.2.length) 0 hh pk.2.1 (by rw [up_a (by decide)]; exact e11) (by omega) hh3
    rw [cp_0] at this
    exact this
  · refine bg_ldc (pc := 9) X1 dX7_load_9 kX7_137 (by decide) ?_
    refine bg_aload0 (pc := 11) X1 dX7_load_11 ?_
    refine bo_getI (pc := 12) X1 dX7_load_12 fX7_120 (by first | assumption | rfl) rfl ?_
    rw [z2]
    refine bg_isub (pc := 15) X1 dX7_load_15 (by omega) ?_
    exact bo_iret (pc := 16) X rfl dX7_load_16 (fun hi => by rw [eL, if_neg (by omega)]; exact ⟨rfl, hM1, F1.F⟩)
