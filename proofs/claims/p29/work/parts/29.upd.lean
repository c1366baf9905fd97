/-! the class's calls that change something -/
theorem bg_least_R : ∀ n, R32 (bg_least n) := fun n => by unfold bg_least; split <;> decide
theorem bg_most_R : ∀ n, R32 (bg_most n) := fun n => by unfold bg_most; split <;> decide
theorem clsR.put2 {g g1 g2 : bg_E} {Z : bm_X} {S : bm_S} (h : clsR g Z) (hh : histR g1 (hPush Z.2.1 Z.1)) (f1 : frR 17 115 g g1) (f2 : frR 1 17 g1 g2) (hS : staR g2 1 S) : clsR g2 (xPut Z S) ∧ frR 0 198 g g2 :=
  ⟨h.put hh f1 f2 hS, (f1.wide (by omega) (by omega)).tr (f2.wide (by omega) (by omega))⟩
theorem staR.coll {g : bg_E} {b : Nat} {S : bm_S} {h : Nat} {v : Int} (hS : staR g b S) (hh : h < 4) : staR (bg_up g (b + 3 + 3 * h) 0 v) b (sCol S h v) := by
  obtain ⟨h1, h2, h3, h4⟩ := hS
  refine ⟨fun k hk => by rw [bg_up_ne (by omega)]; exact h1 k hk, by rw [bg_up_ne (by omega)]; exact h2, fun j hj => ?_, fun a h5 h6 => by rw [bg_up_ne (by omega)]; exact h4 a h5 h6⟩
  by_cases hjh : j = h
  · subst hjh
    exact ⟨by rw [up_eq]; exact fup_eq.symm, (h3 j hj).2.up0⟩
  · exact ⟨by rw [up_a (by omega)]; exact (h3 j hj).1.trans (fup_ne hjh).symm, (h3 j hj).2.up (by omega)⟩
theorem has_I {g : bg_E} {c : Nat} {q : bm_Q} {b : Int} (h : colR g c q) : hasP g c b ↔ 0 ≤ b ∧ b < (q.length : Int) := by
  have h1 := h.1
  have h2 := h.2.1
  omega
theorem th_I {g : bg_E} {c : Nat} {q : bm_Q} {b : Int} (h : colR g c q) (hb : 0 ≤ b ∧ b < (q.length : Int)) : (if hasP g c b then g (c + 2) b.toNat else 0) = th q b.toNat := by
  rw [if_pos ((has_I h).mpr hb)]
  exact (h.2.2 _ (by omega)).2
theorem mk_I {g : bg_E} {c : Nat} {q : bm_Q} {b : Int} (h : colR g c q) (hb : 0 ≤ b ∧ b < (q.length : Int)) : (if hasP g c b then g (c + 1) b.toNat else -1000009) = mrk q b.toNat := by
  rw [if_pos ((has_I h).mpr hb)]
  exact (h.2.2 _ (by omega)).1
theorem colR.set {g : bg_E} {c i : Nat} {q : bm_Q} {t : Int} (h : colR g c q) (hi : i < q.length) : colR (bg_up g (c + 2) i t) c (q.set i (mrk q i, t)) := by
  obtain ⟨h1, h2, h3⟩ := h
  refine ⟨by rw [up_a (by omega), List.length_set]; exact h1, by rw [List.length_set]; exact h2, fun k hk => ?_⟩
  rw [List.length_set] at hk
  have h4 := h3 k hk
  rw [up_a (show c + 1 ≠ c + 2 by omega)]
  simp only [mrk, th, set_get hi] at h4 ⊢
  by_cases hki : k = i
  · subst hki
    rw [up_eq, if_pos rfl]
    exact ⟨h4.1, rfl⟩
  · rw [up_k hki, if_neg hki]
    exact h4
theorem c_X6_setNumber {y : bg_Y} {g : bg_E} {w v : Int} {Z : bm_X} (hX : clsR g Z) : bg_Si y 6 mX6_setNumber [.inr 0, .inl w, .inl v] g (fun r g' => r = (xSetNumber Z w v).1 ∧ clsR g' (xSetNumber Z w v).2 ∧ frR 0 198 g g') := by
  have b1 : bg_sta 1 := bg_stas 1 (by simp)
  refine bg_enter pnX6 (Nat.le_of_ble_eq_true rfl) (fun κ X hR hg => ?_)
  have X1 : bg_X κ y cX6_setNumber RX6 6 0 0 := X.1
  have hg : ∀ a k, R32 (g a k) := hg
  show bg_g κ y 0 [some (.inr 0), some (.inl w), some (.inl v), none] [] g
  refine bg_iload1 (pc := 0) X1 dX6_setNumber_0 ?_
  refine bg_if_lt (pc := 1) X1 (tgt := 9) dX6_setNumber_1 (by decide) (fun u1 => ?_) (fun u1 => ?_)
  · refine bg_ldc (pc := 9) X1 dX6_setNumber_9 kX6_58 (by decide) ?_
    exact bo_iret (pc := 11) X rfl dX6_setNumber_11 (fun hi => by unfold xSetNumber; rw [if_neg (by omega)]; exact ⟨rfl, hX, frR.rf⟩)
  · refine bg_iload1 (pc := 4) X1 dX6_setNumber_4 ?_
    refine bg_iconst (pc := 5) X1 dX6_setNumber_5 (by decide) ?_
    refine bg_icmp_lt (pc := 6) X1 (tgt := 12) dX6_setNumber_6 (by decide) (fun u6 => ?_) (fun u6 => ?_)
    · refine bg_iload2 (pc := 12) X1 dX6_setNumber_12 ?_
      refine bg_stat (pc := 13) X1 (f := bg_least) dX6_setNumber_13 dX6_setNumber_16 dX6_setNumber_17 gX6_59 (fun h => h.2.2.2.2.1) (by omega) (bg_least_R _) ?_
      refine bg_icmp_lt (pc := 18) X1 (tgt := 30) dX6_setNumber_18 (by decide) (fun u18 => ?_) (fun u18 => ?_)
      · refine bg_ldc (pc := 30) X1 dX6_setNumber_30 kX6_58 (by decide) ?_
        exact bo_iret (pc := 32) X rfl dX6_setNumber_32 (fun hi => by unfold xSetNumber; rw [if_neg (by omega)]; exact ⟨rfl, hX, frR.rf⟩)
      · refine bg_iload2 (pc := 21) X1 dX6_setNumber_21 ?_
        refine bg_stat (pc := 22) X1 (f := bg_most) dX6_setNumber_22 dX6_setNumber_25 dX6_setNumber_26 gX6_63 (fun h => h.2.2.2.2.2) (by omega) (bg_most_R _) ?_
        refine bg_icmp_le (pc := 27) X1 (tgt := 33) dX6_setNumber_27 (by decide) (fun u27 => ?_) (fun u27 => ?_)
        · refine bg_aload0 (pc := 33) X1 dX6_setNumber_33 ?_
          refine bo_getR (pc := 34) X1 dX6_setNumber_34 fX6_19 (by first | assumption | rfl) rfl (by first | assumption | rfl) ?_
          refine bg_aload0 (pc := 37) X1 dX6_setNumber_37 ?_
          refine bo_getR (pc := 38) X1 dX6_setNumber_38 fX6_10 (by first | assumption | rfl) rfl (by first | assumption | rfl) ?_
          refine bo_V1v (pc := 41) X1 (c_X1_save hX.2.1 hX.1) vX1_save lX6_66 rfl (by first | assumption | rfl) (by decide) dX6_setNumber_41 (by exact Nat.le_of_ble_eq_true rfl) ?_
          rintro g1 ⟨x1, x2⟩
          have hS1 := hX.1.fr x2 (by omega)
          refine bg_aload0 (pc := 44) X1 dX6_setNumber_44 ?_
          refine bo_getR (pc := 45) X1 dX6_setNumber_45 fX6_10 (by first | assumption | rfl) rfl (by first | assumption | rfl) ?_
          refine bg_iload1 (pc := 48) X1 dX6_setNumber_48 ?_
          refine bo_V1i (pc := 49) X1 (c_X4_numberOf b1 hS1 (by omega)) vX4_numberOf lX6_70 rfl (by first | assumption | rfl) (by decide) dX6_setNumber_49 (by exact Nat.le_of_ble_eq_true rfl) ?_
          rintro _ _ ⟨h9, h8⟩
          obtain rfl := h9.symm
          obtain rfl := h8.symm
          clear h9 h8
          refine bg_istore3 (pc := 52) X1 dX6_setNumber_52 ?_
          refine bg_aload0 (pc := 53) X1 dX6_setNumber_53 ?_
          refine bo_getR (pc := 54) X1 dX6_setNumber_54 fX6_10 (by first | assumption | rfl) rfl (by first | assumption | rfl) ?_
          refine bg_iload1 (pc := 57) X1 dX6_setNumber_57 ?_
          refine bg_iload2 (pc := 58) X1 dX6_setNumber_58 ?_
          refine bo_V2v (pc := 59) X1 (c_X4_putNumber b1 hS1 (by omega)) vX4_putNumber lX6_74 rfl (by first | assumption | rfl) (by decide) dX6_setNumber_59 (by exact Nat.le_of_ble_eq_true rfl) ?_
          rintro g2 ⟨x3, x4⟩
          refine bg_iload3 (pc := 62) X1 dX6_setNumber_62 ?_
          exact bo_iret (pc := 63) X rfl dX6_setNumber_63 (fun hi => by
              unfold xSetNumber
              rw [if_pos (by omega)]
              exact ⟨rfl, hX.put2 x1 x2 x4 x3⟩)
        · refine bg_ldc (pc := 30) X1 dX6_setNumber_30 kX6_58 (by decide) ?_
          exact bo_iret (pc := 32) X rfl dX6_setNumber_32 (fun hi => by unfold xSetNumber; rw [if_neg (by omega)]; exact ⟨rfl, hX, frR.rf⟩)
    · refine bg_ldc (pc := 9) X1 dX6_setNumber_9 kX6_58 (by decide) ?_
      exact bo_iret (pc := 11) X rfl dX6_setNumber_11 (fun hi => by unfold xSetNumber; rw [if_neg (by omega)]; exact ⟨rfl, hX, frR.rf⟩)
theorem c_X6_setKey {y : bg_Y} {g : bg_E} {m i : Int} {Z : bm_X} (hX : clsR g Z) (ok : okX Z) : bg_Si y 6 mX6_setKey [.inr 0, .inl m, .inl i] g (fun r g' => r = (xSetKey Z m i).1 ∧ clsR g' (xSetKey Z m i).2 ∧ frR 0 198 g g') := by
  have b1 : bg_sta 1 := bg_stas 1 (by simp)
  have hK := ok.1.2.2.2.2.2.1
  refine bg_enter pnX6 (Nat.le_of_ble_eq_true rfl) (fun κ X hR hg => ?_)
  have X1 : bg_X κ y cX6_setKey RX6 6 0 0 := X.1
  have hg : ∀ a k, R32 (g a k) := hg
  show bg_g κ y 0 [some (.inr 0), some (.inl m), some (.inl i), none] [] g
  refine bg_iload1 (pc := 0) X1 dX6_setKey_0 ?_
  refine bo_S1i (pc := 1) X1 (c_X6_isMark) sX6_isMark lX6_78 rfl (by decide) dX6_setKey_1 (by exact Nat.le_of_ble_eq_true rfl) ?_
  rintro _ _ ⟨h9, h8⟩
  obtain rfl := h9.symm
  obtain rfl := h8.symm
  clear h9 h8
  refine bo_ifeq_b (pc := 4) X1 (tgt := 16) dX6_setKey_4 (by decide) (fun u4 => ?_) (fun u4 => ?_)
  · refine bg_ldc (pc := 16) X1 dX6_setKey_16 kX6_58 (by decide) ?_
    exact bo_iret (pc := 18) X rfl dX6_setKey_18 (fun hi => by unfold xSetKey; rw [if_neg (by omega)]; exact ⟨rfl, hX, frR.rf⟩)
  · refine bg_iload2 (pc := 7) X1 dX6_setKey_7 ?_
    refine bg_if_lt (pc := 8) X1 (tgt := 16) dX6_setKey_8 (by decide) (fun u8 => ?_) (fun u8 => ?_)
    · refine bg_ldc (pc := 16) X1 dX6_setKey_16 kX6_58 (by decide) ?_
      exact bo_iret (pc := 18) X rfl dX6_setKey_18 (fun hi => by unfold xSetKey; rw [if_neg (by omega)]; exact ⟨rfl, hX, frR.rf⟩)
    · refine bg_iload2 (pc := 11) X1 dX6_setKey_11 ?_
      refine bg_iconst (pc := 12) X1 dX6_setKey_12 (by decide) ?_
      refine bg_icmp_le (pc := 13) X1 (tgt := 19) dX6_setKey_13 (by decide) (fun u13 => ?_) (fun u13 => ?_)
      · refine bg_aload0 (pc := 19) X1 dX6_setKey_19 ?_
        refine bo_getR (pc := 20) X1 dX6_setKey_20 fX6_19 (by first | assumption | rfl) rfl (by first | assumption | rfl) ?_
        refine bg_aload0 (pc := 23) X1 dX6_setKey_23 ?_
        refine bo_getR (pc := 24) X1 dX6_setKey_24 fX6_10 (by first | assumption | rfl) rfl (by first | assumption | rfl) ?_
        refine bo_V1v (pc := 27) X1 (c_X1_save hX.2.1 hX.1) vX1_save lX6_66 rfl (by first | assumption | rfl) (by decide) dX6_setKey_27 (by exact Nat.le_of_ble_eq_true rfl) ?_
        rintro g1 ⟨x1, x2⟩
        have hS1 := hX.1.fr x2 (by omega)
        have k1 := kb_01 hK u4
        refine bg_aload0 (pc := 30) X1 dX6_setKey_30 ?_
        refine bo_getR (pc := 31) X1 dX6_setKey_31 fX6_10 (by first | assumption | rfl) rfl (by first | assumption | rfl) ?_
        refine bg_iload1 (pc := 34) X1 dX6_setKey_34 ?_
        refine bo_V1i (pc := 35) X1 (c_X4_isKey b1 (by rw [hS1.2.1]; exact hK) u4) vX4_isKey lX6_82 rfl (by first | assumption | rfl) (by decide) dX6_setKey_35 (by exact Nat.le_of_ble_eq_true rfl) ?_
        rintro _ _ ⟨h9, h8⟩
        obtain rfl := h9.symm
        obtain rfl := h8.symm
        clear h9 h8
        rw [hS1.2.1]
        refine bo_ifeq_b (pc := 38) X1 (tgt := 45) dX6_setKey_38 (by decide) (fun u38 => ?_) (fun u38 => ?_)
        · refine bg_iconst (pc := 45) X1 dX6_setKey_45 (by decide) ?_
          refine bg_istore3 (pc := 46) X1 dX6_setKey_46 ?_
          refine bg_aload0 (pc := 47) X1 dX6_setKey_47 ?_
          refine bo_getR (pc := 48) X1 dX6_setKey_48 fX6_10 (by first | assumption | rfl) rfl (by first | assumption | rfl) ?_
          refine bg_iload1 (pc := 51) X1 dX6_setKey_51 ?_
          refine bg_iload2 (pc := 52) X1 dX6_setKey_52 ?_
          refine bg_iconst (pc := 53) X1 dX6_setKey_53 (by decide) ?_
          refine bg_icmp_ne (pc := 54) X1 (tgt := 61) dX6_setKey_54 (by decide) (fun u54 => ?_) (fun u54 => ?_)
          · refine bg_iconst (pc := 61) X1 dX6_setKey_61 (by decide) ?_
            refine bo_V2v (pc := 62) X1 (c_X4_putKey b1 hS1 u4 (by omega)) vX4_putKey lX6_85 rfl (by first | assumption | rfl) (by decide) dX6_setKey_62 (by exact Nat.le_of_ble_eq_true rfl) ?_
            rintro g2 ⟨x3, x4⟩
            refine bg_iload3 (pc := 65) X1 dX6_setKey_65 ?_
            exact bo_iret (pc := 66) X rfl dX6_setKey_66 (fun hi => by
                unfold xSetKey
                rw [if_pos (by omega)]
                have e1 : i = 0 ∨ i = 1 := by omega
                rcases e1 with rfl | rfl
                · first | exact absurd u54 (by decide) | exact ⟨by omega, hX.put2 x1 x2 x4 x3⟩
                · first | exact absurd rfl u54 | exact ⟨by omega, hX.put2 x1 x2 x4 x3⟩)
          · refine bg_iconst (pc := 57) X1 dX6_setKey_57 (by decide) ?_
            refine bg_goto (pc := 58) X1 (tgt := 62) dX6_setKey_58 (by decide) ?_
            refine bo_V2v (pc := 62) X1 (c_X4_putKey b1 hS1 u4 (by omega)) vX4_putKey lX6_85 rfl (by first | assumption | rfl) (by decide) dX6_setKey_62 (by exact Nat.le_of_ble_eq_true rfl) ?_
            rintro g2 ⟨x3, x4⟩
            refine bg_iload3 (pc := 65) X1 dX6_setKey_65 ?_
            exact bo_iret (pc := 66) X rfl dX6_setKey_66 (fun hi => by
                unfold xSetKey
                rw [if_pos (by omega)]
                have e1 : i = 0 ∨ i = 1 := by omega
                rcases e1 with rfl | rfl
                · first | exact absurd u54 (by decide) | exact ⟨by omega, hX.put2 x1 x2 x4 x3⟩
                · first | exact absurd rfl u54 | exact ⟨by omega, hX.put2 x1 x2 x4 x3⟩)
        · refine bg_iconst (pc := 41) X1 dX6_setKey_41 (by decide) ?_
          refine bg_goto (pc := 42) X1 (tgt := 46) dX6_setKey_42 (by decide) ?_
          refine bg_istore3 (pc := 46) X1 dX6_setKey_46 ?_
          refine bg_aload0 (pc := 47) X1 dX6_setKey_47 ?_
          refine bo_getR (pc := 48) X1 dX6_setKey_48 fX6_10 (by first | assumption | rfl) rfl (by first | assumption | rfl) ?_
          refine bg_iload1 (pc := 51) X1 dX6_setKey_51 ?_
          refine bg_iload2 (pc := 52) X1 dX6_setKey_52 ?_
          refine bg_iconst (pc := 53) X1 dX6_setKey_53 (by decide) ?_
          refine bg_icmp_ne (pc := 54) X1 (tgt := 61) dX6_setKey_54 (by decide) (fun u54 => ?_) (fun u54 => ?_)
          · refine bg_iconst (pc := 61) X1 dX6_setKey_61 (by decide) ?_
            refine bo_V2v (pc := 62) X1 (c_X4_putKey b1 hS1 u4 (by omega)) vX4_putKey lX6_85 rfl (by first | assumption | rfl) (by decide) dX6_setKey_62 (by exact Nat.le_of_ble_eq_true rfl) ?_
            rintro g2 ⟨x3, x4⟩
            refine bg_iload3 (pc := 65) X1 dX6_setKey_65 ?_
            exact bo_iret (pc := 66) X rfl dX6_setKey_66 (fun hi => by
                unfold xSetKey
                rw [if_pos (by omega)]
                have e1 : i = 0 ∨ i = 1 := by omega
                rcases e1 with rfl | rfl
                · first | exact absurd u54 (by decide) | exact ⟨by omega, hX.put2 x1 x2 x4 x3⟩
                · first | exact absurd rfl u54 | exact ⟨by omega, hX.put2 x1 x2 x4 x3⟩)
          · refine bg_iconst (pc := 57) X1 dX6_setKey_57 (by decide) ?_
            refine bg_goto (pc := 58) X1 (tgt := 62) dX6_setKey_58 (by decide) ?_
            refine bo_V2v (pc := 62) X1 (c_X4_putKey b1 hS1 u4 (by omega)) vX4_putKey lX6_85 rfl (by first | assumption | rfl) (by decide) dX6_setKey_62 (by exact Nat.le_of_ble_eq_true rfl) ?_
            rintro g2 ⟨x3, x4⟩
            refine bg_iload3 (pc := 65) X1 dX6_setKey_65 ?_
            exact bo_iret (pc := 66) X rfl dX6_setKey_66 (fun hi => by
                unfold xSetKey
                rw [if_pos (by omega)]
                have e1 : i = 0 ∨ i = 1 := by omega
                rcases e1 with rfl | rfl
                · first | exact absurd u54 (by decide) | exact ⟨by omega, hX.put2 x1 x2 x4 x3⟩
                · first | exact absurd rfl u54 | exact ⟨by omega, hX.put2 x1 x2 x4 x3⟩)
      · refine bg_ldc (pc := 16) X1 dX6_setKey_16 kX6_58 (by decide) ?_
        exact bo_iret (pc := 18) X rfl dX6_setKey_18 (fun hi => by unfold xSetKey; rw [if_neg (by omega)]; exact ⟨rfl, hX, frR.rf⟩)
theorem c_X6_setCollar {y : bg_Y} {g : bg_E} {h e : Int} {Z : bm_X} (hX : clsR g Z) : bg_Si y 6 mX6_setCollar [.inr 0, .inl h, .inl e] g (fun r g' => r = (xSetCollar Z h e).1 ∧ clsR g' (xSetCollar Z h e).2 ∧ frR 0 198 g g') := by
  have b1 : bg_sta 1 := bg_stas 1 (by simp)
  obtain ⟨s1, s2, s3, s4, s5, s6, s7, s8, s9⟩ := id b1
  refine bg_enter pnX6 (Nat.le_of_ble_eq_true rfl) (fun κ X hR hg => ?_)
  have X1 : bg_X κ y cX6_setCollar RX6 6 0 0 := X.1
  have hg : ∀ a k, R32 (g a k) := hg
  show bg_g κ y 0 [some (.inr 0), some (.inl h), some (.inl e), none, none] [] g
  refine bg_iload1 (pc := 0) X1 dX6_setCollar_0 ?_
  refine bo_S1i (pc := 1) X1 (c_X6_isHole) sX6_isHole lX6_89 rfl (by decide) dX6_setCollar_1 (by exact Nat.le_of_ble_eq_true rfl) ?_
  rintro _ _ ⟨h9, h8⟩
  obtain rfl := h9.symm
  obtain rfl := h8.symm
  clear h9 h8
  refine bo_ifeq_b (pc := 4) X1 (tgt := 21) dX6_setCollar_4 (by decide) (fun u4 => ?_) (fun u4 => ?_)
  · refine bg_ldc (pc := 21) X1 dX6_setCollar_21 kX6_58 (by decide) ?_
    exact bo_iret (pc := 23) X rfl dX6_setCollar_23 (fun hi => by unfold xSetCollar; rw [if_neg (by omega)]; exact ⟨rfl, hX, frR.rf⟩)
  · refine bg_iload2 (pc := 7) X1 dX6_setCollar_7 ?_
    refine bg_sipush (pc := 8) X1 dX6_setCollar_8 rfl (by decide) ?_
    refine bg_icmp_lt (pc := 11) X1 (tgt := 21) dX6_setCollar_11 (by decide) (fun u11 => ?_) (fun u11 => ?_)
    · refine bg_ldc (pc := 21) X1 dX6_setCollar_21 kX6_58 (by decide) ?_
      exact bo_iret (pc := 23) X rfl dX6_setCollar_23 (fun hi => by unfold xSetCollar; rw [if_neg (by omega)]; exact ⟨rfl, hX, frR.rf⟩)
    · refine bg_iload2 (pc := 14) X1 dX6_setCollar_14 ?_
      refine bg_sipush (pc := 15) X1 dX6_setCollar_15 rfl (by decide) ?_
      refine bg_icmp_le (pc := 18) X1 (tgt := 24) dX6_setCollar_18 (by decide) (fun u18 => ?_) (fun u18 => ?_)
      · refine bg_aload0 (pc := 24) X1 dX6_setCollar_24 ?_
        refine bo_getR (pc := 25) X1 dX6_setCollar_25 fX6_19 (by first | assumption | rfl) rfl (by first | assumption | rfl) ?_
        refine bg_aload0 (pc := 28) X1 dX6_setCollar_28 ?_
        refine bo_getR (pc := 29) X1 dX6_setCollar_29 fX6_10 (by first | assumption | rfl) rfl (by first | assumption | rfl) ?_
        refine bo_V1v (pc := 32) X1 (c_X1_save hX.2.1 hX.1) vX1_save lX6_66 rfl (by first | assumption | rfl) (by decide) dX6_setCollar_32 (by exact Nat.le_of_ble_eq_true rfl) ?_
        rintro g1 ⟨x1, x2⟩
        have hS1 := hX.1.fr x2 (by omega)
        have hc := s9 h.toNat (by omega)
        refine bg_aload0 (pc := 35) X1 dX6_setCollar_35 ?_
        refine bo_getR (pc := 36) X1 dX6_setCollar_36 fX6_10 (by first | assumption | rfl) rfl (by first | assumption | rfl) ?_
        refine bg_iload1 (pc := 39) X1 dX6_setCollar_39 ?_
        refine bo_V1r (pc := 40) X1 (c_X4_columnOf b1 u4) vX4_columnOf lX6_92 rfl (by first | assumption | rfl) (by decide) dX6_setCollar_40 (by exact Nat.le_of_ble_eq_true rfl) ?_
        rintro _ _ ⟨h9, h8⟩
        obtain rfl := h9.symm
        obtain rfl := h8.symm
        clear h9 h8
        refine bg_astore3 (pc := 43) X1 dX6_setCollar_43 ?_
        refine bg_aload3 (pc := 44) X1 dX6_setCollar_44 ?_
        refine bo_V0i (pc := 45) X1 (c_X0_collarElevation hc) vX0_collarElevation lX6_96 rfl hc.1 (by decide) dX6_setCollar_45 (by exact Nat.le_of_ble_eq_true rfl) ?_
        rintro _ _ ⟨h9, h8⟩
        obtain rfl := h9.symm
        obtain rfl := h8.symm
        clear h9 h8
        refine bg_istore4 (pc := 48) X1 dX6_setCollar_48 ?_
        refine bg_aload3 (pc := 50) X1 dX6_setCollar_50 ?_
        refine bg_iload2 (pc := 51) X1 dX6_setCollar_51 ?_
        refine bo_V1v (pc := 52) X1 (c_X0_putCollar hc) vX0_putCollar lX6_100 rfl hc.1 (by decide) dX6_setCollar_52 (by exact Nat.le_of_ble_eq_true rfl) ?_
        rintro _ h8
        obtain rfl := h8.symm
        clear h8
        refine bg_iload4 (pc := 55) X1 dX6_setCollar_55 ?_
        exact bo_iret (pc := 57) X rfl dX6_setCollar_57 (fun hi => by
            unfold xSetCollar
            rw [if_pos (by omega)]
            exact ⟨(hS1.2.2.1 h.toNat (by omega)).1, hX.put2 x1 x2 (frR.rf.up (by omega) (by omega)) (hS1.coll (by omega))⟩)
      · refine bg_ldc (pc := 21) X1 dX6_setCollar_21 kX6_58 (by decide) ?_
        exact bo_iret (pc := 23) X rfl dX6_setCollar_23 (fun hi => by unfold xSetCollar; rw [if_neg (by omega)]; exact ⟨rfl, hX, frR.rf⟩)
theorem c_X6_addBed {y : bg_Y} {g : bg_E} {h i m t : Int} {Z : bm_X} (hX : clsR g Z) : bg_Si y 6 mX6_addBed [.inr 0, .inl h, .inl i, .inl m, .inl t] g (fun r g' => r = (xAddBed Z h i m t).1 ∧ clsR g' (xAddBed Z h i m t).2 ∧ frR 0 198 g g') := by
  have b1 : bg_sta 1 := bg_stas 1 (by simp)
  obtain ⟨s1, s2, s3, s4, s5, s6, s7, s8, s9⟩ := id b1
  refine bg_enter pnX6 (Nat.le_of_ble_eq_true rfl) (fun κ X hR hg => ?_)
  have X1 : bg_X κ y cX6_addBed RX6 6 0 0 := X.1
  have hg : ∀ a k, R32 (g a k) := hg
  show bg_g κ y 0 [some (.inr 0), some (.inl h), some (.inl i), some (.inl m), some (.inl t), none] [] g
  refine bg_iload1 (pc := 0) X1 dX6_addBed_0 ?_
  refine bo_S1i (pc := 1) X1 (c_X6_isHole) sX6_isHole lX6_89 rfl (by decide) dX6_addBed_1 (by exact Nat.le_of_ble_eq_true rfl) ?_
  rintro _ _ ⟨h9, h8⟩
  obtain rfl := h9.symm
  obtain rfl := h8.symm
  clear h9 h8
  refine bo_ifeq_b (pc := 4) X1 (tgt := 22) dX6_addBed_4 (by decide) (fun u4 => ?_) (fun u4 => ?_)
  · refine bg_ldc (pc := 22) X1 dX6_addBed_22 kX6_58 (by decide) ?_
    exact bo_iret (pc := 24) X rfl dX6_addBed_24 (fun hi => by unfold xAddBed; rw [if_neg (by omega)]; exact ⟨rfl, hX, frR.rf⟩)
  · have hc := s9 h.toNat (by omega)
    have hq : colR g (1 + 3 + 3 * h.toNat) (qH Z h) := (hX.1.2.2.1 h.toNat (by omega)).2
    have q1 := hq.1
    have q2 := hq.2.1
    refine bg_iload3 (pc := 7) X1 dX6_addBed_7 ?_
    refine bo_S1i (pc := 8) X1 (c_X6_isMark) sX6_isMark lX6_78 rfl (by decide) dX6_addBed_8 (by exact Nat.le_of_ble_eq_true rfl) ?_
    rintro _ _ ⟨h9, h8⟩
    obtain rfl := h9.symm
    obtain rfl := h8.symm
    clear h9 h8
    refine bo_ifeq_b (pc := 11) X1 (tgt := 22) dX6_addBed_11 (by decide) (fun u11 => ?_) (fun u11 => ?_)
    · refine bg_ldc (pc := 22) X1 dX6_addBed_22 kX6_58 (by decide) ?_
      exact bo_iret (pc := 24) X rfl dX6_addBed_24 (fun hi => by unfold xAddBed; rw [if_neg (by omega)]; exact ⟨rfl, hX, frR.rf⟩)
    · refine bg_iload4 (pc := 14) X1 dX6_addBed_14 ?_
      refine bo_S1i (pc := 16) X1 (c_X6_isThickness) sX6_isThickness lX6_104 rfl (by decide) dX6_addBed_16 (by exact Nat.le_of_ble_eq_true rfl) ?_
      rintro _ _ ⟨h9, h8⟩
      obtain rfl := h9.symm
      obtain rfl := h8.symm
      clear h9 h8
      refine bo_ifne_b (pc := 19) X1 (tgt := 25) dX6_addBed_19 (by decide) (fun u19 => ?_) (fun u19 => ?_)
      · refine bg_aload0 (pc := 25) X1 dX6_addBed_25 ?_
        refine bo_getR (pc := 26) X1 dX6_addBed_26 fX6_10 (by first | assumption | rfl) rfl (by first | assumption | rfl) ?_
        refine bg_iload1 (pc := 29) X1 dX6_addBed_29 ?_
        refine bo_V1r (pc := 30) X1 (c_X4_columnOf b1 u4) vX4_columnOf lX6_92 rfl (by first | assumption | rfl) (by decide) dX6_addBed_30 (by exact Nat.le_of_ble_eq_true rfl) ?_
        rintro _ _ ⟨h9, h8⟩
        obtain rfl := h9.symm
        obtain rfl := h8.symm
        clear h9 h8
        refine bg_astore5 (pc := 33) X1 dX6_addBed_33 ?_
        refine bg_iload2 (pc := 35) X1 dX6_addBed_35 ?_
        refine bg_if_lt (pc := 36) X1 (tgt := 48) dX6_addBed_36 (by decide) (fun u36 => ?_) (fun u36 => ?_)
        · refine bg_ldc (pc := 48) X1 dX6_addBed_48 kX6_58 (by decide) ?_
          exact bo_iret (pc := 50) X rfl dX6_addBed_50 (fun hi => by unfold xAddBed; rw [if_neg (by omega)]; exact ⟨rfl, hX, frR.rf⟩)
        · refine bg_iload2 (pc := 39) X1 dX6_addBed_39 ?_
          refine bg_aload5 (pc := 40) X1 dX6_addBed_40 ?_
          refine bo_V0i (pc := 42) X1 (c_X0_size hc) vX0_size lX6_107 rfl hc.1 (by decide) dX6_addBed_42 (by exact Nat.le_of_ble_eq_true rfl) ?_
          rintro _ _ ⟨h9, h8⟩
          obtain rfl := h9.symm
          obtain rfl := h8.symm
          clear h9 h8
          refine bg_icmp_le (pc := 45) X1 (tgt := 51) dX6_addBed_45 (by decide) (fun u45 => ?_) (fun u45 => ?_)
          · refine bg_aload5 (pc := 51) X1 dX6_addBed_51 ?_
            refine bo_V0i (pc := 53) X1 (c_X0_size hc) vX0_size lX6_107 rfl hc.1 (by decide) dX6_addBed_53 (by exact Nat.le_of_ble_eq_true rfl) ?_
            rintro _ _ ⟨h9, h8⟩
            obtain rfl := h9.symm
            obtain rfl := h8.symm
            clear h9 h8
            refine bg_bipush (pc := 56) X1 dX6_addBed_56 rfl (by decide) ?_
            refine bg_icmp_lt (pc := 58) X1 (tgt := 64) dX6_addBed_58 (by decide) (fun u58 => ?_) (fun u58 => ?_)
            · refine bg_aload0 (pc := 64) X1 dX6_addBed_64 ?_
              refine bo_getR (pc := 65) X1 dX6_addBed_65 fX6_19 (by first | assumption | rfl) rfl (by first | assumption | rfl) ?_
              refine bg_aload0 (pc := 68) X1 dX6_addBed_68 ?_
              refine bo_getR (pc := 69) X1 dX6_addBed_69 fX6_10 (by first | assumption | rfl) rfl (by first | assumption | rfl) ?_
              refine bo_V1v (pc := 72) X1 (c_X1_save hX.2.1 hX.1) vX1_save lX6_66 rfl (by first | assumption | rfl) (by decide) dX6_addBed_72 (by exact Nat.le_of_ble_eq_true rfl) ?_
              rintro g1 ⟨x1, x2⟩
              have hS1 := hX.1.fr x2 (by omega)
              refine bg_aload5 (pc := 75) X1 dX6_addBed_75 ?_
              refine bg_iload2 (pc := 77) X1 dX6_addBed_77 ?_
              refine bg_iload3 (pc := 78) X1 dX6_addBed_78 ?_
              refine bg_iload4 (pc := 79) X1 dX6_addBed_79 ?_
              refine bo_V3i (pc := 81) X1 (c_X0_insert (q := qH Z h) hc (hS1.2.2.1 h.toNat (by omega)).2 (by omega)) vX0_insert lX6_111 rfl hc.1 (by decide) dX6_addBed_81 (by exact Nat.le_of_ble_eq_true rfl) ?_
              rintro r81 g2 ⟨-, x3, x4, x5⟩
              have hS2 := hS1.col (by omega) x4 x3 x5
              refine bg_pop (pc := 84) X1 dX6_addBed_84 ?_
              refine bg_aload0 (pc := 85) X1 dX6_addBed_85 ?_
              refine bo_getR (pc := 86) X1 dX6_addBed_86 fX6_10 (by first | assumption | rfl) rfl (by first | assumption | rfl) ?_
              refine bg_iconst (pc := 89) X1 dX6_addBed_89 (by decide) ?_
              refine bg_iload4 (pc := 90) X1 dX6_addBed_90 ?_
              refine bo_V2v (pc := 92) X1 (c_X4_book b1 hS2 (by omega)) vX4_book lX6_115 rfl (by first | assumption | rfl) (by decide) dX6_addBed_92 (by exact Nat.le_of_ble_eq_true rfl) ?_
              rintro g3 ⟨x6, x7⟩
              have hL := (x6.2.2.1 h.toNat (by omega)).2.1
              have eL : ((sBook (sBed Z.1 h.toNat (insB (qH Z h) i.toNat (m, t))) (1 : Int).toNat t).2.2.2.1 h.toNat) = insB (qH Z h) i.toNat (m, t) := fup_eq
              rw [eL, insB_length (by omega)] at hL
              refine bg_aload5 (pc := 95) X1 dX6_addBed_95 ?_
              refine bo_V0i (pc := 97) X1 (c_X0_size hc) vX0_size lX6_107 rfl hc.1 (by decide) dX6_addBed_97 (by exact Nat.le_of_ble_eq_true rfl) ?_
              rintro _ _ ⟨h9, h8⟩
              obtain rfl := h9.symm
              obtain rfl := h8.symm
              clear h9 h8
              exact bo_iret (pc := 100) X rfl dX6_addBed_100 (fun hi => by
                  unfold xAddBed
                  rw [if_pos (by omega), if_pos (by omega)]
                  exact ⟨by rw [hL]; rfl, hX.put2 x1 x2 ((x4.wide (by omega) (by omega)).tr x7) x6⟩)
            · refine bg_ldc (pc := 61) X1 dX6_addBed_61 kX6_110 (by decide) ?_
              exact bo_iret (pc := 63) X rfl dX6_addBed_63 (fun hi => by unfold xAddBed; rw [if_pos (by omega), if_neg (by omega)]; exact ⟨rfl, hX, frR.rf⟩)
          · refine bg_ldc (pc := 48) X1 dX6_addBed_48 kX6_58 (by decide) ?_
            exact bo_iret (pc := 50) X rfl dX6_addBed_50 (fun hi => by unfold xAddBed; rw [if_neg (by omega)]; exact ⟨rfl, hX, frR.rf⟩)
      · refine bg_ldc (pc := 22) X1 dX6_addBed_22 kX6_58 (by decide) ?_
        exact bo_iret (pc := 24) X rfl dX6_addBed_24 (fun hi => by unfold xAddBed; rw [if_neg (by omega)]; exact ⟨rfl, hX, frR.rf⟩)
theorem c_X6_removeBed {y : bg_Y} {g : bg_E} {h b : Int} {Z : bm_X} (hX : clsR g Z) : bg_Si y 6 mX6_removeBed [.inr 0, .inl h, .inl b] g (fun r g' => r = (xRemoveBed Z h b).1 ∧ clsR g' (xRemoveBed Z h b).2 ∧ frR 0 198 g g') := by
  have b1 : bg_sta 1 := bg_stas 1 (by simp)
  obtain ⟨s1, s2, s3, s4, s5, s6, s7, s8, s9⟩ := id b1
  refine bg_enter pnX6 (Nat.le_of_ble_eq_true rfl) (fun κ X hR hg => ?_)
  have X1 : bg_X κ y cX6_removeBed RX6 6 0 0 := X.1
  have hg : ∀ a k, R32 (g a k) := hg
  show bg_g κ y 0 [some (.inr 0), some (.inl h), some (.inl b), none, none] [] g
  refine bg_iload1 (pc := 0) X1 dX6_removeBed_0 ?_
  refine bo_S1i (pc := 1) X1 (c_X6_isHole) sX6_isHole lX6_89 rfl (by decide) dX6_removeBed_1 (by exact Nat.le_of_ble_eq_true rfl) ?_
  rintro _ _ ⟨h9, h8⟩
  obtain rfl := h9.symm
  obtain rfl := h8.symm
  clear h9 h8
  refine bo_ifeq_b (pc := 4) X1 (tgt := 22) dX6_removeBed_4 (by decide) (fun u4 => ?_) (fun u4 => ?_)
  · refine bg_ldc (pc := 22) X1 dX6_removeBed_22 kX6_58 (by decide) ?_
    exact bo_iret (pc := 24) X rfl dX6_removeBed_24 (fun hi => by
        unfold xRemoveBed
        first
        | rw [if_neg (fun h9 => u4 h9.1)]; exact ⟨rfl, hX, frR.rf⟩
        | rw [if_neg (fun h9 => u19 h9.2)]; exact ⟨rfl, hX, frR.rf⟩)
  · have hc := s9 h.toNat (by omega)
    have hq : colR g (1 + 3 + 3 * h.toNat) (qH Z h) := (hX.1.2.2.1 h.toNat (by omega)).2
    refine bg_aload0 (pc := 7) X1 dX6_removeBed_7 ?_
    refine bo_getR (pc := 8) X1 dX6_removeBed_8 fX6_10 (by first | assumption | rfl) rfl (by first | assumption | rfl) ?_
    refine bg_iload1 (pc := 11) X1 dX6_removeBed_11 ?_
    refine bo_V1r (pc := 12) X1 (c_X4_columnOf b1 u4) vX4_columnOf lX6_92 rfl (by first | assumption | rfl) (by decide) dX6_removeBed_12 (by exact Nat.le_of_ble_eq_true rfl) ?_
    rintro _ _ ⟨h9, h8⟩
    obtain rfl := h9.symm
    obtain rfl := h8.symm
    clear h9 h8
    refine bg_iload2 (pc := 15) X1 dX6_removeBed_15 ?_
    refine bo_V1i (pc := 16) X1 (c_X0_has hc) vX0_has lX6_118 rfl hc.1 (by decide) dX6_removeBed_16 (by exact Nat.le_of_ble_eq_true rfl) ?_
    rintro _ _ ⟨h9, h8⟩
    obtain rfl := h9.symm
    obtain rfl := h8.symm
    clear h9 h8
    refine bo_ifne_b (pc := 19) X1 (tgt := 25) dX6_removeBed_19 (by decide) (fun u19 => ?_) (fun u19 => ?_)
    · rw [has_I hq] at u19
      refine bg_aload0 (pc := 25) X1 dX6_removeBed_25 ?_
      refine bo_getR (pc := 26) X1 dX6_removeBed_26 fX6_19 (by first | assumption | rfl) rfl (by first | assumption | rfl) ?_
      refine bg_aload0 (pc := 29) X1 dX6_removeBed_29 ?_
      refine bo_getR (pc := 30) X1 dX6_removeBed_30 fX6_10 (by first | assumption | rfl) rfl (by first | assumption | rfl) ?_
      refine bo_V1v (pc := 33) X1 (c_X1_save hX.2.1 hX.1) vX1_save lX6_66 rfl (by first | assumption | rfl) (by decide) dX6_removeBed_33 (by exact Nat.le_of_ble_eq_true rfl) ?_
      rintro g1 ⟨x1, x2⟩
      have hS1 := hX.1.fr x2 (by omega)
      have hq1 : colR g1 (1 + 3 + 3 * h.toNat) (qH Z h) := (hS1.2.2.1 h.toNat (by omega)).2
      refine bg_aload0 (pc := 36) X1 dX6_removeBed_36 ?_
      refine bo_getR (pc := 37) X1 dX6_removeBed_37 fX6_10 (by first | assumption | rfl) rfl (by first | assumption | rfl) ?_
      refine bg_iload1 (pc := 40) X1 dX6_removeBed_40 ?_
      refine bo_V1r (pc := 41) X1 (c_X4_columnOf b1 u4) vX4_columnOf lX6_92 rfl (by first | assumption | rfl) (by decide) dX6_removeBed_41 (by exact Nat.le_of_ble_eq_true rfl) ?_
      rintro _ _ ⟨h9, h8⟩
      obtain rfl := h9.symm
      obtain rfl := h8.symm
      clear h9 h8
      refine bg_astore3 (pc := 44) X1 dX6_removeBed_44 ?_
      refine bg_aload3 (pc := 45) X1 dX6_removeBed_45 ?_
      refine bg_iload2 (pc := 46) X1 dX6_removeBed_46 ?_
      refine bo_V1i (pc := 47) X1 (c_X0_thicknessOf hc) vX0_thicknessOf lX6_121 rfl hc.1 (by decide) dX6_removeBed_47 (by exact Nat.le_of_ble_eq_true rfl) ?_
      rintro _ _ ⟨h9, h8⟩
      obtain rfl := h9.symm
      obtain rfl := h8.symm
      clear h9 h8
      rw [th_I hq1 u19]
      refine bg_istore4 (pc := 50) X1 dX6_removeBed_50 ?_
      refine bg_aload3 (pc := 52) X1 dX6_removeBed_52 ?_
      refine bg_iload2 (pc := 53) X1 dX6_removeBed_53 ?_
      refine bo_V1v (pc := 54) X1 (c_X0_takeOut hc hq1 u19) vX0_takeOut lX6_124 rfl hc.1 (by decide) dX6_removeBed_54 (by exact Nat.le_of_ble_eq_true rfl) ?_
      rintro g2 ⟨x3, x4, x5⟩
      have hS2 := hS1.col (by omega) x4 x3 x5
      refine bg_aload0 (pc := 57) X1 dX6_removeBed_57 ?_
      refine bo_getR (pc := 58) X1 dX6_removeBed_58 fX6_10 (by first | assumption | rfl) rfl (by first | assumption | rfl) ?_
      refine bg_iconst (pc := 61) X1 dX6_removeBed_61 (by decide) ?_
      refine bg_iload4 (pc := 62) X1 dX6_removeBed_62 ?_
      refine bo_V2v (pc := 64) X1 (c_X4_book b1 hS2 (by omega)) vX4_book lX6_115 rfl (by first | assumption | rfl) (by decide) dX6_removeBed_64 (by exact Nat.le_of_ble_eq_true rfl) ?_
      rintro g3 ⟨x6, x7⟩
      refine bg_iload4 (pc := 67) X1 dX6_removeBed_67 ?_
      exact bo_iret (pc := 69) X rfl dX6_removeBed_69 (fun hi => by
          unfold xRemoveBed
          rw [if_pos ⟨u4, u19⟩]
          exact ⟨rfl, hX.put2 x1 x2 ((x4.wide (by omega) (by omega)).tr x7) x6⟩)
    · rw [has_I hq] at u19
      refine bg_ldc (pc := 22) X1 dX6_removeBed_22 kX6_58 (by decide) ?_
      exact bo_iret (pc := 24) X rfl dX6_removeBed_24 (fun hi => by
          unfold xRemoveBed
          first
          | rw [if_neg (fun h9 => u4 h9.1)]; exact ⟨rfl, hX, frR.rf⟩
          | rw [if_neg (fun h9 => u19 h9.2)]; exact ⟨rfl, hX, frR.rf⟩)
theorem c_X6_setThickness {y : bg_Y} {g : bg_E} {h b t : Int} {Z : bm_X} (hX : clsR g Z) (ok : okX Z) : bg_Si y 6 mX6_setThickness [.inr 0, .inl h, .inl b, .inl t] g (fun r g' => r = (xSetThickness Z h b t).1 ∧ clsR g' (xSetThickness Z h b t).2 ∧ frR 0 198 g g') := by
  have b1 : bg_sta 1 := bg_stas 1 (by simp)
  obtain ⟨s1, s2, s3, s4, s5, s6, s7, s8, s9⟩ := id b1
  refine bg_enter pnX6 (Nat.le_of_ble_eq_true rfl) (fun κ X hR hg => ?_)
  have X1 : bg_X κ y cX6_setThickness RX6 6 0 0 := X.1
  have hg : ∀ a k, R32 (g a k) := hg
  show bg_g κ y 0 [some (.inr 0), some (.inl h), some (.inl b), some (.inl t), none, none] [] g
  refine bg_iload1 (pc := 0) X1 dX6_setThickness_0 ?_
  refine bo_S1i (pc := 1) X1 (c_X6_isHole) sX6_isHole lX6_89 rfl (by decide) dX6_setThickness_1 (by exact Nat.le_of_ble_eq_true rfl) ?_
  rintro _ _ ⟨h9, h8⟩
  obtain rfl := h9.symm
  obtain rfl := h8.symm
  clear h9 h8
  refine bo_ifeq_b (pc := 4) X1 (tgt := 29) dX6_setThickness_4 (by decide) (fun u4 => ?_) (fun u4 => ?_)
  · refine bg_ldc (pc := 29) X1 dX6_setThickness_29 kX6_58 (by decide) ?_
    exact bo_iret (pc := 31) X rfl dX6_setThickness_31 (fun hi => by
        unfold xSetThickness
        first
        | rw [if_neg (fun h9 => u4 h9.1)]; exact ⟨rfl, hX, frR.rf⟩
        | rw [if_neg (fun h9 => u11 h9.2.1)]; exact ⟨rfl, hX, frR.rf⟩
        | rw [if_neg (fun h9 => u26 h9.2.2)]; exact ⟨rfl, hX, frR.rf⟩)
  · have hc := s9 h.toNat (by omega)
    have hq : colR g (1 + 3 + 3 * h.toNat) (qH Z h) := (hX.1.2.2.1 h.toNat (by omega)).2
    refine bg_iload3 (pc := 7) X1 dX6_setThickness_7 ?_
    refine bo_S1i (pc := 8) X1 (c_X6_isThickness) sX6_isThickness lX6_104 rfl (by decide) dX6_setThickness_8 (by exact Nat.le_of_ble_eq_true rfl) ?_
    rintro _ _ ⟨h9, h8⟩
    obtain rfl := h9.symm
    obtain rfl := h8.symm
    clear h9 h8
    refine bo_ifeq_b (pc := 11) X1 (tgt := 29) dX6_setThickness_11 (by decide) (fun u11 => ?_) (fun u11 => ?_)
    · refine bg_ldc (pc := 29) X1 dX6_setThickness_29 kX6_58 (by decide) ?_
      exact bo_iret (pc := 31) X rfl dX6_setThickness_31 (fun hi => by
          unfold xSetThickness
          first
          | rw [if_neg (fun h9 => u4 h9.1)]; exact ⟨rfl, hX, frR.rf⟩
          | rw [if_neg (fun h9 => u11 h9.2.1)]; exact ⟨rfl, hX, frR.rf⟩
          | rw [if_neg (fun h9 => u26 h9.2.2)]; exact ⟨rfl, hX, frR.rf⟩)
    · refine bg_aload0 (pc := 14) X1 dX6_setThickness_14 ?_
      refine bo_getR (pc := 15) X1 dX6_setThickness_15 fX6_10 (by first | assumption | rfl) rfl (by first | assumption | rfl) ?_
      refine bg_iload1 (pc := 18) X1 dX6_setThickness_18 ?_
      refine bo_V1r (pc := 19) X1 (c_X4_columnOf b1 u4) vX4_columnOf lX6_92 rfl (by first | assumption | rfl) (by decide) dX6_setThickness_19 (by exact Nat.le_of_ble_eq_true rfl) ?_
      rintro _ _ ⟨h9, h8⟩
      obtain rfl := h9.symm
      obtain rfl := h8.symm
      clear h9 h8
      refine bg_iload2 (pc := 22) X1 dX6_setThickness_22 ?_
      refine bo_V1i (pc := 23) X1 (c_X0_has hc) vX0_has lX6_118 rfl hc.1 (by decide) dX6_setThickness_23 (by exact Nat.le_of_ble_eq_true rfl) ?_
      rintro _ _ ⟨h9, h8⟩
      obtain rfl := h9.symm
      obtain rfl := h8.symm
      clear h9 h8
      refine bo_ifne_b (pc := 26) X1 (tgt := 32) dX6_setThickness_26 (by decide) (fun u26 => ?_) (fun u26 => ?_)
      · rw [has_I hq] at u26
        refine bg_aload0 (pc := 32) X1 dX6_setThickness_32 ?_
        refine bo_getR (pc := 33) X1 dX6_setThickness_33 fX6_19 (by first | assumption | rfl) rfl (by first | assumption | rfl) ?_
        refine bg_aload0 (pc := 36) X1 dX6_setThickness_36 ?_
        refine bo_getR (pc := 37) X1 dX6_setThickness_37 fX6_10 (by first | assumption | rfl) rfl (by first | assumption | rfl) ?_
        refine bo_V1v (pc := 40) X1 (c_X1_save hX.2.1 hX.1) vX1_save lX6_66 rfl (by first | assumption | rfl) (by decide) dX6_setThickness_40 (by exact Nat.le_of_ble_eq_true rfl) ?_
        rintro g1 ⟨x1, x2⟩
        have hS1 := hX.1.fr x2 (by omega)
        have hq1 : colR g1 (1 + 3 + 3 * h.toNat) (qH Z h) := (hS1.2.2.1 h.toNat (by omega)).2
        have hth := thOK (q := qH Z h) (ok.1.2.2.2.2.2.2.2 h.toNat (by omega)).1 (k := b.toNat) (by omega)
        refine bg_aload0 (pc := 43) X1 dX6_setThickness_43 ?_
        refine bo_getR (pc := 44) X1 dX6_setThickness_44 fX6_10 (by first | assumption | rfl) rfl (by first | assumption | rfl) ?_
        refine bg_iload1 (pc := 47) X1 dX6_setThickness_47 ?_
        refine bo_V1r (pc := 48) X1 (c_X4_columnOf b1 u4) vX4_columnOf lX6_92 rfl (by first | assumption | rfl) (by decide) dX6_setThickness_48 (by exact Nat.le_of_ble_eq_true rfl) ?_
        rintro _ _ ⟨h9, h8⟩
        obtain rfl := h9.symm
        obtain rfl := h8.symm
        clear h9 h8
        refine bg_astore4 (pc := 51) X1 dX6_setThickness_51 ?_
        refine bg_aload4 (pc := 53) X1 dX6_setThickness_53 ?_
        refine bg_iload2 (pc := 55) X1 dX6_setThickness_55 ?_
        refine bo_V1i (pc := 56) X1 (c_X0_thicknessOf hc) vX0_thicknessOf lX6_121 rfl hc.1 (by decide) dX6_setThickness_56 (by exact Nat.le_of_ble_eq_true rfl) ?_
        rintro _ _ ⟨h9, h8⟩
        obtain rfl := h9.symm
        obtain rfl := h8.symm
        clear h9 h8
        rw [th_I hq1 u26]
        refine bg_istore5 (pc := 59) X1 dX6_setThickness_59 ?_
        refine bg_aload4 (pc := 61) X1 dX6_setThickness_61 ?_
        refine bg_iload2 (pc := 63) X1 dX6_setThickness_63 ?_
        refine bg_iload3 (pc := 64) X1 dX6_setThickness_64 ?_
        refine bo_V2v (pc := 65) X1 (c_X0_putThickness hc) vX0_putThickness lX6_127 rfl hc.1 (by decide) dX6_setThickness_65 (by exact Nat.le_of_ble_eq_true rfl) ?_
        rintro _ h8
        obtain rfl := h8.symm
        clear h8
        rw [if_pos ((has_I hq1).mpr u26)]
        have x4 : frR (1 + 3 + 3 * h.toNat) (1 + 3 + 3 * h.toNat + 3) g1 (bg_up g1 (1 + 3 + 3 * h.toNat + 2) b.toNat t) := frR.rf.up (by omega) (by omega)
        have hS2 := hS1.col (by omega) x4 (hq1.set (t := t) (show b.toNat < (qH Z h).length by omega)) (up_a (by omega))
        refine bg_aload0 (pc := 68) X1 dX6_setThickness_68 ?_
        refine bo_getR (pc := 69) X1 dX6_setThickness_69 fX6_10 (by first | assumption | rfl) rfl (by first | assumption | rfl) ?_
        refine bg_iconst (pc := 72) X1 dX6_setThickness_72 (by decide) ?_
        refine bg_iload3 (pc := 73) X1 dX6_setThickness_73 ?_
        refine bg_iload5 (pc := 74) X1 dX6_setThickness_74 ?_
        refine bg_isub (pc := 76) X1 dX6_setThickness_76 (by omega) ?_
        refine bg_iconst (pc := 77) X1 dX6_setThickness_77 (by decide) ?_
        refine bo_max (pc := 78) X1 lX6_130 (by decide) dX6_setThickness_78 (by exact Nat.le_of_ble_eq_true rfl) ?_
        refine bo_V2v (pc := 81) X1 (c_X4_book b1 hS2 (by omega)) vX4_book lX6_115 rfl (by first | assumption | rfl) (by decide) dX6_setThickness_81 (by exact Nat.le_of_ble_eq_true rfl) ?_
        rintro g3 ⟨x6, x7⟩
        refine bg_aload0 (pc := 84) X1 dX6_setThickness_84 ?_
        refine bo_getR (pc := 85) X1 dX6_setThickness_85 fX6_10 (by first | assumption | rfl) rfl (by first | assumption | rfl) ?_
        refine bg_iconst (pc := 88) X1 dX6_setThickness_88 (by decide) ?_
        refine bg_iload5 (pc := 89) X1 dX6_setThickness_89 ?_
        refine bg_iload3 (pc := 91) X1 dX6_setThickness_91 ?_
        refine bg_isub (pc := 92) X1 dX6_setThickness_92 (by omega) ?_
        refine bg_iconst (pc := 93) X1 dX6_setThickness_93 (by decide) ?_
        refine bo_max (pc := 94) X1 lX6_130 (by decide) dX6_setThickness_94 (by exact Nat.le_of_ble_eq_true rfl) ?_
        refine bo_V2v (pc := 97) X1 (c_X4_book b1 x6 (by omega)) vX4_book lX6_115 rfl (by first | assumption | rfl) (by decide) dX6_setThickness_97 (by exact Nat.le_of_ble_eq_true rfl) ?_
        rintro g4 ⟨x8, x9⟩
        refine bg_iload5 (pc := 100) X1 dX6_setThickness_100 ?_
        exact bo_iret (pc := 102) X rfl dX6_setThickness_102 (fun hi => by
            unfold xSetThickness
            rw [if_pos ⟨u4, u11, u26⟩]
            exact ⟨rfl, hX.put2 x1 x2 (((x4.wide (by omega) (by omega)).tr x7).tr x9) x8⟩)
      · rw [has_I hq] at u26
        refine bg_ldc (pc := 29) X1 dX6_setThickness_29 kX6_58 (by decide) ?_
        exact bo_iret (pc := 31) X rfl dX6_setThickness_31 (fun hi => by
            unfold xSetThickness
            first
            | rw [if_neg (fun h9 => u4 h9.1)]; exact ⟨rfl, hX, frR.rf⟩
            | rw [if_neg (fun h9 => u11 h9.2.1)]; exact ⟨rfl, hX, frR.rf⟩
            | rw [if_neg (fun h9 => u26 h9.2.2)]; exact ⟨rfl, hX, frR.rf⟩)
theorem c_X6_cut {y : bg_Y} {g : bg_E} {h d b : Int} {Z : bm_X} (hX : clsR g Z) (ok : okX Z) : bg_Si y 6 mX6_cut [.inr 0, .inl h, .inl d, .inl b] g (fun r g' => r = (xCut Z h d b).1 ∧ clsR g' (xCut Z h d b).2 ∧ frR 0 198 g g') := by
  have b1 : bg_sta 1 := bg_stas 1 (by simp)
  obtain ⟨s1, s2, s3, s4, s5, s6, s7, s8, s9⟩ := id b1
  have fc : bg_col 153 := bg_cols 153 (by simp)
  obtain ⟨f1, -⟩ := id fc
  refine bg_enter pnX6 (Nat.le_of_ble_eq_true rfl) (fun κ X hR hg => ?_)
  have X1 : bg_X κ y cX6_cut RX6 6 0 0 := X.1
  have hg : ∀ a k, R32 (g a k) := hg
  show bg_g κ y 0 [some (.inr 0), some (.inl h), some (.inl d), some (.inl b), none, none, none, none, none] [] g
  have hb0 : R32 b := hR.2.2.2.1
  have hd0 : R32 d := hR.2.2.1
  have full : ∀ (g1 : bg_E) (l8 : Option bg_V) (l5 l6 l7 : Int) (c : Nat), xCut Z h d b = (CAP, Z) → frR 153 156 g g1 → bg_g κ y 139 [some (.inr 0), some (.inl h), some (.inl d), some (.inl b), some (.inr c), some (.inl l5), some (.inl l6), some (.inl l7), l8] [] g1 := by
    intro g1 l8 l5 l6 l7 c hx hf
    refine bg_iconst (pc := 139) X1 dX6_cut_139 (by decide) ?_
    refine bg_istore8 (pc := 140) X1 dX6_cut_140 ?_
    refine bg_iload8 (pc := 142) X1 dX6_cut_142 ?_
    refine bg_if_ne (pc := 144) X1 (tgt := 150) dX6_cut_144 (by decide) (fun u144 => ?_) (fun u144 => ?_)
    · exact absurd rfl u144
    · refine bg_ldc (pc := 147) X1 dX6_cut_147 kX6_110 (by decide) ?_
      exact bo_iret (pc := 149) X rfl dX6_cut_149 (fun hi => by rw [hx]; exact ⟨rfl, hX.fr hf (by omega), hf.wide (by omega) (by omega)⟩)
  refine bg_iload1 (pc := 0) X1 dX6_cut_0 ?_
  refine bo_S1i (pc := 1) X1 (c_X6_isHole) sX6_isHole lX6_89 rfl (by decide) dX6_cut_1 (by exact Nat.le_of_ble_eq_true rfl) ?_
  rintro _ _ ⟨h9, h8⟩
  obtain rfl := h9.symm
  obtain rfl := h8.symm
  clear h9 h8
  refine bo_ifne_b (pc := 4) X1 (tgt := 10) dX6_cut_4 (by decide) (fun u4 => ?_) (fun u4 => ?_)
  · have hc := s9 h.toNat (by omega)
    have hq : colR g (1 + 3 + 3 * h.toNat) (qH Z h) := (hX.1.2.2.1 h.toNat (by omega)).2
    have hv : colOK (qH Z h) ∧ (qH Z h).length ≤ 24 := ok.1.2.2.2.2.2.2.2 h.toNat (by omega)
    have hl := dep_le hv.1 (Nat.le_refl _)
    have hl2 := hv.2
    refine bg_aload0 (pc := 10) X1 dX6_cut_10 ?_
    refine bo_getR (pc := 11) X1 dX6_cut_11 fX6_10 (by first | assumption | rfl) rfl (by first | assumption | rfl) ?_
    refine bg_iload1 (pc := 14) X1 dX6_cut_14 ?_
    refine bo_V1r (pc := 15) X1 (c_X4_columnOf b1 u4) vX4_columnOf lX6_92 rfl (by first | assumption | rfl) (by decide) dX6_cut_15 (by exact Nat.le_of_ble_eq_true rfl) ?_
    rintro _ _ ⟨h9, h8⟩
    obtain rfl := h9.symm
    obtain rfl := h8.symm
    clear h9 h8
    refine bg_astore4 (pc := 18) X1 dX6_cut_18 ?_
    refine bg_aload4 (pc := 20) X1 dX6_cut_20 ?_
    refine bo_V0i (pc := 22) X1 (c_X0_totalThickness hc hq hv.1) vX0_totalThickness lX6_136 rfl hc.1 (by decide) dX6_cut_22 (by exact Nat.le_of_ble_eq_true rfl) ?_
    rintro _ _ ⟨h9, h8⟩
    obtain rfl := h9.symm
    obtain rfl := h8.symm
    clear h9 h8
    refine bg_istore5 (pc := 25) X1 dX6_cut_25 ?_
    refine bg_iload2 (pc := 27) X1 dX6_cut_27 ?_
    refine bg_iconst (pc := 28) X1 dX6_cut_28 (by decide) ?_
    refine bg_icmp_lt (pc := 29) X1 (tgt := 57) dX6_cut_29 (by decide) (fun u29 => ?_) (fun u29 => ?_)
    · refine bg_ldc (pc := 57) X1 dX6_cut_57 kX6_58 (by decide) ?_
      exact bo_iret (pc := 59) X rfl dX6_cut_59 (fun hi => by unfold xCut; rw [if_neg (by omega)]; exact ⟨rfl, hX, frR.rf⟩)
    · refine bg_iload2 (pc := 32) X1 dX6_cut_32 ?_
      refine bg_iload5 (pc := 33) X1 dX6_cut_33 ?_
      refine bg_iconst (pc := 35) X1 dX6_cut_35 (by decide) ?_
      refine bg_isub (pc := 36) X1 dX6_cut_36 (by omega) ?_
      refine bg_icmp_gt (pc := 37) X1 (tgt := 57) dX6_cut_37 (by decide) (fun u37 => ?_) (fun u37 => ?_)
      · refine bg_ldc (pc := 57) X1 dX6_cut_57 kX6_58 (by decide) ?_
        exact bo_iret (pc := 59) X rfl dX6_cut_59 (fun hi => by unfold xCut; rw [if_neg (by omega)]; exact ⟨rfl, hX, frR.rf⟩)
      · refine bg_iload3 (pc := 40) X1 dX6_cut_40 ?_
        refine bg_if_eq (pc := 41) X1 (tgt := 57) dX6_cut_41 (by decide) (fun u41 => ?_) (fun u41 => ?_)
        · refine bg_ldc (pc := 57) X1 dX6_cut_57 kX6_58 (by decide) ?_
          exact bo_iret (pc := 59) X rfl dX6_cut_59 (fun hi => by unfold xCut; rw [if_neg (by omega)]; exact ⟨rfl, hX, frR.rf⟩)
        · refine bg_iload3 (pc := 44) X1 dX6_cut_44 ?_
          refine bg_iload2 (pc := 45) X1 dX6_cut_45 ?_
          refine bg_ineg (pc := 46) X1 dX6_cut_46 (by omega) ?_
          refine bg_icmp_lt (pc := 47) X1 (tgt := 57) dX6_cut_47 (by decide) (fun u47 => ?_) (fun u47 => ?_)
          · refine bg_ldc (pc := 57) X1 dX6_cut_57 kX6_58 (by decide) ?_
            exact bo_iret (pc := 59) X rfl dX6_cut_59 (fun hi => by unfold xCut; rw [if_neg (by omega)]; exact ⟨rfl, hX, frR.rf⟩)
          · refine bg_iload3 (pc := 50) X1 dX6_cut_50 ?_
            refine bg_sipush (pc := 51) X1 dX6_cut_51 rfl (by decide) ?_
            refine bg_icmp_le (pc := 54) X1 (tgt := 60) dX6_cut_54 (by decide) (fun u54 => ?_) (fun u54 => ?_)
            · refine bg_iload2 (pc := 60) X1 dX6_cut_60 ?_
              refine bg_iload2 (pc := 61) X1 dX6_cut_61 ?_
              refine bg_iload3 (pc := 62) X1 dX6_cut_62 ?_
              refine bg_iadd (pc := 63) X1 dX6_cut_63 (by omega) ?_
              refine bo_min (pc := 64) X1 lX6_139 (by decide) dX6_cut_64 (by exact Nat.le_of_ble_eq_true rfl) ?_
              refine bg_istore6 (pc := 67) X1 dX6_cut_67 ?_
              refine bg_iload5 (pc := 69) X1 dX6_cut_69 ?_
              refine bg_iload2 (pc := 71) X1 dX6_cut_71 ?_
              refine bg_iload2 (pc := 72) X1 dX6_cut_72 ?_
              refine bg_iload3 (pc := 73) X1 dX6_cut_73 ?_
              refine bg_iadd (pc := 74) X1 dX6_cut_74 (by omega) ?_
              refine bo_max (pc := 75) X1 lX6_130 (by decide) dX6_cut_75 (by exact Nat.le_of_ble_eq_true rfl) ?_
              refine bo_min (pc := 78) X1 lX6_139 (by decide) dX6_cut_78 (by exact Nat.le_of_ble_eq_true rfl) ?_
              refine bg_istore7 (pc := 81) X1 dX6_cut_81 ?_
              refine bg_aload0 (pc := 83) X1 dX6_cut_83 ?_
              refine bo_getR (pc := 84) X1 dX6_cut_84 fX6_41 (by first | assumption | rfl) rfl (by first | assumption | rfl) ?_
              refine bo_V0v (pc := 87) X1 (c_X0_clear fc) vX0_clear lX6_142 rfl f1 (by decide) dX6_cut_87 (by exact Nat.le_of_ble_eq_true rfl) ?_
              rintro _ h8
              obtain rfl := h8.symm
              clear h8
              have F0 : frR 153 156 g (bg_up g 153 1 0) := frR.rf.up (by omega) (by omega)
              have Q0 : colR (bg_up g 153 1 0) 153 [] := ⟨by rw [up_eq]; rfl, by simp, fun k hk => by simp at hk⟩
              have C : isHo h ∧ 1 ≤ d ∧ d ≤ dep (qH Z h) (qH Z h).length - 1 ∧ ¬ b = 0 ∧ -d ≤ b ∧ b ≤ 9999 := by omega
              refine bg_aload0 (pc := 90) X1 dX6_cut_90 ?_
              refine bo_getR (pc := 91) X1 dX6_cut_91 fX6_41 (by first | assumption | rfl) rfl (by first | assumption | rfl) ?_
              refine bg_aload4 (pc := 94) X1 dX6_cut_94 ?_
              refine bg_iconst (pc := 96) X1 dX6_cut_96 (by decide) ?_
              refine bg_iload2 (pc := 97) X1 dX6_cut_97 ?_
              refine bo_V3i (pc := 98) X1 (c_X0_appendPart fc hc (by omega) Q0 (hq.fr F0 (by omega)) hv.1 (by omega) (by omega)) vX0_appendPart lX6_145 rfl f1 (by decide) dX6_cut_98 (by exact Nat.le_of_ble_eq_true rfl) ?_
              rintro r98 g2 ⟨y1, y2, y3⟩
              have F1 := F0.tr y2
              refine bg_if_eq (pc := 101) X1 (tgt := 139) dX6_cut_101 (by decide) (fun u101 => ?_) (fun u101 => ?_)
              · have z1 : 24 < (prt (qH Z h) 0 d (qH Z h).length).length := by rcases y1 with y1 | y1; (· have := y1.1; omega); (· simpa using y1.2)
                exact full _ _ _ _ _ _ (by unfold xCut cutL; rw [if_pos C, if_neg (by simp only [List.length_append]; omega)]) F1
              · have z1 : colR g2 153 (prt (qH Z h) 0 d (qH Z h).length) := by rcases y1 with y1 | y1; (· simpa using y1.2); (· have := y1.1; omega)
                refine bg_aload0 (pc := 104) X1 dX6_cut_104 ?_
                refine bo_getR (pc := 105) X1 dX6_cut_105 fX6_41 (by first | assumption | rfl) rfl (by first | assumption | rfl) ?_
                refine bg_aload4 (pc := 108) X1 dX6_cut_108 ?_
                refine bg_iload6 (pc := 110) X1 dX6_cut_110 ?_
                refine bg_iload2 (pc := 112) X1 dX6_cut_112 ?_
                refine bo_V3i (pc := 113) X1 (c_X0_appendPart fc hc (by omega) z1 (hq.fr F1 (by omega)) hv.1 (by omega) (by omega)) vX0_appendPart lX6_145 rfl f1 (by decide) dX6_cut_113 (by exact Nat.le_of_ble_eq_true rfl) ?_
                rintro r113 g3 ⟨y4, y5, y6⟩
                have F2 := F1.tr y5
                refine bg_if_eq (pc := 116) X1 (tgt := 139) dX6_cut_116 (by decide) (fun u116 => ?_) (fun u116 => ?_)
                · have z2 : 24 < (prt (qH Z h) 0 d (qH Z h).length ++ prt (qH Z h) (min d (d + b)) d (qH Z h).length).length := by rcases y4 with y4 | y4; (· have := y4.1; omega); (· exact y4.2)
                  exact full _ _ _ _ _ _ (by unfold xCut cutL; rw [if_pos C, if_neg (by rw [List.length_append] at z2; simp only [List.length_append]; omega)]) F2
                · have z2 : colR g3 153 (prt (qH Z h) 0 d (qH Z h).length ++ prt (qH Z h) (min d (d + b)) d (qH Z h).length) := by rcases y4 with y4 | y4; (· exact y4.2); (· have := y4.1; omega)
                  refine bg_aload0 (pc := 119) X1 dX6_cut_119 ?_
                  refine bo_getR (pc := 120) X1 dX6_cut_120 fX6_41 (by first | assumption | rfl) rfl (by first | assumption | rfl) ?_
                  refine bg_aload4 (pc := 123) X1 dX6_cut_123 ?_
                  refine bg_iload7 (pc := 125) X1 dX6_cut_125 ?_
                  refine bg_iload5 (pc := 127) X1 dX6_cut_127 ?_
                  refine bo_V3i (pc := 129) X1 (c_X0_appendPart fc hc (by omega) z2 (hq.fr F2 (by omega)) hv.1 (by omega) (by omega)) vX0_appendPart lX6_145 rfl f1 (by decide) dX6_cut_129 (by exact Nat.le_of_ble_eq_true rfl) ?_
                  rintro r129 g4 ⟨y7, y8, y9⟩
                  have F3 := F2.tr y8
                  refine bg_if_eq (pc := 132) X1 (tgt := 139) dX6_cut_132 (by decide) (fun u132 => ?_) (fun u132 => ?_)
                  · have z3 : 24 < (cutL (qH Z h) d b).length := by rcases y7 with y7 | y7; (· have := y7.1; omega); (· exact y7.2)
                    exact full _ _ _ _ _ _ (by unfold xCut; rw [if_pos C, if_neg (by omega)]) F3
                  · have z3 : colR g4 153 (cutL (qH Z h) d b) := by rcases y7 with y7 | y7; (· exact y7.2); (· have := y7.1; omega)
                    have hX4 := hX.fr F3 (by omega)
                    refine bg_iconst (pc := 135) X1 dX6_cut_135 (by decide) ?_
                    refine bg_goto (pc := 136) X1 (tgt := 140) dX6_cut_136 (by decide) ?_
                    refine bg_istore8 (pc := 140) X1 dX6_cut_140 ?_
                    refine bg_iload8 (pc := 142) X1 dX6_cut_142 ?_
                    refine bg_if_ne (pc := 144) X1 (tgt := 150) dX6_cut_144 (by decide) (fun u144 => ?_) (fun u144 => ?_)
                    · refine bg_aload0 (pc := 150) X1 dX6_cut_150 ?_
                      refine bo_getR (pc := 151) X1 dX6_cut_151 fX6_19 (by first | assumption | rfl) rfl (by first | assumption | rfl) ?_
                      refine bg_aload0 (pc := 154) X1 dX6_cut_154 ?_
                      refine bo_getR (pc := 155) X1 dX6_cut_155 fX6_10 (by first | assumption | rfl) rfl (by first | assumption | rfl) ?_
                      refine bo_V1v (pc := 158) X1 (c_X1_save hX4.2.1 hX4.1) vX1_save lX6_66 rfl (by first | assumption | rfl) (by decide) dX6_cut_158 (by exact Nat.le_of_ble_eq_true rfl) ?_
                      rintro g5 ⟨x1, x2⟩
                      have hS1 := hX4.1.fr x2 (by omega)
                      refine bg_aload4 (pc := 161) X1 dX6_cut_161 ?_
                      refine bg_aload0 (pc := 163) X1 dX6_cut_163 ?_
                      refine bo_getR (pc := 164) X1 dX6_cut_164 fX6_41 (by first | assumption | rfl) rfl (by first | assumption | rfl) ?_
                      refine bo_V1v (pc := 167) X1 (c_X0_takeBedsOf hc fc (by omega) (z3.fr x2 (by omega))) vX0_takeBedsOf lX6_149 rfl hc.1 (by decide) dX6_cut_167 (by exact Nat.le_of_ble_eq_true rfl) ?_
                      rintro g6 ⟨x3, x4, x5⟩
                      have hS2 := hS1.col (by omega) x4 x3 x5
                      refine bg_aload0 (pc := 170) X1 dX6_cut_170 ?_
                      refine bo_getR (pc := 171) X1 dX6_cut_171 fX6_10 (by first | assumption | rfl) rfl (by first | assumption | rfl) ?_
                      refine bg_iconst (pc := 174) X1 dX6_cut_174 (by decide) ?_
                      refine bg_iload7 (pc := 175) X1 dX6_cut_175 ?_
                      refine bg_iload2 (pc := 177) X1 dX6_cut_177 ?_
                      refine bg_isub (pc := 178) X1 dX6_cut_178 (by omega) ?_
                      refine bo_V2v (pc := 179) X1 (c_X4_book b1 hS2 (by omega)) vX4_book lX6_115 rfl (by first | assumption | rfl) (by decide) dX6_cut_179 (by exact Nat.le_of_ble_eq_true rfl) ?_
                      rintro g7 ⟨x6, x7⟩
                      refine bg_aload0 (pc := 182) X1 dX6_cut_182 ?_
                      refine bo_getR (pc := 183) X1 dX6_cut_183 fX6_10 (by first | assumption | rfl) rfl (by first | assumption | rfl) ?_
                      refine bg_iconst (pc := 186) X1 dX6_cut_186 (by decide) ?_
                      refine bg_iload2 (pc := 187) X1 dX6_cut_187 ?_
                      refine bg_iload6 (pc := 188) X1 dX6_cut_188 ?_
                      refine bg_isub (pc := 190) X1 dX6_cut_190 (by omega) ?_
                      refine bo_V2v (pc := 191) X1 (c_X4_book b1 x6 (by omega)) vX4_book lX6_115 rfl (by first | assumption | rfl) (by decide) dX6_cut_191 (by exact Nat.le_of_ble_eq_true rfl) ?_
                      rintro g8 ⟨x8, x9⟩
                      have hL := (x8.2.2.1 h.toNat (by omega)).2.1
                      refine bg_aload4 (pc := 194) X1 dX6_cut_194 ?_
                      refine bo_V0i (pc := 196) X1 (c_X0_size hc) vX0_size lX6_107 rfl hc.1 (by decide) dX6_cut_196 (by exact Nat.le_of_ble_eq_true rfl) ?_
                      rintro _ _ ⟨h9, h8⟩
                      obtain rfl := h9.symm
                      obtain rfl := h8.symm
                      clear h9 h8
                      exact bo_iret (pc := 199) X rfl dX6_cut_199 (fun hi => by
                          unfold xCut
                          have hl9 := z3.2.1
                          rw [if_pos C, if_pos hl9]
                          refine ⟨hL.trans ?_, ?_⟩
                          · show ((fup Z.1.2.2.2.1 h.toNat (cutL (qH Z h) d b) h.toNat).length : Int) = _
                            rw [fup_eq]
                          · have h9 := hX4.put2 x1 x2 (((x4.wide (by omega) (by omega)).tr x7).tr x9) x8
                            exact ⟨h9.1, (F3.wide (by omega) (by omega)).tr h9.2⟩)
                    · exact absurd u144 (by decide)
            · refine bg_ldc (pc := 57) X1 dX6_cut_57 kX6_58 (by decide) ?_
              exact bo_iret (pc := 59) X rfl dX6_cut_59 (fun hi => by unfold xCut; rw [if_neg (by omega)]; exact ⟨rfl, hX, frR.rf⟩)
  · refine bg_ldc (pc := 7) X1 dX6_cut_7 kX6_58 (by decide) ?_
    exact bo_iret (pc := 9) X rfl dX6_cut_9 (fun hi => by unfold xCut; rw [if_neg (fun h9 => u4 h9.1)]; exact ⟨rfl, hX, frR.rf⟩)
