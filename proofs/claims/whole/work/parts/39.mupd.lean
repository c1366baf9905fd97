/-! the model's calls that change something -/
theorem c_X7_puts {y : bg_Y} {g : bg_E} {p v : Int} {Z : bm_X} (hM : modR g Z) (ok : okX Z) (hp : 0 ≤ p ∧ p < 210) : bg_Si y 1 mX7_puts [.inr 198, .inl p, .inl v] g (fun r g' => r = g 199 p.toNat ∧ ∃ g1, hisM g1 (hPush Z.2.1 Z.1) ∧ sfr g g1 ∧ g' = bg_up g1 199 p.toNat v) := by
  refine bg_enter pnX7 (Nat.le_of_ble_eq_true rfl) (fun κ X hR hg => ?_)
  have X1 : bg_X κ y cX7_puts RX7 1 0 0 := X.1
  have hg : ∀ a k, R32 (g a k) := hg
  show bg_g κ y 0 [some (.inr 198), some (.inl p), some (.inl v), none] [] g
  refine bg_aload0 (pc := 0) X1 dX7_puts_0 ?_
  refine bo_V0v (pc := 1) X1 (c_X7_saves hM ok) vX7_saves lX7_77 rfl (by first | assumption | rfl) (by decide) dX7_puts_1 (by exact Nat.le_of_ble_eq_true rfl) ?_
  rintro g1 ⟨x1, x2⟩
  have e199 : g1 199 = g 199 := x2.at (by decide) (by decide)
  refine bg_aload0 (pc := 4) X1 dX7_puts_4 ?_
  refine bo_getR (pc := 5) X1 dX7_puts_5 fX7_7 (by first | assumption | rfl) rfl (by first | assumption | rfl) ?_
  refine bg_iload1 (pc := 8) X1 dX7_puts_8 ?_
  refine bo_iaload (pc := 9) X1 dX7_puts_9 (by first | assumption | rfl) (by omega) ?_
  refine bg_istore3 (pc := 10) X1 dX7_puts_10 ?_
  refine bg_aload0 (pc := 11) X1 dX7_puts_11 ?_
  refine bo_getR (pc := 12) X1 dX7_puts_12 fX7_7 (by first | assumption | rfl) rfl (by first | assumption | rfl) ?_
  refine bg_iload1 (pc := 15) X1 dX7_puts_15 ?_
  refine bg_iload2 (pc := 16) X1 dX7_puts_16 ?_
  refine bo_iastore (pc := 17) X1 dX7_puts_17 (by first | assumption | rfl) (by omega) ?_
  refine bg_iload3 (pc := 18) X1 dX7_puts_18 ?_
  exact bo_iret (pc := 19) X rfl dX7_puts_19 (fun hi => ⟨by rw [e199], g1, x1, x2, rfl⟩)
theorem c_X7_comes {y : bg_Y} {g : bg_E} {a t : Int} (ha : 1 ≤ a ∧ a < 5) : bg_Sv y 0 mX7_comes [.inr 198, .inl a, .inl t] g (fun g' => g' = bg_up g 199 (13 + a.toNat) (bg_wr (g 199 (13 + a.toNat) + t))) := by
  refine bg_enter pnX7 (Nat.le_of_ble_eq_true rfl) (fun κ X hR hg => ?_)
  have X1 : bg_X κ y cX7_comes RX7 0 0 0 := X.1
  have hg : ∀ a k, R32 (g a k) := hg
  show bg_g κ y 0 [some (.inr 198), some (.inl a), some (.inl t)] [] g
  refine bg_aload0 (pc := 0) X1 dX7_comes_0 ?_
  refine bo_getR (pc := 1) X1 dX7_comes_1 fX7_7 (by first | assumption | rfl) rfl (by first | assumption | rfl) ?_
  refine bg_bipush (pc := 4) X1 dX7_comes_4 rfl (by decide) ?_
  refine bg_iload1 (pc := 6) X1 dX7_comes_6 ?_
  refine bg_iadd (pc := 7) X1 dX7_comes_7 (by omega) ?_
  refine bg_iconst (pc := 8) X1 dX7_comes_8 (by decide) ?_
  refine bg_isub (pc := 9) X1 dX7_comes_9 (by omega) ?_
  refine bg_dup2 (pc := 10) X1 dX7_comes_10 ?_
  refine bo_iaload (pc := 11) X1 dX7_comes_11 (by first | assumption | rfl) (by omega) ?_
  refine bg_iload2 (pc := 12) X1 dX7_comes_12 ?_
  refine bg_iaddW (pc := 13) X1 dX7_comes_13 ?_
  refine bo_iastore (pc := 14) X1 dX7_comes_14 (by first | assumption | rfl) (by omega) ?_
  exact bo_vret (pc := 15) X rfl dX7_comes_15 (fun hg9 => by rw [show (14 + a - 1).toNat = 13 + a.toNat by omega])
theorem c_X7_setNumber {y : bg_Y} {g : bg_E} {w v : Int} {Z : bm_X} (hM : modR g Z) (ok : okX Z) : bg_Si y 6 mX7_setNumber [.inr 198, .inl w, .inl v] g (fun r g' => r = (xSetNumber Z w v).1 ∧ modR g' (xSetNumber Z w v).2 ∧ frR 198 214 g g') := by
  have hb0 : w = 2 → bg_least w.toNat = 0 := fun h => by subst h; rfl
  have hb1 : 0 ≤ w → w < 5 → ¬ w = 2 → bg_least w.toNat = 1 := fun h1 h2 h3 => by
    have hc : w = 0 ∨ w = 1 ∨ w = 3 ∨ w = 4 := by omega
    rcases hc with rfl | rfl | rfl | rfl <;> rfl
  refine bg_enter pnX7 (Nat.le_of_ble_eq_true rfl) (fun κ X hR hg => ?_)
  have X1 : bg_X κ y cX7_setNumber RX7 6 0 0 := X.1
  have hg : ∀ a k, R32 (g a k) := hg
  show bg_g κ y 0 [some (.inr 198), some (.inl w), some (.inl v)] [] g
  refine bg_iload1 (pc := 0) X1 dX7_setNumber_0 ?_
  refine bg_iconst (pc := 1) X1 dX7_setNumber_1 (by decide) ?_
  refine bg_iconst (pc := 2) X1 dX7_setNumber_2 (by decide) ?_
  refine bo_S3i (pc := 3) X1 (c_X7_in) sX7_in lX7_59 rfl (by decide) dX7_setNumber_3 (by exact Nat.le_of_ble_eq_true rfl) ?_
  rintro _ _ ⟨h9, h8⟩
  obtain rfl := h9.symm
  obtain rfl := h8.symm
  clear h9 h8
  refine bo_ifeq_b (pc := 6) X1 (tgt := 39) dX7_setNumber_6 (by decide) (fun u6 => ?_) (fun u6 => ?_)
  · refine bg_ldc (pc := 39) X1 dX7_setNumber_39 kX7_87 (by decide) ?_
    exact bo_iret (pc := 41) X rfl dX7_setNumber_41 (fun hi => by
        unfold xSetNumber
        first
        | (rw [if_neg (by omega)]; exact ⟨rfl, hM, frR.rf⟩)
        | (rw [if_pos (by omega)]
           exact ⟨hM.1.1 _ (by omega), hM.put x1 x2 (fun x hx => bg_up_ne hx) (by rw [up_F, x2.at (by decide) (by decide)]; exact hM.1.num (by omega))⟩))
  · refine bg_iload2 (pc := 9) X1 dX7_setNumber_9 ?_
    refine bg_iload1 (pc := 10) X1 dX7_setNumber_10 ?_
    refine bg_iconst (pc := 11) X1 dX7_setNumber_11 (by decide) ?_
    refine bg_icmp_ne (pc := 12) X1 (tgt := 19) dX7_setNumber_12 (by decide) (fun u12 => ?_) (fun u12 => ?_)
    · have hb := hb1 (by omega) (by omega) u12
      refine bg_iconst (pc := 19) X1 dX7_setNumber_19 (by decide) ?_
      refine bg_iload1 (pc := 20) X1 dX7_setNumber_20 ?_
      refine bo_S1i (pc := 21) X1 (c_X7_mostOf (by omega)) sX7_mostOf lX7_80 rfl (by decide) dX7_setNumber_21 (by exact Nat.le_of_ble_eq_true rfl) ?_
      rintro _ _ ⟨h9, h8⟩
      obtain rfl := h9.symm
      obtain rfl := h8.symm
      clear h9 h8
      refine bo_S3i (pc := 24) X1 (c_X7_in) sX7_in lX7_59 rfl (by decide) dX7_setNumber_24 (by exact Nat.le_of_ble_eq_true rfl) ?_
      rintro _ _ ⟨h9, h8⟩
      obtain rfl := h9.symm
      obtain rfl := h8.symm
      clear h9 h8
      refine bo_ifeq_b (pc := 27) X1 (tgt := 39) dX7_setNumber_27 (by decide) (fun u27 => ?_) (fun u27 => ?_)
      · refine bg_ldc (pc := 39) X1 dX7_setNumber_39 kX7_87 (by decide) ?_
        exact bo_iret (pc := 41) X rfl dX7_setNumber_41 (fun hi => by
            unfold xSetNumber
            first
            | (rw [if_neg (by omega)]; exact ⟨rfl, hM, frR.rf⟩)
            | (rw [if_pos (by omega)]
               exact ⟨hM.1.1 _ (by omega), hM.put x1 x2 (fun x hx => bg_up_ne hx) (by rw [up_F, x2.at (by decide) (by decide)]; exact hM.1.num (by omega))⟩))
      · refine bg_aload0 (pc := 30) X1 dX7_setNumber_30 ?_
        refine bg_iload1 (pc := 31) X1 dX7_setNumber_31 ?_
        refine bg_iload2 (pc := 32) X1 dX7_setNumber_32 ?_
        refine bo_V2i (pc := 33) X1 (c_X7_puts hM ok (by omega)) vX7_puts lX7_84 rfl (by first | assumption | rfl) (by decide) dX7_setNumber_33 (by exact Nat.le_of_ble_eq_true rfl) ?_
        rintro r33 g2 ⟨z1, g1, x1, x2, x3⟩
        subst z1
        subst x3
        refine bg_goto (pc := 36) X1 (tgt := 41) dX7_setNumber_36 (by decide) ?_
        exact bo_iret (pc := 41) X rfl dX7_setNumber_41 (fun hi => by
            unfold xSetNumber
            first
            | (rw [if_neg (by omega)]; exact ⟨rfl, hM, frR.rf⟩)
            | (rw [if_pos (by omega)]
               exact ⟨hM.1.1 _ (by omega), hM.put x1 x2 (fun x hx => bg_up_ne hx) (by rw [up_F, x2.at (by decide) (by decide)]; exact hM.1.num (by omega))⟩))
    · have hb := hb0 u12
      refine bg_iconst (pc := 15) X1 dX7_setNumber_15 (by decide) ?_
      refine bg_goto (pc := 16) X1 (tgt := 20) dX7_setNumber_16 (by decide) ?_
      refine bg_iload1 (pc := 20) X1 dX7_setNumber_20 ?_
      refine bo_S1i (pc := 21) X1 (c_X7_mostOf (by omega)) sX7_mostOf lX7_80 rfl (by decide) dX7_setNumber_21 (by exact Nat.le_of_ble_eq_true rfl) ?_
      rintro _ _ ⟨h9, h8⟩
      obtain rfl := h9.symm
      obtain rfl := h8.symm
      clear h9 h8
      refine bo_S3i (pc := 24) X1 (c_X7_in) sX7_in lX7_59 rfl (by decide) dX7_setNumber_24 (by exact Nat.le_of_ble_eq_true rfl) ?_
      rintro _ _ ⟨h9, h8⟩
      obtain rfl := h9.symm
      obtain rfl := h8.symm
      clear h9 h8
      refine bo_ifeq_b (pc := 27) X1 (tgt := 39) dX7_setNumber_27 (by decide) (fun u27 => ?_) (fun u27 => ?_)
      · refine bg_ldc (pc := 39) X1 dX7_setNumber_39 kX7_87 (by decide) ?_
        exact bo_iret (pc := 41) X rfl dX7_setNumber_41 (fun hi => by
            unfold xSetNumber
            first
            | (rw [if_neg (by omega)]; exact ⟨rfl, hM, frR.rf⟩)
            | (rw [if_pos (by omega)]
               exact ⟨hM.1.1 _ (by omega), hM.put x1 x2 (fun x hx => bg_up_ne hx) (by rw [up_F, x2.at (by decide) (by decide)]; exact hM.1.num (by omega))⟩))
      · refine bg_aload0 (pc := 30) X1 dX7_setNumber_30 ?_
        refine bg_iload1 (pc := 31) X1 dX7_setNumber_31 ?_
        refine bg_iload2 (pc := 32) X1 dX7_setNumber_32 ?_
        refine bo_V2i (pc := 33) X1 (c_X7_puts hM ok (by omega)) vX7_puts lX7_84 rfl (by first | assumption | rfl) (by decide) dX7_setNumber_33 (by exact Nat.le_of_ble_eq_true rfl) ?_
        rintro r33 g2 ⟨z1, g1, x1, x2, x3⟩
        subst z1
        subst x3
        refine bg_goto (pc := 36) X1 (tgt := 41) dX7_setNumber_36 (by decide) ?_
        exact bo_iret (pc := 41) X rfl dX7_setNumber_41 (fun hi => by
            unfold xSetNumber
            first
            | (rw [if_neg (by omega)]; exact ⟨rfl, hM, frR.rf⟩)
            | (rw [if_pos (by omega)]
               exact ⟨hM.1.1 _ (by omega), hM.put x1 x2 (fun x hx => bg_up_ne hx) (by rw [up_F, x2.at (by decide) (by decide)]; exact hM.1.num (by omega))⟩))
theorem c_X7_setKey {y : bg_Y} {g : bg_E} {m i : Int} {Z : bm_X} (hM : modR g Z) (ok : okX Z) : bg_Si y 6 mX7_setKey [.inr 198, .inl m, .inl i] g (fun r g' => r = (xSetKey Z m i).1 ∧ modR g' (xSetKey Z m i).2 ∧ frR 198 214 g g') := by
  refine bg_enter pnX7 (Nat.le_of_ble_eq_true rfl) (fun κ X hR hg => ?_)
  have X1 : bg_X κ y cX7_setKey RX7 6 0 0 := X.1
  have hg : ∀ a k, R32 (g a k) := hg
  show bg_g κ y 0 [some (.inr 198), some (.inl m), some (.inl i), none] [] g
  refine bg_iload1 (pc := 0) X1 dX7_setKey_0 ?_
  refine bo_S1i (pc := 1) X1 (c_X7_isMark) sX7_isMark lX7_88 rfl (by decide) dX7_setKey_1 (by exact Nat.le_of_ble_eq_true rfl) ?_
  rintro _ _ ⟨h9, h8⟩
  obtain rfl := h9.symm
  obtain rfl := h8.symm
  clear h9 h8
  refine bo_ifeq_b (pc := 4) X1 (tgt := 16) dX7_setKey_4 (by decide) (fun u4 => ?_) (fun u4 => ?_)
  · refine bg_ldc (pc := 16) X1 dX7_setKey_16 kX7_87 (by decide) ?_
    exact bo_iret (pc := 18) X rfl dX7_setKey_18 (fun hi => by unfold xSetKey; rw [if_neg (by omega)]; exact ⟨rfl, hM, frR.rf⟩)
  · refine bg_iload2 (pc := 7) X1 dX7_setKey_7 ?_
    refine bg_iconst (pc := 8) X1 dX7_setKey_8 (by decide) ?_
    refine bg_iconst (pc := 9) X1 dX7_setKey_9 (by decide) ?_
    refine bo_S3i (pc := 10) X1 (c_X7_in) sX7_in lX7_59 rfl (by decide) dX7_setKey_10 (by exact Nat.le_of_ble_eq_true rfl) ?_
    rintro _ _ ⟨h9, h8⟩
    obtain rfl := h9.symm
    obtain rfl := h8.symm
    clear h9 h8
    refine bo_ifne_b (pc := 13) X1 (tgt := 19) dX7_setKey_13 (by decide) (fun u13 => ?_) (fun u13 => ?_)
    · refine bg_aload0 (pc := 19) X1 dX7_setKey_19 ?_
      refine bo_V0v (pc := 20) X1 (c_X7_saves hM ok) vX7_saves lX7_77 rfl (by first | assumption | rfl) (by decide) dX7_setKey_20 (by exact Nat.le_of_ble_eq_true rfl) ?_
      rintro g1 ⟨x1, x2⟩
      have e199 : g1 199 = g 199 := x2.at (by decide) (by decide)
      have e5 : g1 199 (5 : Int).toNat = Z.1.2.1 := by rw [e199]; exact hM.1.2.1
      refine bg_aload0 (pc := 23) X1 dX7_setKey_23 ?_
      refine bo_getR (pc := 24) X1 dX7_setKey_24 fX7_7 (by first | assumption | rfl) rfl (by first | assumption | rfl) ?_
      refine bg_iconst (pc := 27) X1 dX7_setKey_27 (by decide) ?_
      refine bo_iaload (pc := 28) X1 dX7_setKey_28 (by first | assumption | rfl) (by omega) ?_
      rw [e5]
      refine bg_iload1 (pc := 29) X1 dX7_setKey_29 ?_
      refine bg_ishr (pc := 30) X1 dX7_setKey_30 ?_
      refine bg_iconst (pc := 31) X1 dX7_setKey_31 (by decide) ?_
      refine bg_iand (pc := 32) X1 dX7_setKey_32 ?_
      refine bg_istore3 (pc := 33) X1 dX7_setKey_33 ?_
      refine bg_aload0 (pc := 34) X1 dX7_setKey_34 ?_
      refine bo_getR (pc := 35) X1 dX7_setKey_35 fX7_7 (by first | assumption | rfl) rfl (by first | assumption | rfl) ?_
      refine bg_iconst (pc := 38) X1 dX7_setKey_38 (by decide) ?_
      refine bg_aload0 (pc := 39) X1 dX7_setKey_39 ?_
      refine bo_getR (pc := 40) X1 dX7_setKey_40 fX7_7 (by first | assumption | rfl) rfl (by first | assumption | rfl) ?_
      refine bg_iconst (pc := 43) X1 dX7_setKey_43 (by decide) ?_
      refine bo_iaload (pc := 44) X1 dX7_setKey_44 (by first | assumption | rfl) (by omega) ?_
      rw [e5]
      refine bg_iconst (pc := 45) X1 dX7_setKey_45 (by decide) ?_
      refine bg_iload1 (pc := 46) X1 dX7_setKey_46 ?_
      refine bg_ishl (pc := 47) X1 dX7_setKey_47 ?_
      refine bg_iconst (pc := 48) X1 dX7_setKey_48 (by decide) ?_
      refine bg_ixor (pc := 49) X1 dX7_setKey_49 ?_
      refine bg_iand (pc := 50) X1 dX7_setKey_50 ?_
      refine bg_iload2 (pc := 51) X1 dX7_setKey_51 ?_
      refine bg_iload1 (pc := 52) X1 dX7_setKey_52 ?_
      refine bg_ishl (pc := 53) X1 dX7_setKey_53 ?_
      refine bg_ior (pc := 54) X1 dX7_setKey_54 ?_
      refine bo_iastore (pc := 55) X1 dX7_setKey_55 (by first | assumption | rfl) (by omega) ?_
      refine bg_iload3 (pc := 56) X1 dX7_setKey_56 ?_
      exact bo_iret (pc := 57) X rfl dX7_setKey_57 (fun hi => by
          unfold xSetKey
          rw [if_pos (by omega)]
          exact ⟨rfl, hM.put x1 x2 (fun x hx => bg_up_ne hx) (by rw [show (5 : Int).toNat = 5 from rfl, up_F, e199]; exact hM.1.key)⟩)
    · refine bg_ldc (pc := 16) X1 dX7_setKey_16 kX7_87 (by decide) ?_
      exact bo_iret (pc := 18) X rfl dX7_setKey_18 (fun hi => by unfold xSetKey; rw [if_neg (by omega)]; exact ⟨rfl, hM, frR.rf⟩)
theorem c_X7_setCollar {y : bg_Y} {g : bg_E} {h e : Int} {Z : bm_X} (hM : modR g Z) (ok : okX Z) : bg_Si y 6 mX7_setCollar [.inr 198, .inl h, .inl e] g (fun r g' => r = (xSetCollar Z h e).1 ∧ modR g' (xSetCollar Z h e).2 ∧ frR 198 214 g g') := by
  refine bg_enter pnX7 (Nat.le_of_ble_eq_true rfl) (fun κ X hR hg => ?_)
  have X1 : bg_X κ y cX7_setCollar RX7 6 0 0 := X.1
  have hg : ∀ a k, R32 (g a k) := hg
  show bg_g κ y 0 [some (.inr 198), some (.inl h), some (.inl e)] [] g
  refine bg_iload1 (pc := 0) X1 dX7_setCollar_0 ?_
  refine bo_S1i (pc := 1) X1 (c_X7_isHole) sX7_isHole lX7_63 rfl (by decide) dX7_setCollar_1 (by exact Nat.le_of_ble_eq_true rfl) ?_
  rintro _ _ ⟨h9, h8⟩
  obtain rfl := h9.symm
  obtain rfl := h8.symm
  clear h9 h8
  refine bo_ifeq_b (pc := 4) X1 (tgt := 32) dX7_setCollar_4 (by decide) (fun u4 => ?_) (fun u4 => ?_)
  · refine bg_ldc (pc := 32) X1 dX7_setCollar_32 kX7_87 (by decide) ?_
    exact bo_iret (pc := 34) X rfl dX7_setCollar_34 (fun hi => by
        unfold xSetCollar
        first
        | (rw [if_neg (by omega)]; exact ⟨rfl, hM, frR.rf⟩)
        | (rw [if_pos (by omega)]
           exact ⟨row_col hM.1 u4, hM.put x1 x2 (fun x hx => bg_up_ne hx) (by rw [show (6 + h).toNat = 6 + h.toNat by omega, up_F, x2.at (by decide) (by decide)]; exact hM.1.coll (by omega))⟩))
  · refine bg_iload2 (pc := 7) X1 dX7_setCollar_7 ?_
    refine bg_sipush (pc := 8) X1 dX7_setCollar_8 rfl (by decide) ?_
    refine bg_sipush (pc := 11) X1 dX7_setCollar_11 rfl (by decide) ?_
    refine bo_S3i (pc := 14) X1 (c_X7_in) sX7_in lX7_59 rfl (by decide) dX7_setCollar_14 (by exact Nat.le_of_ble_eq_true rfl) ?_
    rintro _ _ ⟨h9, h8⟩
    obtain rfl := h9.symm
    obtain rfl := h8.symm
    clear h9 h8
    refine bo_ifeq_b (pc := 17) X1 (tgt := 32) dX7_setCollar_17 (by decide) (fun u17 => ?_) (fun u17 => ?_)
    · refine bg_ldc (pc := 32) X1 dX7_setCollar_32 kX7_87 (by decide) ?_
      exact bo_iret (pc := 34) X rfl dX7_setCollar_34 (fun hi => by
          unfold xSetCollar
          first
          | (rw [if_neg (by omega)]; exact ⟨rfl, hM, frR.rf⟩)
          | (rw [if_pos (by omega)]
             exact ⟨row_col hM.1 u4, hM.put x1 x2 (fun x hx => bg_up_ne hx) (by rw [show (6 + h).toNat = 6 + h.toNat by omega, up_F, x2.at (by decide) (by decide)]; exact hM.1.coll (by omega))⟩))
    · refine bg_aload0 (pc := 20) X1 dX7_setCollar_20 ?_
      refine bg_bipush (pc := 21) X1 dX7_setCollar_21 rfl (by decide) ?_
      refine bg_iload1 (pc := 23) X1 dX7_setCollar_23 ?_
      refine bg_iadd (pc := 24) X1 dX7_setCollar_24 (by omega) ?_
      refine bg_iload2 (pc := 25) X1 dX7_setCollar_25 ?_
      refine bo_V2i (pc := 26) X1 (c_X7_puts hM ok (by omega)) vX7_puts lX7_84 rfl (by first | assumption | rfl) (by decide) dX7_setCollar_26 (by exact Nat.le_of_ble_eq_true rfl) ?_
      rintro r26 g2 ⟨z1, g1, x1, x2, x3⟩
      subst z1
      subst x3
      refine bg_goto (pc := 29) X1 (tgt := 34) dX7_setCollar_29 (by decide) ?_
      exact bo_iret (pc := 34) X rfl dX7_setCollar_34 (fun hi => by
          unfold xSetCollar
          first
          | (rw [if_neg (by omega)]; exact ⟨rfl, hM, frR.rf⟩)
          | (rw [if_pos (by omega)]
             exact ⟨row_col hM.1 u4, hM.put x1 x2 (fun x hx => bg_up_ne hx) (by rw [show (6 + h).toNat = 6 + h.toNat by omega, up_F, x2.at (by decide) (by decide)]; exact hM.1.coll (by omega))⟩))
theorem c_X7_adds {y : bg_Y} {g : bg_E} {h i m t : Int} {S : bm_S} (hS : rowR (g 199) S) (ok : staOK S) (hh : isHo h) (hi : 0 ≤ i ∧ i ≤ ((sq S h).length : Int)) (hlt : (sq S h).length < 24) : bg_Sv y 1 mX7_adds [.inr 198, .inl h, .inl i, .inl m, .inl t] g (fun g' => rowR (g' 199) (sBed S h.toNat (insB (sq S h) i.toNat (m, t))) ∧ ∀ x, ¬ x = 199 → g' x = g x) := by
  have hrl := row_len hS hh
  refine bg_enter pnX7 (Nat.le_of_ble_eq_true rfl) (fun κ X hR hg => ?_)
  have X1 : bg_X κ y cX7_adds RX7 1 0 0 := X.1
  have hg : ∀ a k, R32 (g a k) := hg
  show bg_g κ y 0 [some (.inr 198), some (.inl h), some (.inl i), some (.inl m), some (.inl t), none] [] g
  have loop : ∀ (r k e : Nat) (a : Int), a = (e : Int) → (e : Int) + 1 = 18 + 48 * h + 2 * i + r → (k : Int) + r = 2 * (((sq S h).length : Int) - i) → bg_g κ y 17 [some (.inr 198), some (.inl h), some (.inl i), some (.inl m), some (.inl t), some (.inl a)] [] (cp g 199 (e + 3) 199 (e + 1) k) := by
    intro r
    induction r with
    | zero =>
      intro k e a ha he hk
      refine bg_iload5 (pc := 17) X1 dX7_adds_17 ?_
      refine bg_iload1 (pc := 19) X1 dX7_adds_19 ?_
      refine bg_iload2 (pc := 20) X1 dX7_adds_20 ?_
      refine bo_S2i (pc := 21) X1 (c_X7_at hh (by omega)) sX7_at lX7_67 rfl (by decide) dX7_adds_21 (by exact Nat.le_of_ble_eq_true rfl) ?_
      rintro _ _ ⟨h9, h8⟩
      obtain rfl := h9.symm
      obtain rfl := h8.symm
      clear h9 h8
      refine bg_icmp_lt (pc := 24) X1 (tgt := 49) dX7_adds_24 (by decide) (fun u24 => ?_) (fun u24 => ?_)
      · refine bg_aload0 (pc := 49) X1 dX7_adds_49 ?_
        refine bo_getR (pc := 50) X1 dX7_adds_50 fX7_7 (by first | assumption | rfl) rfl (by first | assumption | rfl) ?_
        refine bg_iload1 (pc := 53) X1 dX7_adds_53 ?_
        refine bg_iload2 (pc := 54) X1 dX7_adds_54 ?_
        refine bo_S2i (pc := 55) X1 (c_X7_at hh (by omega)) sX7_at lX7_67 rfl (by decide) dX7_adds_55 (by exact Nat.le_of_ble_eq_true rfl) ?_
        rintro _ _ ⟨h9, h8⟩
        obtain rfl := h9.symm
        obtain rfl := h8.symm
        clear h9 h8
        refine bg_iload3 (pc := 58) X1 dX7_adds_58 ?_
        refine bo_iastore (pc := 59) X1 dX7_adds_59 (by first | assumption | rfl) (by omega) ?_
        refine bg_aload0 (pc := 60) X1 dX7_adds_60 ?_
        refine bo_getR (pc := 61) X1 dX7_adds_61 fX7_7 (by first | assumption | rfl) rfl (by first | assumption | rfl) ?_
        refine bg_iload1 (pc := 64) X1 dX7_adds_64 ?_
        refine bg_iload2 (pc := 65) X1 dX7_adds_65 ?_
        refine bo_S2i (pc := 66) X1 (c_X7_at hh (by omega)) sX7_at lX7_67 rfl (by decide) dX7_adds_66 (by exact Nat.le_of_ble_eq_true rfl) ?_
        rintro _ _ ⟨h9, h8⟩
        obtain rfl := h9.symm
        obtain rfl := h8.symm
        clear h9 h8
        refine bg_iconst (pc := 69) X1 dX7_adds_69 (by decide) ?_
        refine bg_iadd (pc := 70) X1 dX7_adds_70 (by omega) ?_
        refine bg_iload4 (pc := 71) X1 dX7_adds_71 ?_
        refine bo_iastore (pc := 73) X1 dX7_adds_73 (by first | assumption | rfl) (by omega) ?_
        refine bg_aload0 (pc := 74) X1 dX7_adds_74 ?_
        refine bo_getR (pc := 75) X1 dX7_adds_75 fX7_7 (by first | assumption | rfl) rfl (by first | assumption | rfl) ?_
        refine bg_bipush (pc := 78) X1 dX7_adds_78 rfl (by decide) ?_
        refine bg_iload1 (pc := 80) X1 dX7_adds_80 ?_
        refine bg_iadd (pc := 81) X1 dX7_adds_81 (by omega) ?_
        refine bg_dup2 (pc := 82) X1 dX7_adds_82 ?_
        refine bo_iaload (pc := 83) X1 dX7_adds_83 (by first | assumption | rfl) (by omega) ?_
        rw [up_k (by omega), up_k (by omega), cp_o (by omega), hrl]
        refine bg_iconst (pc := 84) X1 dX7_adds_84 (by decide) ?_
        refine bg_iadd (pc := 85) X1 dX7_adds_85 (by omega) ?_
        refine bo_iastore (pc := 86) X1 dX7_adds_86 (by first | assumption | rfl) (by omega) ?_
        exact bo_vret (pc := 87) X rfl dX7_adds_87 (fun hg9 => by
            have R := fun x hx => hS.2.2.2.1 h.toNat x (by omega) hx
            refine ⟨hS.bed (ok_len ok) (by omega) ?_ (fun k hk => ?_) (fun j h1 h2 => ?_), fun x hx => by rw [bg_up_ne hx, bg_up_ne hx, bg_up_ne hx, cp_A hx]⟩
            · rw [insB_length (show i.toNat ≤ (sq S h).length by omega), up_e (by omega)]; rfl
            · rw [insB_length (show i.toNat ≤ (sq S h).length by omega)] at hk
              unfold mrk th
              rw [insB_get (show i.toNat ≤ (sq S h).length by omega)]
              by_cases h1 : k < i.toNat
              · rw [if_pos h1]
                exact ⟨by rw [up_k (by omega), up_k (by omega), up_k (by omega), cp_o (by omega)]; exact (R k (show k < (sq S h).length by omega)).1, by rw [up_k (by omega), up_k (by omega), up_k (by omega), cp_o (by omega)]; exact (R k (show k < (sq S h).length by omega)).2⟩
              · rw [if_neg h1]
                by_cases h2 : k = i.toNat
                · rw [if_pos h2]
                  exact ⟨by rw [up_k (by omega), up_k (by omega), up_e (by omega)], by rw [up_k (by omega), up_e (by omega)]⟩
                · rw [if_neg h2]
                  exact ⟨by rw [up_k (by omega), up_k (by omega), up_k (by omega), cp_i (j' := 18 + 48 * h.toNat + 2 * (k - 1)) (by omega) (by omega)]; exact (R (k - 1) (show k - 1 < (sq S h).length by omega)).1, by rw [up_k (by omega), up_k (by omega), up_k (by omega), cp_i (j' := 18 + 48 * h.toNat + 2 * (k - 1) + 1) (by omega) (by omega)]; exact (R (k - 1) (show k - 1 < (sq S h).length by omega)).2⟩
            · rw [up_k (by omega), up_k (by omega), up_k (by omega), cp_o (by omega)])
      · exfalso; omega
    | succ r ih =>
      intro k e a ha he hk
      obtain ⟨e0, rfl⟩ : ∃ e0, e = e0 + 1 := ⟨e - 1, by omega⟩
      refine bg_iload5 (pc := 17) X1 dX7_adds_17 ?_
      refine bg_iload1 (pc := 19) X1 dX7_adds_19 ?_
      refine bg_iload2 (pc := 20) X1 dX7_adds_20 ?_
      refine bo_S2i (pc := 21) X1 (c_X7_at hh (by omega)) sX7_at lX7_67 rfl (by decide) dX7_adds_21 (by exact Nat.le_of_ble_eq_true rfl) ?_
      rintro _ _ ⟨h9, h8⟩
      obtain rfl := h9.symm
      obtain rfl := h8.symm
      clear h9 h8
      refine bg_icmp_lt (pc := 24) X1 (tgt := 49) dX7_adds_24 (by decide) (fun u24 => ?_) (fun u24 => ?_)
      · exfalso; omega
      · refine bg_aload0 (pc := 27) X1 dX7_adds_27 ?_
        refine bo_getR (pc := 28) X1 dX7_adds_28 fX7_7 (by first | assumption | rfl) rfl (by first | assumption | rfl) ?_
        refine bg_iload5 (pc := 31) X1 dX7_adds_31 ?_
        refine bg_iconst (pc := 33) X1 dX7_adds_33 (by decide) ?_
        refine bg_iadd (pc := 34) X1 dX7_adds_34 (by omega) ?_
        refine bg_aload0 (pc := 35) X1 dX7_adds_35 ?_
        refine bo_getR (pc := 36) X1 dX7_adds_36 fX7_7 (by first | assumption | rfl) rfl (by first | assumption | rfl) ?_
        refine bg_iload5 (pc := 39) X1 dX7_adds_39 ?_
        refine bo_iaload (pc := 41) X1 dX7_adds_41 (by first | assumption | rfl) (by omega) ?_
        refine bo_iastore (pc := 42) X1 dX7_adds_42 (by first | assumption | rfl) (by omega) ?_
        refine bg_iinc5 (pc := 43) X1 dX7_adds_43 (by omega) ?_
        refine bg_goto (pc := 46) X1 (tgt := 17) dX7_adds_46 (by decide) ?_
        rw [show a.toNat = e0 + 1 by omega, cp_d (by omega)]
        exact ih (k + 1) e0 _ (by omega) (by omega) (by omega)
  refine bg_iload1 (pc := 0) X1 dX7_adds_0 ?_
  refine bg_aload0 (pc := 1) X1 dX7_adds_1 ?_
  refine bo_getR (pc := 2) X1 dX7_adds_2 fX7_7 (by first | assumption | rfl) rfl (by first | assumption | rfl) ?_
  refine bg_bipush (pc := 5) X1 dX7_adds_5 rfl (by decide) ?_
  refine bg_iload1 (pc := 7) X1 dX7_adds_7 ?_
  refine bg_iadd (pc := 8) X1 dX7_adds_8 (by omega) ?_
  refine bo_iaload (pc := 9) X1 dX7_adds_9 (by first | assumption | rfl) (by omega) ?_
  rw [hrl]
  refine bo_S2i (pc := 10) X1 (c_X7_at hh (by omega)) sX7_at lX7_67 rfl (by decide) dX7_adds_10 (by exact Nat.le_of_ble_eq_true rfl) ?_
  rintro _ _ ⟨h9, h8⟩
  obtain rfl := h9.symm
  obtain rfl := h8.symm
  clear h9 h8
  refine bg_iconst (pc := 13) X1 dX7_adds_13 (by decide) ?_
  refine bg_isub (pc := 14) X1 dX7_adds_14 (by omega) ?_
  refine bg_istore5 (pc := 15) X1 dX7_adds_15 ?_
  have := loop (2 * ((sq S h).length - i.toNat)) 0 (18 + 48 * h.toNat + 2 * (sq S h).length - 1) (18 + 48 * h + 2 * ((sq S h).length : Int) - 1) (by omega) (by omega) (by omega)
  rw [cp_0] at this
  exact this
theorem c_X7_addBed {y : bg_Y} {g : bg_E} {h i m t : Int} {Z : bm_X} (hM : modR g Z) (ok : okX Z) : bg_Si y 6 mX7_addBed [.inr 198, .inl h, .inl i, .inl m, .inl t] g (fun r g' => r = (xAddBed Z h i m t).1 ∧ modR g' (xAddBed Z h i m t).2 ∧ frR 198 214 g g') := by
  refine bg_enter pnX7 (Nat.le_of_ble_eq_true rfl) (fun κ X hR hg => ?_)
  have X1 : bg_X κ y cX7_addBed RX7 6 0 0 := X.1
  have hg : ∀ a k, R32 (g a k) := hg
  show bg_g κ y 0 [some (.inr 198), some (.inl h), some (.inl i), some (.inl m), some (.inl t)] [] g
  refine bg_iload1 (pc := 0) X1 dX7_addBed_0 ?_
  refine bo_S1i (pc := 1) X1 (c_X7_isHole) sX7_isHole lX7_63 rfl (by decide) dX7_addBed_1 (by exact Nat.le_of_ble_eq_true rfl) ?_
  rintro _ _ ⟨h9, h8⟩
  obtain rfl := h9.symm
  obtain rfl := h8.symm
  clear h9 h8
  refine bo_ifeq_b (pc := 4) X1 (tgt := 42) dX7_addBed_4 (by decide) (fun u4 => ?_) (fun u4 => ?_)
  · refine bg_ldc (pc := 42) X1 dX7_addBed_42 kX7_87 (by decide) ?_
    exact bo_iret (pc := 44) X rfl dX7_addBed_44 (fun hi => by unfold xAddBed; rw [if_neg (by omega)]; exact ⟨rfl, hM, frR.rf⟩)
  · have hl := (sq_OK ok.1 u4).2
    have eq9 : (qH Z h).length = (sq Z.1 h).length := rfl
    refine bg_iload2 (pc := 7) X1 dX7_addBed_7 ?_
    refine bg_if_lt (pc := 8) X1 (tgt := 42) dX7_addBed_8 (by decide) (fun u8 => ?_) (fun u8 => ?_)
    · refine bg_ldc (pc := 42) X1 dX7_addBed_42 kX7_87 (by decide) ?_
      exact bo_iret (pc := 44) X rfl dX7_addBed_44 (fun hi => by unfold xAddBed; rw [if_neg (by omega)]; exact ⟨rfl, hM, frR.rf⟩)
    · refine bg_iload2 (pc := 11) X1 dX7_addBed_11 ?_
      refine bg_aload0 (pc := 12) X1 dX7_addBed_12 ?_
      refine bo_getR (pc := 13) X1 dX7_addBed_13 fX7_7 (by first | assumption | rfl) rfl (by first | assumption | rfl) ?_
      refine bg_bipush (pc := 16) X1 dX7_addBed_16 rfl (by decide) ?_
      refine bg_iload1 (pc := 18) X1 dX7_addBed_18 ?_
      refine bg_iadd (pc := 19) X1 dX7_addBed_19 (by omega) ?_
      refine bo_iaload (pc := 20) X1 dX7_addBed_20 (by first | assumption | rfl) (by omega) ?_
      rw [row_len hM.1 u4]
      refine bg_icmp_gt (pc := 21) X1 (tgt := 42) dX7_addBed_21 (by decide) (fun u21 => ?_) (fun u21 => ?_)
      · refine bg_ldc (pc := 42) X1 dX7_addBed_42 kX7_87 (by decide) ?_
        exact bo_iret (pc := 44) X rfl dX7_addBed_44 (fun hi => by unfold xAddBed; rw [if_neg (by omega)]; exact ⟨rfl, hM, frR.rf⟩)
      · refine bg_iload3 (pc := 24) X1 dX7_addBed_24 ?_
        refine bo_S1i (pc := 25) X1 (c_X7_isMark) sX7_isMark lX7_88 rfl (by decide) dX7_addBed_25 (by exact Nat.le_of_ble_eq_true rfl) ?_
        rintro _ _ ⟨h9, h8⟩
        obtain rfl := h9.symm
        obtain rfl := h8.symm
        clear h9 h8
        refine bo_ifeq_b (pc := 28) X1 (tgt := 42) dX7_addBed_28 (by decide) (fun u28 => ?_) (fun u28 => ?_)
        · refine bg_ldc (pc := 42) X1 dX7_addBed_42 kX7_87 (by decide) ?_
          exact bo_iret (pc := 44) X rfl dX7_addBed_44 (fun hi => by unfold xAddBed; rw [if_neg (by omega)]; exact ⟨rfl, hM, frR.rf⟩)
        · refine bg_iload4 (pc := 31) X1 dX7_addBed_31 ?_
          refine bg_iconst (pc := 33) X1 dX7_addBed_33 (by decide) ?_
          refine bg_bipush (pc := 34) X1 dX7_addBed_34 rfl (by decide) ?_
          refine bo_S3i (pc := 36) X1 (c_X7_in) sX7_in lX7_59 rfl (by decide) dX7_addBed_36 (by exact Nat.le_of_ble_eq_true rfl) ?_
          rintro _ _ ⟨h9, h8⟩
          obtain rfl := h9.symm
          obtain rfl := h8.symm
          clear h9 h8
          refine bo_ifne_b (pc := 39) X1 (tgt := 45) dX7_addBed_39 (by decide) (fun u39 => ?_) (fun u39 => ?_)
          · refine bg_aload0 (pc := 45) X1 dX7_addBed_45 ?_
            refine bo_getR (pc := 46) X1 dX7_addBed_46 fX7_7 (by first | assumption | rfl) rfl (by first | assumption | rfl) ?_
            refine bg_bipush (pc := 49) X1 dX7_addBed_49 rfl (by decide) ?_
            refine bg_iload1 (pc := 51) X1 dX7_addBed_51 ?_
            refine bg_iadd (pc := 52) X1 dX7_addBed_52 (by omega) ?_
            refine bo_iaload (pc := 53) X1 dX7_addBed_53 (by first | assumption | rfl) (by omega) ?_
            rw [row_len hM.1 u4]
            refine bg_bipush (pc := 54) X1 dX7_addBed_54 rfl (by decide) ?_
            refine bg_icmp_ne (pc := 56) X1 (tgt := 62) dX7_addBed_56 (by decide) (fun u56 => ?_) (fun u56 => ?_)
            · refine bg_aload0 (pc := 62) X1 dX7_addBed_62 ?_
              refine bo_V0v (pc := 63) X1 (c_X7_saves hM ok) vX7_saves lX7_77 rfl (by first | assumption | rfl) (by decide) dX7_addBed_63 (by exact Nat.le_of_ble_eq_true rfl) ?_
              rintro g1 ⟨x1, x2⟩
              have e199 : g1 199 = g 199 := x2.at (by decide) (by decide)
              have hS1 : rowR (g1 199) Z.1 := by rw [e199]; exact hM.1
              refine bg_aload0 (pc := 66) X1 dX7_addBed_66 ?_
              refine bg_iload1 (pc := 67) X1 dX7_addBed_67 ?_
              refine bg_iload2 (pc := 68) X1 dX7_addBed_68 ?_
              refine bg_iload3 (pc := 69) X1 dX7_addBed_69 ?_
              refine bg_iload4 (pc := 70) X1 dX7_addBed_70 ?_
              refine bo_V4v (pc := 72) X1 (c_X7_adds hS1 ok.1 u4 (by omega) (by omega)) vX7_adds lX7_92 rfl (by first | assumption | rfl) (by decide) dX7_addBed_72 (by exact Nat.le_of_ble_eq_true rfl) ?_
              rintro g2 ⟨x3, x4⟩
              refine bg_aload0 (pc := 75) X1 dX7_addBed_75 ?_
              refine bg_iconst (pc := 76) X1 dX7_addBed_76 (by decide) ?_
              refine bg_iload4 (pc := 77) X1 dX7_addBed_77 ?_
              refine bo_V2v (pc := 79) X1 (c_X7_comes (by omega)) vX7_comes lX7_96 rfl (by first | assumption | rfl) (by decide) dX7_addBed_79 (by exact Nat.le_of_ble_eq_true rfl) ?_
              rintro _ h8
              obtain rfl := h8.symm
              clear h8
              refine bg_aload0 (pc := 82) X1 dX7_addBed_82 ?_
              refine bo_getR (pc := 83) X1 dX7_addBed_83 fX7_7 (by first | assumption | rfl) rfl (by first | assumption | rfl) ?_
              refine bg_bipush (pc := 86) X1 dX7_addBed_86 rfl (by decide) ?_
              refine bg_iload1 (pc := 88) X1 dX7_addBed_88 ?_
              refine bg_iadd (pc := 89) X1 dX7_addBed_89 (by omega) ?_
              refine bo_iaload (pc := 90) X1 dX7_addBed_90 (by first | assumption | rfl) (by omega) ?_
              exact bo_iret (pc := 91) X rfl dX7_addBed_91 (fun hi => by
                  unfold xAddBed
                  rw [if_pos (by omega), if_pos (by omega)]
                  refine ⟨?_, hM.put x1 x2 (fun x hx => by rw [bg_up_ne hx]; exact x4 x hx) (by rw [up_F]; exact x3.book (a := 1) (by decide))⟩
                  rw [up_k (show (10 + h).toNat ≠ 13 + (1 : Int).toNat by have : (1 : Int).toNat = 1 := rfl; omega), row_len x3 u4]
                  show ((fup Z.1.2.2.2.1 h.toNat (insB (sq Z.1 h) i.toNat (m, t)) h.toNat).length : Int) = _
                  rw [fup_eq, insB_length (show i.toNat ≤ (sq Z.1 h).length by omega)]
                  rfl)
            · refine bg_ldc (pc := 59) X1 dX7_addBed_59 kX7_91 (by decide) ?_
              exact bo_iret (pc := 61) X rfl dX7_addBed_61 (fun hi => by unfold xAddBed; rw [if_pos (by omega), if_neg (by omega)]; exact ⟨rfl, hM, frR.rf⟩)
          · refine bg_ldc (pc := 42) X1 dX7_addBed_42 kX7_87 (by decide) ?_
            exact bo_iret (pc := 44) X rfl dX7_addBed_44 (fun hi => by unfold xAddBed; rw [if_neg (by omega)]; exact ⟨rfl, hM, frR.rf⟩)
theorem c_X7_removeBed {y : bg_Y} {g : bg_E} {h b : Int} {Z : bm_X} (hM : modR g Z) (ok : okX Z) : bg_Si y 6 mX7_removeBed [.inr 198, .inl h, .inl b] g (fun r g' => r = (xRemoveBed Z h b).1 ∧ modR g' (xRemoveBed Z h b).2 ∧ frR 198 214 g g') := by
  refine bg_enter pnX7 (Nat.le_of_ble_eq_true rfl) (fun κ X hR hg => ?_)
  have X1 : bg_X κ y cX7_removeBed RX7 6 0 0 := X.1
  have hg : ∀ a k, R32 (g a k) := hg
  show bg_g κ y 0 [some (.inr 198), some (.inl h), some (.inl b), none, none] [] g
  have loop : ∀ (g1 : bg_E) (n k : Nat) (a : Int), hisM g1 (hPush Z.2.1 Z.1) → sfr g g1 → rowR (g1 199) Z.1 → (isHo h ∧ 0 ≤ b ∧ b < ((sq Z.1 h).length : Int)) → (sq Z.1 h).length ≤ 24 → a = 18 + 48 * h + 2 * b + k → (k : Int) + n = 2 * (((sq Z.1 h).length : Int) - 1 - b) → bg_g κ y 43 [some (.inr 198), some (.inl h), some (.inl b), some (.inl (th (sq Z.1 h) b.toNat)), some (.inl a)] [] (cp (bg_up g1 199 (10 + h).toNat (((sq Z.1 h).length : Int) - 1)) 199 (18 + 48 * h.toNat + 2 * b.toNat) 199 (18 + 48 * h.toNat + 2 * b.toNat + 2) k) := by
    intro g1 n
    induction n with
    | zero =>
      intro k a x1 x2 hS1 hb hl ha hk
      refine bg_iload4 (pc := 43) X1 dX7_removeBed_43 ?_
      refine bg_iload1 (pc := 45) X1 dX7_removeBed_45 ?_
      refine bg_aload0 (pc := 46) X1 dX7_removeBed_46 ?_
      refine bo_getR (pc := 47) X1 dX7_removeBed_47 fX7_7 (by first | assumption | rfl) rfl (by first | assumption | rfl) ?_
      refine bg_bipush (pc := 50) X1 dX7_removeBed_50 rfl (by decide) ?_
      refine bg_iload1 (pc := 52) X1 dX7_removeBed_52 ?_
      refine bg_iadd (pc := 53) X1 dX7_removeBed_53 (by omega) ?_
      refine bo_iaload (pc := 54) X1 dX7_removeBed_54 (by first | assumption | rfl) (by omega) ?_
      rw [cp_o (by omega), up_eq]
      refine bo_S2i (pc := 55) X1 (c_X7_at hb.1 (by omega)) sX7_at lX7_67 rfl (by decide) dX7_removeBed_55 (by exact Nat.le_of_ble_eq_true rfl) ?_
      rintro _ _ ⟨h9, h8⟩
      obtain rfl := h9.symm
      obtain rfl := h8.symm
      clear h9 h8
      refine bg_icmp_ge (pc := 58) X1 (tgt := 83) dX7_removeBed_58 (by decide) (fun u58 => ?_) (fun u58 => ?_)
      · refine bg_aload0 (pc := 83) X1 dX7_removeBed_83 ?_
        refine bg_iconst (pc := 84) X1 dX7_removeBed_84 (by decide) ?_
        refine bg_iload3 (pc := 85) X1 dX7_removeBed_85 ?_
        refine bo_V2v (pc := 86) X1 (c_X7_comes (by omega)) vX7_comes lX7_96 rfl (by first | assumption | rfl) (by decide) dX7_removeBed_86 (by exact Nat.le_of_ble_eq_true rfl) ?_
        rintro _ h8
        obtain rfl := h8.symm
        clear h8
        refine bg_iload3 (pc := 89) X1 dX7_removeBed_89 ?_
        exact bo_iret (pc := 90) X rfl dX7_removeBed_90 (fun hi => by
            unfold xRemoveBed
            rw [if_pos hb]
            have R := fun x hx => hS1.2.2.2.1 h.toNat x (by omega) hx
            refine ⟨rfl, hM.put x1 x2 (fun x hx => by rw [bg_up_ne hx, cp_A hx, bg_up_ne hx]) (by
              rw [up_F]
              refine rowR.book (a := 2) ?_ (by decide)
              refine hS1.bed (ok_len ok.1) (by omega) ?_ (fun k hk => ?_) (fun j h1 h2 => ?_)
              · rw [cp_o (by omega), up_e (by omega), delB_length (show b.toNat < (sq Z.1 h).length by omega)]; omega
              · rw [delB_length (show b.toNat < (sq Z.1 h).length by omega)] at hk
                unfold mrk th
                rw [delB_get (show b.toNat < (sq Z.1 h).length by omega)]
                by_cases h1 : k < b.toNat
                · rw [if_pos h1]
                  exact ⟨by rw [cp_o (by omega), up_k (by omega)]; exact (R k (show k < (sq Z.1 h).length by omega)).1, by rw [cp_o (by omega), up_k (by omega)]; exact (R k (show k < (sq Z.1 h).length by omega)).2⟩
                · rw [if_neg h1]
                  exact ⟨by rw [cp_i (j' := 18 + 48 * h.toNat + 2 * (k + 1)) (by omega) (by omega), up_k (by omega)]; exact (R (k + 1) (show k + 1 < (sq Z.1 h).length by omega)).1, by rw [cp_i (j' := 18 + 48 * h.toNat + 2 * (k + 1) + 1) (by omega) (by omega), up_k (by omega)]; exact (R (k + 1) (show k + 1 < (sq Z.1 h).length by omega)).2⟩
              · rw [cp_o (by omega), up_k (by omega)])⟩)
      · exfalso; omega
    | succ n ih =>
      intro k a x1 x2 hS1 hb hl ha hk
      refine bg_iload4 (pc := 43) X1 dX7_removeBed_43 ?_
      refine bg_iload1 (pc := 45) X1 dX7_removeBed_45 ?_
      refine bg_aload0 (pc := 46) X1 dX7_removeBed_46 ?_
      refine bo_getR (pc := 47) X1 dX7_removeBed_47 fX7_7 (by first | assumption | rfl) rfl (by first | assumption | rfl) ?_
      refine bg_bipush (pc := 50) X1 dX7_removeBed_50 rfl (by decide) ?_
      refine bg_iload1 (pc := 52) X1 dX7_removeBed_52 ?_
      refine bg_iadd (pc := 53) X1 dX7_removeBed_53 (by omega) ?_
      refine bo_iaload (pc := 54) X1 dX7_removeBed_54 (by first | assumption | rfl) (by omega) ?_
      rw [cp_o (by omega), up_eq]
      refine bo_S2i (pc := 55) X1 (c_X7_at hb.1 (by omega)) sX7_at lX7_67 rfl (by decide) dX7_removeBed_55 (by exact Nat.le_of_ble_eq_true rfl) ?_
      rintro _ _ ⟨h9, h8⟩
      obtain rfl := h9.symm
      obtain rfl := h8.symm
      clear h9 h8
      refine bg_icmp_ge (pc := 58) X1 (tgt := 83) dX7_removeBed_58 (by decide) (fun u58 => ?_) (fun u58 => ?_)
      · exfalso; omega
      · refine bg_aload0 (pc := 61) X1 dX7_removeBed_61 ?_
        refine bo_getR (pc := 62) X1 dX7_removeBed_62 fX7_7 (by first | assumption | rfl) rfl (by first | assumption | rfl) ?_
        refine bg_iload4 (pc := 65) X1 dX7_removeBed_65 ?_
        refine bg_aload0 (pc := 67) X1 dX7_removeBed_67 ?_
        refine bo_getR (pc := 68) X1 dX7_removeBed_68 fX7_7 (by first | assumption | rfl) rfl (by first | assumption | rfl) ?_
        refine bg_iload4 (pc := 71) X1 dX7_removeBed_71 ?_
        refine bg_iconst (pc := 73) X1 dX7_removeBed_73 (by decide) ?_
        refine bg_iadd (pc := 74) X1 dX7_removeBed_74 (by omega) ?_
        refine bo_iaload (pc := 75) X1 dX7_removeBed_75 (by first | assumption | rfl) (by omega) ?_
        refine bo_iastore (pc := 76) X1 dX7_removeBed_76 (by first | assumption | rfl) (by omega) ?_
        refine bg_iinc4 (pc := 77) X1 dX7_removeBed_77 (by omega) ?_
        refine bg_goto (pc := 80) X1 (tgt := 43) dX7_removeBed_80 (by decide) ?_
        rw [cp_s (Or.inr (by omega)) (by omega) (by omega)]
        exact ih (k + 1) _ x1 x2 hS1 hb hl (by omega) (by omega)
  refine bg_aload0 (pc := 0) X1 dX7_removeBed_0 ?_
  refine bg_iload1 (pc := 1) X1 dX7_removeBed_1 ?_
  refine bg_iload2 (pc := 2) X1 dX7_removeBed_2 ?_
  refine bo_V2i (pc := 3) X1 (c_X7_isBed hM.1) vX7_isBed lX7_100 rfl (by first | assumption | rfl) (by decide) dX7_removeBed_3 (by exact Nat.le_of_ble_eq_true rfl) ?_
  rintro _ _ ⟨h9, h8⟩
  obtain rfl := h9.symm
  obtain rfl := h8.symm
  clear h9 h8
  refine bo_ifne_b (pc := 6) X1 (tgt := 12) dX7_removeBed_6 (by decide) (fun u6 => ?_) (fun u6 => ?_)
  · refine bg_aload0 (pc := 12) X1 dX7_removeBed_12 ?_
    refine bo_V0v (pc := 13) X1 (c_X7_saves hM ok) vX7_saves lX7_77 rfl (by first | assumption | rfl) (by decide) dX7_removeBed_13 (by exact Nat.le_of_ble_eq_true rfl) ?_
    rintro g1 ⟨x1, x2⟩
    have e199 : g1 199 = g 199 := x2.at (by decide) (by decide)
    have hS1 : rowR (g1 199) Z.1 := by rw [e199]; exact hM.1
    have hl := (sq_OK ok.1 u6.1).2
    refine bg_aload0 (pc := 16) X1 dX7_removeBed_16 ?_
    refine bg_iload1 (pc := 17) X1 dX7_removeBed_17 ?_
    refine bg_iload2 (pc := 18) X1 dX7_removeBed_18 ?_
    refine bo_V2i (pc := 19) X1 (c_X7_thick hS1 ok.1 u6.1 u6.2) vX7_thick lX7_71 rfl (by first | assumption | rfl) (by decide) dX7_removeBed_19 (by exact Nat.le_of_ble_eq_true rfl) ?_
    rintro _ _ ⟨h9, h8⟩
    obtain rfl := h9.symm
    obtain rfl := h8.symm
    clear h9 h8
    refine bg_istore3 (pc := 22) X1 dX7_removeBed_22 ?_
    refine bg_aload0 (pc := 23) X1 dX7_removeBed_23 ?_
    refine bo_getR (pc := 24) X1 dX7_removeBed_24 fX7_7 (by first | assumption | rfl) rfl (by first | assumption | rfl) ?_
    refine bg_bipush (pc := 27) X1 dX7_removeBed_27 rfl (by decide) ?_
    refine bg_iload1 (pc := 29) X1 dX7_removeBed_29 ?_
    refine bg_iadd (pc := 30) X1 dX7_removeBed_30 (by omega) ?_
    refine bg_dup2 (pc := 31) X1 dX7_removeBed_31 ?_
    refine bo_iaload (pc := 32) X1 dX7_removeBed_32 (by first | assumption | rfl) (by omega) ?_
    rw [row_len hS1 u6.1]
    refine bg_iconst (pc := 33) X1 dX7_removeBed_33 (by decide) ?_
    refine bg_isub (pc := 34) X1 dX7_removeBed_34 (by omega) ?_
    refine bo_iastore (pc := 35) X1 dX7_removeBed_35 (by first | assumption | rfl) (by omega) ?_
    refine bg_iload1 (pc := 36) X1 dX7_removeBed_36 ?_
    refine bg_iload2 (pc := 37) X1 dX7_removeBed_37 ?_
    refine bo_S2i (pc := 38) X1 (c_X7_at u6.1 (by omega)) sX7_at lX7_67 rfl (by decide) dX7_removeBed_38 (by exact Nat.le_of_ble_eq_true rfl) ?_
    rintro _ _ ⟨h9, h8⟩
    obtain rfl := h9.symm
    obtain rfl := h8.symm
    clear h9 h8
    refine bg_istore4 (pc := 41) X1 dX7_removeBed_41 ?_
    have := loop g1 (2 * ((sq Z.1 h).length - 1 - b.toNat)) 0 (18 + 48 * h + 2 * b) x1 x2 hS1 u6 hl (by omega) (by omega)
    rw [cp_0] at this
    exact this
  · refine bg_ldc (pc := 9) X1 dX7_removeBed_9 kX7_87 (by decide) ?_
    exact bo_iret (pc := 11) X rfl dX7_removeBed_11 (fun hi => by unfold xRemoveBed; rw [if_neg u6]; exact ⟨rfl, hM, frR.rf⟩)
theorem c_X7_setThickness {y : bg_Y} {g : bg_E} {h b t : Int} {Z : bm_X} (hM : modR g Z) (ok : okX Z) : bg_Si y 6 mX7_setThickness [.inr 198, .inl h, .inl b, .inl t] g (fun r g' => r = (xSetThickness Z h b t).1 ∧ modR g' (xSetThickness Z h b t).2 ∧ frR 198 214 g g') := by
  refine bg_enter pnX7 (Nat.le_of_ble_eq_true rfl) (fun κ X hR hg => ?_)
  have X1 : bg_X κ y cX7_setThickness RX7 6 0 0 := X.1
  have hg : ∀ a k, R32 (g a k) := hg
  show bg_g κ y 0 [some (.inr 198), some (.inl h), some (.inl b), some (.inl t), none] [] g
  refine bg_aload0 (pc := 0) X1 dX7_setThickness_0 ?_
  refine bg_iload1 (pc := 1) X1 dX7_setThickness_1 ?_
  refine bg_iload2 (pc := 2) X1 dX7_setThickness_2 ?_
  refine bo_V2i (pc := 3) X1 (c_X7_isBed hM.1) vX7_isBed lX7_100 rfl (by first | assumption | rfl) (by decide) dX7_setThickness_3 (by exact Nat.le_of_ble_eq_true rfl) ?_
  rintro _ _ ⟨h9, h8⟩
  obtain rfl := h9.symm
  obtain rfl := h8.symm
  clear h9 h8
  refine bo_ifeq_b (pc := 6) X1 (tgt := 19) dX7_setThickness_6 (by decide) (fun u6 => ?_) (fun u6 => ?_)
  · refine bg_ldc (pc := 19) X1 dX7_setThickness_19 kX7_87 (by decide) ?_
    exact bo_iret (pc := 21) X rfl dX7_setThickness_21 (fun hi => by
        unfold xSetThickness
        first
        | rw [if_neg (fun h9 => u6 ⟨h9.1, h9.2.2⟩)]; exact ⟨rfl, hM, frR.rf⟩
        | rw [if_neg (fun h9 => u16 h9.2.1)]; exact ⟨rfl, hM, frR.rf⟩)
  · refine bg_iload3 (pc := 9) X1 dX7_setThickness_9 ?_
    refine bg_iconst (pc := 10) X1 dX7_setThickness_10 (by decide) ?_
    refine bg_bipush (pc := 11) X1 dX7_setThickness_11 rfl (by decide) ?_
    refine bo_S3i (pc := 13) X1 (c_X7_in) sX7_in lX7_59 rfl (by decide) dX7_setThickness_13 (by exact Nat.le_of_ble_eq_true rfl) ?_
    rintro _ _ ⟨h9, h8⟩
    obtain rfl := h9.symm
    obtain rfl := h8.symm
    clear h9 h8
    refine bo_ifne_b (pc := 16) X1 (tgt := 22) dX7_setThickness_16 (by decide) (fun u16 => ?_) (fun u16 => ?_)
    · refine bg_aload0 (pc := 22) X1 dX7_setThickness_22 ?_
      refine bo_V0v (pc := 23) X1 (c_X7_saves hM ok) vX7_saves lX7_77 rfl (by first | assumption | rfl) (by decide) dX7_setThickness_23 (by exact Nat.le_of_ble_eq_true rfl) ?_
      rintro g1 ⟨x1, x2⟩
      have e199 : g1 199 = g 199 := x2.at (by decide) (by decide)
      have hS1 : rowR (g1 199) Z.1 := by rw [e199]; exact hM.1
      have hl := sq_OK ok.1 u6.1
      have hth := thOK hl.1 (k := b.toNat) (by omega)
      have hl2 := hl.2
      refine bg_aload0 (pc := 26) X1 dX7_setThickness_26 ?_
      refine bg_iload1 (pc := 27) X1 dX7_setThickness_27 ?_
      refine bg_iload2 (pc := 28) X1 dX7_setThickness_28 ?_
      refine bo_V2i (pc := 29) X1 (c_X7_thick hS1 ok.1 u6.1 u6.2) vX7_thick lX7_71 rfl (by first | assumption | rfl) (by decide) dX7_setThickness_29 (by exact Nat.le_of_ble_eq_true rfl) ?_
      rintro _ _ ⟨h9, h8⟩
      obtain rfl := h9.symm
      obtain rfl := h8.symm
      clear h9 h8
      refine bg_istore4 (pc := 32) X1 dX7_setThickness_32 ?_
      refine bg_aload0 (pc := 34) X1 dX7_setThickness_34 ?_
      refine bo_getR (pc := 35) X1 dX7_setThickness_35 fX7_7 (by first | assumption | rfl) rfl (by first | assumption | rfl) ?_
      refine bg_iload1 (pc := 38) X1 dX7_setThickness_38 ?_
      refine bg_iload2 (pc := 39) X1 dX7_setThickness_39 ?_
      refine bo_S2i (pc := 40) X1 (c_X7_at u6.1 (by omega)) sX7_at lX7_67 rfl (by decide) dX7_setThickness_40 (by exact Nat.le_of_ble_eq_true rfl) ?_
      rintro _ _ ⟨h9, h8⟩
      obtain rfl := h9.symm
      obtain rfl := h8.symm
      clear h9 h8
      refine bg_iconst (pc := 43) X1 dX7_setThickness_43 (by decide) ?_
      refine bg_iadd (pc := 44) X1 dX7_setThickness_44 (by omega) ?_
      refine bg_iload3 (pc := 45) X1 dX7_setThickness_45 ?_
      refine bo_iastore (pc := 46) X1 dX7_setThickness_46 (by first | assumption | rfl) (by omega) ?_
      have hS2 : rowR ((bg_up g1 199 (18 + 48 * h + 2 * b + 1).toNat t) 199) (sBed Z.1 h.toNat ((sq Z.1 h).set b.toNat (mrk (sq Z.1 h) b.toNat, t))) := by
        have R := fun x hx => hS1.2.2.2.1 h.toNat x (by omega) hx
        refine hS1.bed (ok_len ok.1) (by omega) ?_ (fun k hk => ?_) (fun j h1 h2 => ?_)
        · rw [up_k (by omega), List.length_set]
          exact (hS1.2.2.1 h.toNat (by omega)).2
        · rw [List.length_set] at hk
          have hk : k < (sq Z.1 h).length := hk
          unfold mrk th
          rw [set_get (show b.toNat < (sq Z.1 h).length by omega)]
          by_cases h1 : k = b.toNat
          · rw [if_pos h1]
            exact ⟨by rw [up_k (by omega), h1]; exact (R b.toNat (show b.toNat < (sq Z.1 h).length by omega)).1, by rw [up_e (by omega)]⟩
          · rw [if_neg h1]
            exact ⟨by rw [up_k (by omega)]; exact (R k hk).1, by rw [up_k (by omega)]; exact (R k hk).2⟩
        · rw [up_k (by omega)]
      refine bg_aload0 (pc := 47) X1 dX7_setThickness_47 ?_
      refine bg_iload3 (pc := 48) X1 dX7_setThickness_48 ?_
      refine bg_iload4 (pc := 49) X1 dX7_setThickness_49 ?_
      refine bg_icmp_le (pc := 51) X1 (tgt := 58) dX7_setThickness_51 (by decide) (fun u51 => ?_) (fun u51 => ?_)
      · refine bg_iconst (pc := 58) X1 dX7_setThickness_58 (by decide) ?_
        refine bg_iload3 (pc := 59) X1 dX7_setThickness_59 ?_
        refine bg_iload4 (pc := 60) X1 dX7_setThickness_60 ?_
        refine bg_icmp_le (pc := 62) X1 (tgt := 72) dX7_setThickness_62 (by decide) (fun u62 => ?_) (fun u62 => ?_)
        · refine bg_iload4 (pc := 72) X1 dX7_setThickness_72 ?_
          refine bg_iload3 (pc := 74) X1 dX7_setThickness_74 ?_
          refine bg_isub (pc := 75) X1 dX7_setThickness_75 (by omega) ?_
          refine bo_V2v (pc := 76) X1 (c_X7_comes (by omega)) vX7_comes lX7_96 rfl (by first | assumption | rfl) (by decide) dX7_setThickness_76 (by exact Nat.le_of_ble_eq_true rfl) ?_
          rintro _ h8
          obtain rfl := h8.symm
          clear h8
          refine bg_iload4 (pc := 79) X1 dX7_setThickness_79 ?_
          exact bo_iret (pc := 81) X rfl dX7_setThickness_81 (fun hi => by
              unfold xSetThickness
              rw [if_pos ⟨u6.1, u16, u6.2⟩]
              refine ⟨rfl, hM.put x1 x2 (fun x hx => by rw [bg_up_ne hx, bg_up_ne hx]) ?_⟩
              rw [up_F]
              have R15 : R32 ((bg_up g1 199 (18 + 48 * h + 2 * b + 1).toNat t) 199 15) := by rw [up_k (by omega), e199]; exact hg 199 15
              have R14 : R32 ((bg_up g1 199 (18 + 48 * h + 2 * b + 1).toNat t) 199 14) := by rw [up_k (by omega), e199]; exact hg 199 14
              first
              | (exfalso; omega)
              | (rw [Int.max_eq_left (show (0 : Int) ≤ t - th (sq Z.1 h) b.toNat by omega), Int.max_eq_right (show th (sq Z.1 h) b.toNat - t ≤ (0 : Int) by omega)]
                 exact book_0 (hS2.book (a := 1) (by decide)) (by decide) (by rw [fup_ne (by decide)]; exact R15))
              | (rw [Int.max_eq_right (show t - th (sq Z.1 h) b.toNat ≤ (0 : Int) by omega), Int.max_eq_left (show (0 : Int) ≤ th (sq Z.1 h) b.toNat - t by omega)]
                 exact (book_0 hS2 (a := 1) (by decide) R14).book (a := 2) (by decide)))
        · refine bg_iload3 (pc := 65) X1 dX7_setThickness_65 ?_
          refine bg_iload4 (pc := 66) X1 dX7_setThickness_66 ?_
          refine bg_isub (pc := 68) X1 dX7_setThickness_68 (by omega) ?_
          refine bg_goto (pc := 69) X1 (tgt := 76) dX7_setThickness_69 (by decide) ?_
          refine bo_V2v (pc := 76) X1 (c_X7_comes (by omega)) vX7_comes lX7_96 rfl (by first | assumption | rfl) (by decide) dX7_setThickness_76 (by exact Nat.le_of_ble_eq_true rfl) ?_
          rintro _ h8
          obtain rfl := h8.symm
          clear h8
          refine bg_iload4 (pc := 79) X1 dX7_setThickness_79 ?_
          exact bo_iret (pc := 81) X rfl dX7_setThickness_81 (fun hi => by
              unfold xSetThickness
              rw [if_pos ⟨u6.1, u16, u6.2⟩]
              refine ⟨rfl, hM.put x1 x2 (fun x hx => by rw [bg_up_ne hx, bg_up_ne hx]) ?_⟩
              rw [up_F]
              have R15 : R32 ((bg_up g1 199 (18 + 48 * h + 2 * b + 1).toNat t) 199 15) := by rw [up_k (by omega), e199]; exact hg 199 15
              have R14 : R32 ((bg_up g1 199 (18 + 48 * h + 2 * b + 1).toNat t) 199 14) := by rw [up_k (by omega), e199]; exact hg 199 14
              first
              | (exfalso; omega)
              | (rw [Int.max_eq_left (show (0 : Int) ≤ t - th (sq Z.1 h) b.toNat by omega), Int.max_eq_right (show th (sq Z.1 h) b.toNat - t ≤ (0 : Int) by omega)]
                 exact book_0 (hS2.book (a := 1) (by decide)) (by decide) (by rw [fup_ne (by decide)]; exact R15))
              | (rw [Int.max_eq_right (show t - th (sq Z.1 h) b.toNat ≤ (0 : Int) by omega), Int.max_eq_left (show (0 : Int) ≤ th (sq Z.1 h) b.toNat - t by omega)]
                 exact (book_0 hS2 (a := 1) (by decide) R14).book (a := 2) (by decide)))
      · refine bg_iconst (pc := 54) X1 dX7_setThickness_54 (by decide) ?_
        refine bg_goto (pc := 55) X1 (tgt := 59) dX7_setThickness_55 (by decide) ?_
        refine bg_iload3 (pc := 59) X1 dX7_setThickness_59 ?_
        refine bg_iload4 (pc := 60) X1 dX7_setThickness_60 ?_
        refine bg_icmp_le (pc := 62) X1 (tgt := 72) dX7_setThickness_62 (by decide) (fun u62 => ?_) (fun u62 => ?_)
        · refine bg_iload4 (pc := 72) X1 dX7_setThickness_72 ?_
          refine bg_iload3 (pc := 74) X1 dX7_setThickness_74 ?_
          refine bg_isub (pc := 75) X1 dX7_setThickness_75 (by omega) ?_
          refine bo_V2v (pc := 76) X1 (c_X7_comes (by omega)) vX7_comes lX7_96 rfl (by first | assumption | rfl) (by decide) dX7_setThickness_76 (by exact Nat.le_of_ble_eq_true rfl) ?_
          rintro _ h8
          obtain rfl := h8.symm
          clear h8
          refine bg_iload4 (pc := 79) X1 dX7_setThickness_79 ?_
          exact bo_iret (pc := 81) X rfl dX7_setThickness_81 (fun hi => by
              unfold xSetThickness
              rw [if_pos ⟨u6.1, u16, u6.2⟩]
              refine ⟨rfl, hM.put x1 x2 (fun x hx => by rw [bg_up_ne hx, bg_up_ne hx]) ?_⟩
              rw [up_F]
              have R15 : R32 ((bg_up g1 199 (18 + 48 * h + 2 * b + 1).toNat t) 199 15) := by rw [up_k (by omega), e199]; exact hg 199 15
              have R14 : R32 ((bg_up g1 199 (18 + 48 * h + 2 * b + 1).toNat t) 199 14) := by rw [up_k (by omega), e199]; exact hg 199 14
              first
              | (exfalso; omega)
              | (rw [Int.max_eq_left (show (0 : Int) ≤ t - th (sq Z.1 h) b.toNat by omega), Int.max_eq_right (show th (sq Z.1 h) b.toNat - t ≤ (0 : Int) by omega)]
                 exact book_0 (hS2.book (a := 1) (by decide)) (by decide) (by rw [fup_ne (by decide)]; exact R15))
              | (rw [Int.max_eq_right (show t - th (sq Z.1 h) b.toNat ≤ (0 : Int) by omega), Int.max_eq_left (show (0 : Int) ≤ th (sq Z.1 h) b.toNat - t by omega)]
                 exact (book_0 hS2 (a := 1) (by decide) R14).book (a := 2) (by decide)))
        · refine bg_iload3 (pc := 65) X1 dX7_setThickness_65 ?_
          refine bg_iload4 (pc := 66) X1 dX7_setThickness_66 ?_
          refine bg_isub (pc := 68) X1 dX7_setThickness_68 (by omega) ?_
          refine bg_goto (pc := 69) X1 (tgt := 76) dX7_setThickness_69 (by decide) ?_
          refine bo_V2v (pc := 76) X1 (c_X7_comes (by omega)) vX7_comes lX7_96 rfl (by first | assumption | rfl) (by decide) dX7_setThickness_76 (by exact Nat.le_of_ble_eq_true rfl) ?_
          rintro _ h8
          obtain rfl := h8.symm
          clear h8
          refine bg_iload4 (pc := 79) X1 dX7_setThickness_79 ?_
          exact bo_iret (pc := 81) X rfl dX7_setThickness_81 (fun hi => by
              unfold xSetThickness
              rw [if_pos ⟨u6.1, u16, u6.2⟩]
              refine ⟨rfl, hM.put x1 x2 (fun x hx => by rw [bg_up_ne hx, bg_up_ne hx]) ?_⟩
              rw [up_F]
              have R15 : R32 ((bg_up g1 199 (18 + 48 * h + 2 * b + 1).toNat t) 199 15) := by rw [up_k (by omega), e199]; exact hg 199 15
              have R14 : R32 ((bg_up g1 199 (18 + 48 * h + 2 * b + 1).toNat t) 199 14) := by rw [up_k (by omega), e199]; exact hg 199 14
              first
              | (exfalso; omega)
              | (rw [Int.max_eq_left (show (0 : Int) ≤ t - th (sq Z.1 h) b.toNat by omega), Int.max_eq_right (show th (sq Z.1 h) b.toNat - t ≤ (0 : Int) by omega)]
                 exact book_0 (hS2.book (a := 1) (by decide)) (by decide) (by rw [fup_ne (by decide)]; exact R15))
              | (rw [Int.max_eq_right (show t - th (sq Z.1 h) b.toNat ≤ (0 : Int) by omega), Int.max_eq_left (show (0 : Int) ≤ th (sq Z.1 h) b.toNat - t by omega)]
                 exact (book_0 hS2 (a := 1) (by decide) R14).book (a := 2) (by decide)))
    · refine bg_ldc (pc := 19) X1 dX7_setThickness_19 kX7_87 (by decide) ?_
      exact bo_iret (pc := 21) X rfl dX7_setThickness_21 (fun hi => by
          unfold xSetThickness
          first
          | rw [if_neg (fun h9 => u6 ⟨h9.1, h9.2.2⟩)]; exact ⟨rfl, hM, frR.rf⟩
          | rw [if_neg (fun h9 => u16 h9.2.1)]; exact ⟨rfl, hM, frR.rf⟩)
