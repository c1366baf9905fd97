/-! the model: images, undo -/
theorem mk2_shr (a b : Bool) (i : Int) (hi : i = 0 ∨ i = 1) : bg_band (bg_shr (mk2 a b) i) 1 = 0 ↔ ¬ (if i = 0 then a else b) = true := by
  rcases hi with rfl | rfl <;> cases a <;> cases b <;> decide
theorem c_X7_keep {y : bg_Y} {g : bg_E} {i : Int} {Z : bm_X} (hM : modR g Z) (ok : okX Z) : bg_Si y 6 mX7_keep [.inr 198, .inl i] g (fun r g' => r = (xKeep Z i).1 ∧ modR g' (xKeep Z i).2 ∧ frR 198 214 g g') := by
  obtain ⟨m1, m2, m3, m4⟩ := id hM
  refine bg_enter pnX7 (Nat.le_of_ble_eq_true rfl) (fun κ X hR hg => ?_)
  have X1 : bg_X κ y cX7_keep RX7 6 0 0 := X.1
  have hg : ∀ a k, R32 (g a k) := hg
  show bg_g κ y 0 [some (.inr 198), some (.inl i), none] [] g
  have loop : ∀ (n k : Nat), 0 ≤ i ∧ i ≤ 1 → k + n = 210 → bg_g κ y 14 [some (.inr 198), some (.inl i), some (.inl (k : Int))] [] (cp g 201 (210 * i.toNat) 199 0 k) := by
    intro n
    induction n with
    | zero =>
      intro k hi1 hk
      obtain rfl : k = 210 := by omega
      have e5 : cp g 201 (210 * i.toNat) 199 0 210 198 5 = mk2 (Z.2.2.1 0).isSome (Z.2.2.1 1).isSome := (cp_a (by decide)).trans m3.1
      refine bg_iload2 (pc := 14) X1 dX7_keep_14 ?_
      refine bg_sipush (pc := 15) X1 dX7_keep_15 rfl (by decide) ?_
      refine bg_icmp_ge (pc := 18) X1 (tgt := 45) dX7_keep_18 (by decide) (fun u18 => ?_) (fun u18 => ?_)
      · refine bg_aload0 (pc := 45) X1 dX7_keep_45 ?_
        refine bg_dup (pc := 46) X1 dX7_keep_46 ?_
        refine bo_getI (pc := 47) X1 dX7_keep_47 fX7_138 (by first | assumption | rfl) rfl ?_
        rw [e5]
        refine bg_iconst (pc := 50) X1 dX7_keep_50 (by decide) ?_
        refine bg_iload1 (pc := 51) X1 dX7_keep_51 ?_
        refine bg_ishl (pc := 52) X1 dX7_keep_52 ?_
        refine bg_ior (pc := 53) X1 dX7_keep_53 ?_
        rw [mk2_or _ _ i (by omega)]
        refine bo_putI (pc := 54) X1 dX7_keep_54 fX7_138 (by first | assumption | rfl) rfl ?_
        refine bg_aload0 (pc := 57) X1 dX7_keep_57 ?_
        have hS : rowR ((bg_up (cp g 201 (210 * i.toNat) 199 0 210) 198 5 (if i = 0 then mk2 true (Z.2.2.1 1).isSome else mk2 (Z.2.2.1 0).isSome true)) 199) Z.1 := by rw [bg_up_ne (by decide), cp_A (by decide)]; exact m1
        refine bo_V0i (pc := 58) X1 (c_X7_allBeds hS ok.1) vX7_allBeds lX7_141 rfl (by first | assumption | rfl) (by decide) dX7_keep_58 (by exact Nat.le_of_ble_eq_true rfl) ?_
        rintro _ _ ⟨h9, h8⟩
        obtain rfl := h9.symm
        obtain rfl := h8.symm
        clear h9 h8
        exact bo_iret (pc := 61) X rfl dX7_keep_61 (fun hi => by
            unfold xKeep
            rw [if_pos (by omega)]
            refine ⟨rfl, ⟨hS, m2.cg (by rw [up_k (by decide), cp_a (by decide)]) (by rw [bg_up_ne (by decide), cp_A (by decide)]), ⟨?_, fun j T hj hT => ?_⟩, m4.cg (by rw [up_k (by decide), cp_a (by decide)]) (by rw [bg_up_ne (by decide), cp_A (by decide)])⟩, fun x hx => by rw [bg_up_ne (by omega), cp_A (by omega)]⟩
            · rw [up_eq]
              have e1 : i = 0 ∨ i = 1 := by omega
              rcases e1 with rfl | rfl
              · rw [if_pos rfl]
                show mk2 true _ = mk2 (fup Z.2.2.1 0 (some Z.1) 0).isSome (fup Z.2.2.1 0 (some Z.1) 1).isSome
                rw [fup_eq, fup_ne (by decide)]; rfl
              · rw [if_neg (by decide)]
                show mk2 _ true = mk2 (fup Z.2.2.1 1 (some Z.1) 0).isSome (fup Z.2.2.1 1 (some Z.1) 1).isSome
                rw [fup_eq, fup_ne (by decide)]; rfl
            · have hT' : fup Z.2.2.1 i.toNat (some Z.1) j = some T := hT
              by_cases hji : j = i.toNat
              · subst hji
                rw [fup_eq] at hT'
                cases hT'
                refine m1.cg (ok_len ok.1) (fun k hk => ?_)
                unfold rowF
                rw [up_a (by decide), cp_i (j' := k) (by omega) (by omega)]
              · rw [fup_ne hji] at hT'
                refine (m3.2 j T hj hT').cg (ok_len (ok.2.2 j T hj hT')) (fun k hk => ?_)
                unfold rowF
                rw [up_a (by decide), cp_o (by omega)])
      · exfalso; omega
    | succ n ih =>
      intro k hi1 hk
      refine bg_iload2 (pc := 14) X1 dX7_keep_14 ?_
      refine bg_sipush (pc := 15) X1 dX7_keep_15 rfl (by decide) ?_
      refine bg_icmp_ge (pc := 18) X1 (tgt := 45) dX7_keep_18 (by decide) (fun u18 => ?_) (fun u18 => ?_)
      · exfalso; omega
      · refine bg_aload0 (pc := 21) X1 dX7_keep_21 ?_
        refine bo_getR (pc := 22) X1 dX7_keep_22 fX7_16 (by first | assumption | rfl) rfl (by first | assumption | rfl) ?_
        refine bg_sipush (pc := 25) X1 dX7_keep_25 rfl (by decide) ?_
        refine bg_iload1 (pc := 28) X1 dX7_keep_28 ?_
        refine bg_imul (pc := 29) X1 dX7_keep_29 (by omega) ?_
        refine bg_iload2 (pc := 30) X1 dX7_keep_30 ?_
        refine bg_iadd (pc := 31) X1 dX7_keep_31 (by omega) ?_
        refine bg_aload0 (pc := 32) X1 dX7_keep_32 ?_
        refine bo_getR (pc := 33) X1 dX7_keep_33 fX7_7 (by first | assumption | rfl) rfl (by first | assumption | rfl) ?_
        refine bg_iload2 (pc := 36) X1 dX7_keep_36 ?_
        refine bo_iaload (pc := 37) X1 dX7_keep_37 (by first | assumption | rfl) (by omega) ?_
        refine bo_iastore (pc := 38) X1 dX7_keep_38 (by first | assumption | rfl) (by omega) ?_
        refine bg_iinc2 (pc := 39) X1 dX7_keep_39 (by omega) ?_
        refine bg_goto (pc := 42) X1 (tgt := 14) dX7_keep_42 (by decide) ?_
        rw [cp_s (Or.inl (by decide)) (by omega) (by omega)]
        exact ih (k + 1) hi1 (by omega)
  refine bg_iload1 (pc := 0) X1 dX7_keep_0 ?_
  refine bg_iconst (pc := 1) X1 dX7_keep_1 (by decide) ?_
  refine bg_iconst (pc := 2) X1 dX7_keep_2 (by decide) ?_
  refine bo_S3i (pc := 3) X1 (c_X7_in) sX7_in lX7_59 rfl (by decide) dX7_keep_3 (by exact Nat.le_of_ble_eq_true rfl) ?_
  rintro _ _ ⟨h9, h8⟩
  obtain rfl := h9.symm
  obtain rfl := h8.symm
  clear h9 h8
  refine bo_ifne_b (pc := 6) X1 (tgt := 12) dX7_keep_6 (by decide) (fun u6 => ?_) (fun u6 => ?_)
  · refine bg_iconst (pc := 12) X1 dX7_keep_12 (by decide) ?_
    refine bg_istore2 (pc := 13) X1 dX7_keep_13 ?_
    have := loop 210 0 u6 rfl
    rw [cp_0] at this
    exact this
  · refine bg_ldc (pc := 9) X1 dX7_keep_9 kX7_87 (by decide) ?_
    exact bo_iret (pc := 11) X rfl dX7_keep_11 (fun hi => by unfold xKeep; rw [if_neg (by omega)]; exact ⟨rfl, hM, frR.rf⟩)
theorem c_X7_back {y : bg_Y} {g : bg_E} {i : Int} {Z : bm_X} (hM : modR g Z) (ok : okX Z) : bg_Si y 6 mX7_back [.inr 198, .inl i] g (fun r g' => r = (xBack Z i).1 ∧ modR g' (xBack Z i).2 ∧ frR 198 214 g g') := by
  obtain ⟨m1, m2, m3, m4⟩ := id hM
  refine bg_enter pnX7 (Nat.le_of_ble_eq_true rfl) (fun κ X hR hg => ?_)
  have X1 : bg_X κ y cX7_back RX7 6 0 0 := X.1
  have hg : ∀ a k, R32 (g a k) := hg
  show bg_g κ y 0 [some (.inr 198), some (.inl i), none] [] g
  have loop : ∀ (g1 : bg_E) (T : bm_S) (n k : Nat), 0 ≤ i ∧ i ≤ 1 → Z.2.2.1 i.toNat = some T → hisM g1 (hPush Z.2.1 Z.1) → sfr g g1 → k + n = 210 → bg_g κ y 32 [some (.inr 198), some (.inl i), some (.inl (k : Int))] [] (cp g1 199 0 201 (210 * i.toNat) k) := by
    intro g1 T n
    induction n with
    | zero =>
      intro k hi1 hT x1 x2 hk
      obtain rfl : k = 210 := by omega
      have okT := ok.2.2 i.toNat T (by omega) hT
      have hS : rowR ((cp g1 199 0 201 (210 * i.toNat) 210) 199) T := by
        refine (m3.2 i.toNat T (by omega) hT).cg (ok_len okT) (fun k hk => ?_)
        unfold rowF
        rw [cp_i (j' := 210 * i.toNat + k) (by omega) (by omega), x2 201 _ (by decide) (by omega)]
      refine bg_iload2 (pc := 32) X1 dX7_back_32 ?_
      refine bg_sipush (pc := 33) X1 dX7_back_33 rfl (by decide) ?_
      refine bg_icmp_ge (pc := 36) X1 (tgt := 63) dX7_back_36 (by decide) (fun u36 => ?_) (fun u36 => ?_)
      · refine bg_aload0 (pc := 63) X1 dX7_back_63 ?_
        refine bo_V0i (pc := 64) X1 (c_X7_allBeds hS okT) vX7_allBeds lX7_141 rfl (by first | assumption | rfl) (by decide) dX7_back_64 (by exact Nat.le_of_ble_eq_true rfl) ?_
        rintro _ _ ⟨h9, h8⟩
        obtain rfl := h9.symm
        obtain rfl := h8.symm
        clear h9 h8
        exact bo_iret (pc := 67) X rfl dX7_back_67 (fun hi => by
            unfold xBack
            rw [if_pos (by omega), hT]
            exact ⟨rfl, hM.put x1 x2 (fun x hx => cp_A hx) hS⟩)
      · exfalso; omega
    | succ n ih =>
      intro k hi1 hT x1 x2 hk
      refine bg_iload2 (pc := 32) X1 dX7_back_32 ?_
      refine bg_sipush (pc := 33) X1 dX7_back_33 rfl (by decide) ?_
      refine bg_icmp_ge (pc := 36) X1 (tgt := 63) dX7_back_36 (by decide) (fun u36 => ?_) (fun u36 => ?_)
      · exfalso; omega
      · refine bg_aload0 (pc := 39) X1 dX7_back_39 ?_
        refine bo_getR (pc := 40) X1 dX7_back_40 fX7_7 (by first | assumption | rfl) rfl (by first | assumption | rfl) ?_
        refine bg_iload2 (pc := 43) X1 dX7_back_43 ?_
        refine bg_aload0 (pc := 44) X1 dX7_back_44 ?_
        refine bo_getR (pc := 45) X1 dX7_back_45 fX7_16 (by first | assumption | rfl) rfl (by first | assumption | rfl) ?_
        refine bg_sipush (pc := 48) X1 dX7_back_48 rfl (by decide) ?_
        refine bg_iload1 (pc := 51) X1 dX7_back_51 ?_
        refine bg_imul (pc := 52) X1 dX7_back_52 (by omega) ?_
        refine bg_iload2 (pc := 53) X1 dX7_back_53 ?_
        refine bg_iadd (pc := 54) X1 dX7_back_54 (by omega) ?_
        refine bo_iaload (pc := 55) X1 dX7_back_55 (by first | assumption | rfl) (by omega) ?_
        refine bo_iastore (pc := 56) X1 dX7_back_56 (by first | assumption | rfl) (by omega) ?_
        refine bg_iinc2 (pc := 57) X1 dX7_back_57 (by omega) ?_
        refine bg_goto (pc := 60) X1 (tgt := 32) dX7_back_60 (by decide) ?_
        rw [cp_s (Or.inl (by decide)) (by omega) (by omega)]
        exact ih (k + 1) hi1 hT x1 x2 (by omega)
  refine bg_iload1 (pc := 0) X1 dX7_back_0 ?_
  refine bg_iconst (pc := 1) X1 dX7_back_1 (by decide) ?_
  refine bg_iconst (pc := 2) X1 dX7_back_2 (by decide) ?_
  refine bo_S3i (pc := 3) X1 (c_X7_in) sX7_in lX7_59 rfl (by decide) dX7_back_3 (by exact Nat.le_of_ble_eq_true rfl) ?_
  rintro _ _ ⟨h9, h8⟩
  obtain rfl := h9.symm
  obtain rfl := h8.symm
  clear h9 h8
  refine bo_ifne_b (pc := 6) X1 (tgt := 12) dX7_back_6 (by decide) (fun u6 => ?_) (fun u6 => ?_)
  · have e0 : (if i = 0 then (Z.2.2.1 0).isSome else (Z.2.2.1 1).isSome) = (Z.2.2.1 i.toNat).isSome := by
      have e1 : i = 0 ∨ i = 1 := by omega
      rcases e1 with rfl | rfl <;> rfl
    refine bg_aload0 (pc := 12) X1 dX7_back_12 ?_
    refine bo_getI (pc := 13) X1 dX7_back_13 fX7_138 (by first | assumption | rfl) rfl ?_
    rw [m3.1]
    refine bg_iload1 (pc := 16) X1 dX7_back_16 ?_
    refine bg_ishr (pc := 17) X1 dX7_back_17 ?_
    refine bg_iconst (pc := 18) X1 dX7_back_18 (by decide) ?_
    refine bg_iand (pc := 19) X1 dX7_back_19 ?_
    refine bg_if_ne (pc := 20) X1 (tgt := 26) dX7_back_20 (by decide) (fun u20 => ?_) (fun u20 => ?_)
    · rw [mk2_shr _ _ i (by omega), e0] at u20
      obtain ⟨T, e2⟩ : ∃ T, Z.2.2.1 i.toNat = some T := by
        cases h : Z.2.2.1 i.toNat with
        | none => rw [h] at u20; exact absurd (by decide) u20
        | some T => exact ⟨T, rfl⟩
      refine bg_aload0 (pc := 26) X1 dX7_back_26 ?_
      refine bo_V0v (pc := 27) X1 (c_X7_saves hM ok) vX7_saves lX7_77 rfl (by first | assumption | rfl) (by decide) dX7_back_27 (by exact Nat.le_of_ble_eq_true rfl) ?_
      rintro g1 ⟨x1, x2⟩
      refine bg_iconst (pc := 30) X1 dX7_back_30 (by decide) ?_
      refine bg_istore2 (pc := 31) X1 dX7_back_31 ?_
      have := loop g1 T 210 0 u6 e2 x1 x2 rfl
      rw [cp_0] at this
      exact this
    · rw [mk2_shr _ _ i (by omega), e0] at u20
      have e2 : Z.2.2.1 i.toNat = none := by
        cases h : Z.2.2.1 i.toNat with
        | none => rfl
        | some T => rw [h] at u20; exact absurd rfl u20
      refine bg_ldc (pc := 23) X1 dX7_back_23 kX7_144 (by decide) ?_
      exact bo_iret (pc := 25) X rfl dX7_back_25 (fun hi => by unfold xBack; rw [if_pos (by omega), e2]; exact ⟨rfl, hM, frR.rf⟩)
  · refine bg_ldc (pc := 9) X1 dX7_back_9 kX7_87 (by decide) ?_
    exact bo_iret (pc := 11) X rfl dX7_back_11 (fun hi => by unfold xBack; rw [if_neg (by omega)]; exact ⟨rfl, hM, frR.rf⟩)
theorem c_X7_undo {y : bg_Y} {g : bg_E} {Z : bm_X} (hM : modR g Z) (ok : okX Z) : bg_Si y 6 mX7_undo [.inr 198] g (fun r g' => r = (xUndo Z).1 ∧ modR g' (xUndo Z).2 ∧ frR 198 214 g g') := by
  obtain ⟨m1, ⟨h1, h2, h3⟩, m3, m4⟩ := id hM
  have hcase : (Z.2.1 = [] ∧ xUndo Z = (ILL, Z)) ∨ ∃ hs S, Z.2.1 = hs ++ [S] ∧ xUndo Z = ((hs.length : Int), (S, hs, Z.2.2)) := by
    rcases List.eq_nil_or_concat Z.2.1 with h | ⟨hs, S, h⟩
    · exact Or.inl ⟨h, by unfold xUndo; rw [h]; rfl⟩
    · rw [List.concat_eq_append] at h
      exact Or.inr ⟨hs, S, h, by unfold xUndo; rw [h, List.getLast?_concat, List.dropLast_concat]⟩
  rcases hcase with ⟨e1, e2⟩ | ⟨hs, S, e1, e2⟩
  · rw [e1] at h1
    have h1 : g 198 4 = 0 := h1
    rw [e2]
    refine bg_enter pnX7 (Nat.le_of_ble_eq_true rfl) (fun κ X hR hg => ?_)
    have X1 : bg_X κ y cX7_undo RX7 6 0 0 := X.1
    have hg : ∀ a k, R32 (g a k) := hg
    show bg_g κ y 0 [some (.inr 198), none] [] g
    refine bg_aload0 (pc := 0) X1 dX7_undo_0 ?_
    refine bo_getI (pc := 1) X1 dX7_undo_1 fX7_55 (by first | assumption | rfl) rfl ?_
    refine bg_if_ne (pc := 4) X1 (tgt := 10) dX7_undo_4 (by decide) (fun u4 => ?_) (fun u4 => ?_)
    · exfalso; omega
    · refine bg_ldc (pc := 7) X1 dX7_undo_7 kX7_144 (by decide) ?_
      exact bo_iret (pc := 9) X rfl dX7_undo_9 (fun hi => ⟨rfl, hM, frR.rf⟩)
  · rw [e1, List.length_append, List.length_singleton] at h1 h2
    rw [e1] at h3
    have h1 : g 198 4 = (hs.length : Int) + 1 := h1
    have hS : rowR (rowF g 200 (210 * hs.length)) S := h3 hs.length S (by rw [List.getElem?_append_right (Nat.le_refl _), Nat.sub_self]; rfl)
    have okS : staOK S := ok.2.1 S (by rw [e1]; simp)
    rw [e2]
    refine bg_enter pnX7 (Nat.le_of_ble_eq_true rfl) (fun κ X hR hg => ?_)
    have X1 : bg_X κ y cX7_undo RX7 6 0 0 := X.1
    have hg : ∀ a k, R32 (g a k) := hg
    show bg_g κ y 0 [some (.inr 198), none] [] g
    have loop : ∀ (n k : Nat), k + n = 210 → bg_g κ y 22 [some (.inr 198), some (.inl (k : Int))] [] (cp (bg_up g 198 4 (hs.length : Int)) 199 0 200 (210 * hs.length) k) := by
      intro n
      induction n with
      | zero =>
        intro k hk
        obtain rfl : k = 210 := by omega
        refine bg_iload1 (pc := 22) X1 dX7_undo_22 ?_
        refine bg_sipush (pc := 23) X1 dX7_undo_23 rfl (by decide) ?_
        refine bg_icmp_ge (pc := 26) X1 (tgt := 56) dX7_undo_26 (by decide) (fun u26 => ?_) (fun u26 => ?_)
        · refine bg_aload0 (pc := 56) X1 dX7_undo_56 ?_
          refine bo_getI (pc := 57) X1 dX7_undo_57 fX7_55 (by first | assumption | rfl) rfl ?_
          exact bo_iret (pc := 60) X rfl dX7_undo_60 (fun hi => by
              refine ⟨by rw [cp_a (by decide), up_eq], ⟨?_, ⟨by rw [cp_a (by decide), up_eq], show hs.length ≤ 6 by omega, fun j T hj => ?_⟩, m3.cg (by rw [cp_a (by decide), up_k (by decide)]) (by rw [cp_A (by decide), bg_up_ne (by decide)]), m4.cg (by rw [cp_a (by decide), up_k (by decide)]) (by rw [cp_A (by decide), bg_up_ne (by decide)])⟩, fun x hx => by rw [cp_A (by omega), bg_up_ne (by omega)]⟩
              · refine hS.cg (ok_len okS) (fun k hk => ?_)
                unfold rowF
                rw [cp_i (j' := 210 * hs.length + k) (by omega) (by omega), up_a (by decide)]
              · have hj2 : j < hs.length := (List.getElem?_eq_some_iff.mp hj).1
                have hj3 : (hs ++ [S])[j]? = some T := by rw [List.getElem?_append_left hj2]; exact hj
                refine (h3 j T hj3).cg (ok_len (ok.2.1 T (by rw [e1]; exact List.mem_of_getElem? hj3))) (fun k hk => ?_)
                unfold rowF
                rw [cp_a (by decide), up_a (by decide)])
        · exfalso; omega
      | succ n ih =>
        intro k hk
        have e4 : cp (bg_up g 198 4 (hs.length : Int)) 199 0 200 (210 * hs.length) k 198 4 = (hs.length : Int) := (cp_a (by decide)).trans up_eq
        refine bg_iload1 (pc := 22) X1 dX7_undo_22 ?_
        refine bg_sipush (pc := 23) X1 dX7_undo_23 rfl (by decide) ?_
        refine bg_icmp_ge (pc := 26) X1 (tgt := 56) dX7_undo_26 (by decide) (fun u26 => ?_) (fun u26 => ?_)
        · exfalso; omega
        · refine bg_aload0 (pc := 29) X1 dX7_undo_29 ?_
          refine bo_getR (pc := 30) X1 dX7_undo_30 fX7_7 (by first | assumption | rfl) rfl (by first | assumption | rfl) ?_
          refine bg_iload1 (pc := 33) X1 dX7_undo_33 ?_
          refine bg_aload0 (pc := 34) X1 dX7_undo_34 ?_
          refine bo_getR (pc := 35) X1 dX7_undo_35 fX7_13 (by first | assumption | rfl) rfl (by first | assumption | rfl) ?_
          refine bg_sipush (pc := 38) X1 dX7_undo_38 rfl (by decide) ?_
          refine bg_aload0 (pc := 41) X1 dX7_undo_41 ?_
          refine bo_getI (pc := 42) X1 dX7_undo_42 fX7_55 (by first | assumption | rfl) rfl ?_
          rw [e4]
          refine bg_imul (pc := 45) X1 dX7_undo_45 (by omega) ?_
          refine bg_iload1 (pc := 46) X1 dX7_undo_46 ?_
          refine bg_iadd (pc := 47) X1 dX7_undo_47 (by omega) ?_
          refine bo_iaload (pc := 48) X1 dX7_undo_48 (by first | assumption | rfl) (by omega) ?_
          refine bo_iastore (pc := 49) X1 dX7_undo_49 (by first | assumption | rfl) (by omega) ?_
          refine bg_iinc1 (pc := 50) X1 dX7_undo_50 (by omega) ?_
          refine bg_goto (pc := 53) X1 (tgt := 22) dX7_undo_53 (by decide) ?_
          rw [cp_s (Or.inl (by decide)) (by omega) (by omega)]
          exact ih (k + 1) (by omega)
    refine bg_aload0 (pc := 0) X1 dX7_undo_0 ?_
    refine bo_getI (pc := 1) X1 dX7_undo_1 fX7_55 (by first | assumption | rfl) rfl ?_
    rw [h1]
    refine bg_if_ne (pc := 4) X1 (tgt := 10) dX7_undo_4 (by decide) (fun u4 => ?_) (fun u4 => ?_)
    · refine bg_aload0 (pc := 10) X1 dX7_undo_10 ?_
      refine bg_dup (pc := 11) X1 dX7_undo_11 ?_
      refine bo_getI (pc := 12) X1 dX7_undo_12 fX7_55 (by first | assumption | rfl) rfl ?_
      rw [h1]
      refine bg_iconst (pc := 15) X1 dX7_undo_15 (by decide) ?_
      refine bg_isub (pc := 16) X1 dX7_undo_16 (by omega) ?_
      refine bo_putI (pc := 17) X1 dX7_undo_17 fX7_55 (by first | assumption | rfl) rfl ?_
      rw [show (hs.length : Int) + 1 - 1 = (hs.length : Int) by omega]
      refine bg_iconst (pc := 20) X1 dX7_undo_20 (by decide) ?_
      refine bg_istore1 (pc := 21) X1 dX7_undo_21 ?_
      have := loop 210 0 rfl
      rw [cp_0] at this
      exact this
    · exfalso; omega
