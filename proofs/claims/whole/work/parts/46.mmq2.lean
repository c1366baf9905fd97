/-! the model's last calls about the matching -/
theorem sumT_R : ∀ l : List bm_T, (∀ e ∈ l, -5000 ≤ e.2.1 ∧ e.2.1 ≤ 5000) → -5000 * (l.length : Int) ≤ sumT l ∧ sumT l ≤ 5000 * l.length
  | [], _ => by simp [sumT]
  | e :: l, h => by
    have h1 := sumT_R l (fun x hx => h x (List.mem_cons_of_mem _ hx))
    have h2 := h e List.mem_cons_self
    rw [sumT, List.length_cons]
    omega
theorem no_match {P : bm_P} (h : okP P) : cntF (FA P) 1 (pA P).length = 0 ↔ nxt (FA P) 24 0 < 0 := by
  rw [← (cnt_24 h (v := 1) (by decide)).1]
  have c := cntF_pos (f := FA P) 24
  have cr := cntF_R (FA P) 1 24
  rcases nxt_or (FA P) 24 0 with ⟨h1, h2⟩ | ⟨h1, h2, h3, h4⟩
  · rcases lst_or (FA P) 24 with ⟨g1, g2⟩ | ⟨g1, g2, g3, g4⟩
    · omega
    · exact absurd g3 (h2 _ (by omega) (by omega))
  · rcases lst_or (FA P) 24 with ⟨g1, g2⟩ | ⟨g1, g2, g3, g4⟩
    · exact absurd h3 (g2 _ (by omega))
    · omega
theorem c_X7_sumOfThrows {y : bg_Y} {g : bg_E} {a b w : Int} {Z : bm_X} (hM : modR g Z) (ok : okX Z) : bg_Si y 6 mX7_sumOfThrows [.inr 198, .inl a, .inl b, .inl w] g (fun r g' => r = xSum Z a b w ∧ modR g' Z ∧ frR 198 214 g g') := by
  refine bg_enter pnX7 (Nat.le_of_ble_eq_true rfl) (fun κ X hR hg => ?_)
  have X1 : bg_X κ y cX7_sumOfThrows RX7 6 0 0 := X.1
  have hg : ∀ a k, R32 (g a k) := hg
  show bg_g κ y 0 [some (.inr 198), some (.inl a), some (.inl b), some (.inl w), none, none] [] g
  have loop : ∀ (g1 : bg_E) (n k : Nat) (r : Int), arePa a b → (0 ≤ w ∧ w ≤ 2) → matM g1 (mP Z a b) → modR g1 Z ∧ frR 198 214 g g1 → k + n = (TT (mP Z a b)).length → r = sumT (if w = 1 then ((TT (mP Z a b)).take k).filter (fF (Z.1.1 4)) else (TT (mP Z a b)).take k) → bg_g κ y 32 [some (.inr 198), some (.inl a), some (.inl b), some (.inl w), some (.inl r), some (.inl (k : Int))] [] g1 := by
    intro g1 n
    induction n with
    | zero =>
      intro k r p1 hw hMM h1 hk hr
      obtain ⟨x1, x2, x3⟩ := id hMM
      have okP1 : okP (mP Z a b) := mkP_ok ok.1 (by omega) (by omega)
      have hn := no_match okP1
      rw [List.take_of_length_le (by omega)] at hr
      refine bg_iload5 (pc := 32) X1 dX7_sumOfThrows_32 ?_
      refine bg_aload0 (pc := 34) X1 dX7_sumOfThrows_34 ?_
      refine bo_getI (pc := 35) X1 dX7_sumOfThrows_35 fX7_166 (by first | assumption | rfl) rfl ?_
      rw [x2.1]
      refine bg_icmp_ge (pc := 38) X1 (tgt := 81) dX7_sumOfThrows_38 (by decide) (fun u38 => ?_) (fun u38 => ?_)
      · refine bg_aload0 (pc := 81) X1 dX7_sumOfThrows_81 ?_
        refine bo_getI (pc := 82) X1 dX7_sumOfThrows_82 fX7_169 (by first | assumption | rfl) rfl ?_
        rw [x3]
        refine bg_if_ne (pc := 85) X1 (tgt := 93) dX7_sumOfThrows_85 (by decide) (fun u85 => ?_) (fun u85 => ?_)
        · refine bg_iload4 (pc := 93) X1 dX7_sumOfThrows_93 ?_
          exact bo_iret (pc := 95) X rfl dX7_sumOfThrows_95 (fun hi => by
              unfold xSum
              rw [if_pos (show arePa a b ∧ 0 ≤ w ∧ w ≤ 2 from ⟨p1, hw⟩)]
              refine ⟨?_, h1⟩
              first
              | (rw [if_pos (hn.mp (by assumption))]; rfl)
              | (rw [if_neg (fun h9 => absurd (hn.mpr h9) (by assumption)), hr]
                 by_cases h5 : w = 1
                 · rw [if_pos h5, if_pos h5]
                 · rw [if_neg h5, if_neg h5]))
        · refine bg_ldc (pc := 88) X1 dX7_sumOfThrows_88 kX7_148 (by decide) ?_
          refine bg_goto (pc := 90) X1 (tgt := 95) dX7_sumOfThrows_90 (by decide) ?_
          exact bo_iret (pc := 95) X rfl dX7_sumOfThrows_95 (fun hi => by
              unfold xSum
              rw [if_pos (show arePa a b ∧ 0 ≤ w ∧ w ≤ 2 from ⟨p1, hw⟩)]
              refine ⟨?_, h1⟩
              first
              | (rw [if_pos (hn.mp (by assumption))]; rfl)
              | (rw [if_neg (fun h9 => absurd (hn.mpr h9) (by assumption)), hr]
                 by_cases h5 : w = 1
                 · rw [if_pos h5, if_pos h5]
                 · rw [if_neg h5, if_neg h5]))
      · exfalso; omega
    | succ n ih =>
      intro k r p1 hw hMM h1 hk hr
      obtain ⟨x1, x2, x3⟩ := id hMM
      have okP1 : okP (mP Z a b) := mkP_ok ok.1 (by omega) (by omega)
      have hlt : (TT (mP Z a b)).length ≤ 24 := TTn_len _ 24
      have hall : ∀ e ∈ TT (mP Z a b), -5000 ≤ e.2.1 ∧ e.2.1 ≤ 5000 := fun e he => by
        obtain ⟨j, hj⟩ := List.mem_iff_getElem?.mp he
        obtain ⟨q, -, q2, q3⟩ := TT_at hj
        rw [q3]
        exact TH_R okP1 q2
      obtain ⟨e, he⟩ : ∃ e, (TT (mP Z a b))[k]? = some e := ⟨_, List.getElem?_eq_getElem (by omega)⟩
      have ht := take_f (fF (Z.1.1 4)) he
      have hp := take_p he
      obtain ⟨v0, v1, v2⟩ := x2.2 k e he
      have he2 := hall e (List.mem_of_getElem? he)
      have hrb : -5000 * 24 ≤ r ∧ r ≤ 5000 * 24 := by
        have b1 : ((TT (mP Z a b)).take k).length ≤ 24 := by rw [List.length_take]; omega
        have b2 := List.length_filter_le (fF (Z.1.1 4)) ((TT (mP Z a b)).take k)
        have b3 := sumT_R ((TT (mP Z a b)).take k) (fun x hx => hall x (List.mem_of_mem_take hx))
        have b4 := sumT_R (((TT (mP Z a b)).take k).filter (fF (Z.1.1 4))) (fun x hx => hall x (List.mem_of_mem_take (List.mem_filter.mp hx).1))
        rw [hr]
        split <;> omega
      have sA : sumT [e] = e.2.1 := by rw [sumT, sumT]; omega
      refine bg_iload5 (pc := 32) X1 dX7_sumOfThrows_32 ?_
      refine bg_aload0 (pc := 34) X1 dX7_sumOfThrows_34 ?_
      refine bo_getI (pc := 35) X1 dX7_sumOfThrows_35 fX7_166 (by first | assumption | rfl) rfl ?_
      rw [x2.1]
      refine bg_icmp_ge (pc := 38) X1 (tgt := 81) dX7_sumOfThrows_38 (by decide) (fun u38 => ?_) (fun u38 => ?_)
      · exfalso; omega
      · refine bg_iload4 (pc := 41) X1 dX7_sumOfThrows_41 ?_
        refine bg_iload3 (pc := 43) X1 dX7_sumOfThrows_43 ?_
        refine bg_iconst (pc := 44) X1 dX7_sumOfThrows_44 (by decide) ?_
        refine bg_icmp_ne (pc := 45) X1 (tgt := 57) dX7_sumOfThrows_45 (by decide) (fun u45 => ?_) (fun u45 => ?_)
        · refine bg_aload0 (pc := 57) X1 dX7_sumOfThrows_57 ?_
          refine bo_getR (pc := 58) X1 dX7_sumOfThrows_58 fX7_46 (by first | assumption | rfl) rfl (by first | assumption | rfl) ?_
          refine bg_iconst (pc := 61) X1 dX7_sumOfThrows_61 (by decide) ?_
          refine bg_iload5 (pc := 62) X1 dX7_sumOfThrows_62 ?_
          refine bg_imul (pc := 64) X1 dX7_sumOfThrows_64 (by omega) ?_
          refine bg_iconst (pc := 65) X1 dX7_sumOfThrows_65 (by decide) ?_
          refine bg_iadd (pc := 66) X1 dX7_sumOfThrows_66 (by omega) ?_
          refine bo_iaload (pc := 67) X1 dX7_sumOfThrows_67 (by first | assumption | rfl) (by omega) ?_
          rw [show (3 * (k : Int) + 1).toNat = 3 * k + 1 by omega, v1]
          refine bg_goto (pc := 68) X1 (tgt := 72) dX7_sumOfThrows_68 (by decide) ?_
          refine bg_iadd (pc := 72) X1 dX7_sumOfThrows_72 (by omega) ?_
          refine bg_istore4 (pc := 73) X1 dX7_sumOfThrows_73 ?_
          refine bg_iinc5 (pc := 75) X1 dX7_sumOfThrows_75 (by omega) ?_
          refine bg_goto (pc := 78) X1 (tgt := 32) dX7_sumOfThrows_78 (by decide) ?_
          refine ih (k + 1) _ p1 hw hMM h1 (by omega) ?_
          rw [hr, ht, hp]
          first
          | (rw [if_neg u45, if_neg u45, sumT_app, sA])
          | (rw [if_pos u45, if_pos u45, if_pos u54, sumT_app, sA])
          | (rw [if_pos u45, if_pos u45, if_neg u54, List.append_nil, Int.add_zero])
        · refine bg_aload0 (pc := 48) X1 dX7_sumOfThrows_48 ?_
          refine bg_iload5 (pc := 49) X1 dX7_sumOfThrows_49 ?_
          refine bo_V1i (pc := 51) X1 (c_X7_isFault h1.1.1 okP1 x2 he) vX7_isFault lX7_184 rfl (by first | assumption | rfl) (by decide) dX7_sumOfThrows_51 (by exact Nat.le_of_ble_eq_true rfl) ?_
          rintro _ _ ⟨h9, h8⟩
          obtain rfl := h9.symm
          obtain rfl := h8.symm
          clear h9 h8
          refine bo_ifeq_b (pc := 54) X1 (tgt := 71) dX7_sumOfThrows_54 (by decide) (fun u54 => ?_) (fun u54 => ?_)
          · refine bg_iconst (pc := 71) X1 dX7_sumOfThrows_71 (by decide) ?_
            refine bg_iadd (pc := 72) X1 dX7_sumOfThrows_72 (by omega) ?_
            refine bg_istore4 (pc := 73) X1 dX7_sumOfThrows_73 ?_
            refine bg_iinc5 (pc := 75) X1 dX7_sumOfThrows_75 (by omega) ?_
            refine bg_goto (pc := 78) X1 (tgt := 32) dX7_sumOfThrows_78 (by decide) ?_
            refine ih (k + 1) _ p1 hw hMM h1 (by omega) ?_
            rw [hr, ht, hp]
            first
            | (rw [if_neg u45, if_neg u45, sumT_app, sA])
            | (rw [if_pos u45, if_pos u45, if_pos u54, sumT_app, sA])
            | (rw [if_pos u45, if_pos u45, if_neg u54, List.append_nil, Int.add_zero])
          · refine bg_aload0 (pc := 57) X1 dX7_sumOfThrows_57 ?_
            refine bo_getR (pc := 58) X1 dX7_sumOfThrows_58 fX7_46 (by first | assumption | rfl) rfl (by first | assumption | rfl) ?_
            refine bg_iconst (pc := 61) X1 dX7_sumOfThrows_61 (by decide) ?_
            refine bg_iload5 (pc := 62) X1 dX7_sumOfThrows_62 ?_
            refine bg_imul (pc := 64) X1 dX7_sumOfThrows_64 (by omega) ?_
            refine bg_iconst (pc := 65) X1 dX7_sumOfThrows_65 (by decide) ?_
            refine bg_iadd (pc := 66) X1 dX7_sumOfThrows_66 (by omega) ?_
            refine bo_iaload (pc := 67) X1 dX7_sumOfThrows_67 (by first | assumption | rfl) (by omega) ?_
            rw [show (3 * (k : Int) + 1).toNat = 3 * k + 1 by omega, v1]
            refine bg_goto (pc := 68) X1 (tgt := 72) dX7_sumOfThrows_68 (by decide) ?_
            refine bg_iadd (pc := 72) X1 dX7_sumOfThrows_72 (by omega) ?_
            refine bg_istore4 (pc := 73) X1 dX7_sumOfThrows_73 ?_
            refine bg_iinc5 (pc := 75) X1 dX7_sumOfThrows_75 (by omega) ?_
            refine bg_goto (pc := 78) X1 (tgt := 32) dX7_sumOfThrows_78 (by decide) ?_
            refine ih (k + 1) _ p1 hw hMM h1 (by omega) ?_
            rw [hr, ht, hp]
            first
            | (rw [if_neg u45, if_neg u45, sumT_app, sA])
            | (rw [if_pos u45, if_pos u45, if_pos u54, sumT_app, sA])
            | (rw [if_pos u45, if_pos u45, if_neg u54, List.append_nil, Int.add_zero])
  refine bg_iload1 (pc := 0) X1 dX7_sumOfThrows_0 ?_
  refine bg_iload2 (pc := 1) X1 dX7_sumOfThrows_1 ?_
  refine bo_S2i (pc := 2) X1 (c_X7_areTwo) sX7_areTwo lX7_175 rfl (by decide) dX7_sumOfThrows_2 (by exact Nat.le_of_ble_eq_true rfl) ?_
  rintro _ _ ⟨h9, h8⟩
  obtain rfl := h9.symm
  obtain rfl := h8.symm
  clear h9 h8
  refine bo_ifeq_b (pc := 5) X1 (tgt := 17) dX7_sumOfThrows_5 (by decide) (fun u5 => ?_) (fun u5 => ?_)
  · refine bg_ldc (pc := 17) X1 dX7_sumOfThrows_17 kX7_87 (by decide) ?_
    exact bo_iret (pc := 19) X rfl dX7_sumOfThrows_19 (fun hi => by unfold xSum; rw [if_neg (show ¬ (arePa a b ∧ 0 ≤ w ∧ w ≤ 2) by omega)]; exact ⟨rfl, hM, frR.rf⟩)
  · refine bg_iload3 (pc := 8) X1 dX7_sumOfThrows_8 ?_
    refine bg_iconst (pc := 9) X1 dX7_sumOfThrows_9 (by decide) ?_
    refine bg_iconst (pc := 10) X1 dX7_sumOfThrows_10 (by decide) ?_
    refine bo_S3i (pc := 11) X1 (c_X7_in) sX7_in lX7_59 rfl (by decide) dX7_sumOfThrows_11 (by exact Nat.le_of_ble_eq_true rfl) ?_
    rintro _ _ ⟨h9, h8⟩
    obtain rfl := h9.symm
    obtain rfl := h8.symm
    clear h9 h8
    refine bo_ifne_b (pc := 14) X1 (tgt := 20) dX7_sumOfThrows_14 (by decide) (fun u14 => ?_) (fun u14 => ?_)
    · refine bg_aload0 (pc := 20) X1 dX7_sumOfThrows_20 ?_
      refine bg_iload1 (pc := 21) X1 dX7_sumOfThrows_21 ?_
      refine bg_iload2 (pc := 22) X1 dX7_sumOfThrows_22 ?_
      refine bo_V2v (pc := 23) X1 (c_X7_matches hM.1 ok.1 u5.1 u5.2.1) vX7_matches lX7_182 rfl (by first | assumption | rfl) (by decide) dX7_sumOfThrows_23 (by exact Nat.le_of_ble_eq_true rfl) ?_
      rintro g1 ⟨x1, x4⟩
      refine bg_iconst (pc := 26) X1 dX7_sumOfThrows_26 (by decide) ?_
      refine bg_istore4 (pc := 27) X1 dX7_sumOfThrows_27 ?_
      refine bg_iconst (pc := 29) X1 dX7_sumOfThrows_29 (by decide) ?_
      refine bg_istore5 (pc := 30) X1 dX7_sumOfThrows_30 ?_
      exact loop g1 (TT (mP Z a b)).length 0 0 u5 (by omega) x1 (hM.R x4.m) (by omega) (by split <;> rfl)
    · refine bg_ldc (pc := 17) X1 dX7_sumOfThrows_17 kX7_87 (by decide) ?_
      exact bo_iret (pc := 19) X rfl dX7_sumOfThrows_19 (fun hi => by unfold xSum; rw [if_neg (show ¬ (arePa a b ∧ 0 ≤ w ∧ w ≤ 2) by omega)]; exact ⟨rfl, hM, frR.rf⟩)
theorem c_X7_nearest {y : bg_Y} {g : bg_E} {h w : Int} {Z : bm_X} (hM : modR g Z) (ok : okX Z) : bg_Si y 6 mX7_nearest [.inr 198, .inl h, .inl w] g (fun r g' => r = xNearest Z h w ∧ modR g' Z ∧ frR 198 214 g g') := by
  refine bg_enter pnX7 (Nat.le_of_ble_eq_true rfl) (fun κ X hR hg => ?_)
  have X1 : bg_X κ y cX7_nearest RX7 6 0 0 := X.1
  have hg : ∀ a k, R32 (g a k) := hg
  show bg_g κ y 0 [some (.inr 198), some (.inl h), some (.inl w), none, none, none, none] [] g
  have loop : ∀ (n k : Nat) (best cost : Int) (l6 : Option bg_V) (g1 : bg_E), k + n = 4 → isHo h → (0 ≤ w ∧ w ≤ 1) → modR g1 Z ∧ frR 198 214 g g1 → ((best = -1 ∧ nea Z h k = (NON, 1000000) ∧ ∀ j : Nat, j < k → (j : Int) = h) ∨ (0 ≤ best ∧ nea Z h k = (best, cost))) → bg_g κ y 27 [some (.inr 198), some (.inl h), some (.inl w), some (.inl best), some (.inl cost), some (.inl (k : Int)), l6] [] g1 := by
    intro n
    induction n with
    | zero =>
      intro k best cost l6 g1 hk hh hw h1 hI
      obtain rfl : k = 4 := by omega
      have hI2 : nea Z h 4 = (best, cost) := by
        rcases hI with ⟨-, -, h9⟩ | h9
        · have := h9 0 (by omega); have := h9 1 (by omega); omega
        · exact h9.2
      refine bg_iload5 (pc := 27) X1 dX7_nearest_27 ?_
      refine bg_iconst (pc := 29) X1 dX7_nearest_29 (by decide) ?_
      refine bg_icmp_ge (pc := 30) X1 (tgt := 82) dX7_nearest_30 (by decide) (fun u30 => ?_) (fun u30 => ?_)
      · refine bg_iload2 (pc := 82) X1 dX7_nearest_82 ?_
        refine bg_if_ne (pc := 83) X1 (tgt := 90) dX7_nearest_83 (by decide) (fun u83 => ?_) (fun u83 => ?_)
        · refine bg_iload4 (pc := 90) X1 dX7_nearest_90 ?_
          exact bo_iret (pc := 92) X rfl dX7_nearest_92 (fun hi => by
              unfold xNearest
              rw [if_pos ⟨hh, hw⟩, hI2]
              first
              | (rw [if_pos (by omega)]; exact ⟨rfl, h1⟩)
              | (rw [if_neg (by omega)]; exact ⟨rfl, h1⟩))
        · refine bg_iload3 (pc := 86) X1 dX7_nearest_86 ?_
          refine bg_goto (pc := 87) X1 (tgt := 92) dX7_nearest_87 (by decide) ?_
          exact bo_iret (pc := 92) X rfl dX7_nearest_92 (fun hi => by
              unfold xNearest
              rw [if_pos ⟨hh, hw⟩, hI2]
              first
              | (rw [if_pos (by omega)]; exact ⟨rfl, h1⟩)
              | (rw [if_neg (by omega)]; exact ⟨rfl, h1⟩))
      · exfalso; omega
    | succ n ih =>
      intro k best cost l6 g1 hk hh hw h1 hI
      have okP1 : okP (mP Z h k) := mkP_ok ok.1 (by omega) (by omega)
      have hb := bw_B okP1 (Nat.zero_le _) (Nat.zero_le _)
      have eqm : bw (mq Z.1 h (k : Int)) 0 0 = bw (mP Z h (k : Int)) 0 0 := rfl
      have eN : nea Z h (k + 1) = if ¬ (k : Int) = h ∧ bw (mP Z h k) 0 0 < (nea Z h k).2 then ((k : Int), bw (mP Z h k) 0 0) else nea Z h k := rfl
      refine bg_iload5 (pc := 27) X1 dX7_nearest_27 ?_
      refine bg_iconst (pc := 29) X1 dX7_nearest_29 (by decide) ?_
      refine bg_icmp_ge (pc := 30) X1 (tgt := 82) dX7_nearest_30 (by decide) (fun u30 => ?_) (fun u30 => ?_)
      · exfalso; omega
      · refine bg_iload5 (pc := 33) X1 dX7_nearest_33 ?_
        refine bg_iload1 (pc := 35) X1 dX7_nearest_35 ?_
        refine bg_icmp_ne (pc := 36) X1 (tgt := 43) dX7_nearest_36 (by decide) (fun u36 => ?_) (fun u36 => ?_)
        · refine bg_aload0 (pc := 43) X1 dX7_nearest_43 ?_
          refine bg_iload1 (pc := 44) X1 dX7_nearest_44 ?_
          refine bg_iload5 (pc := 45) X1 dX7_nearest_45 ?_
          refine bo_V2i (pc := 47) X1 (c_X7_fills h1.1.1 ok.1 hh (⟨by omega, by omega⟩ : isHo (k : Int))) vX7_fills lX7_163 rfl (by first | assumption | rfl) (by decide) dX7_nearest_47 (by exact Nat.le_of_ble_eq_true rfl) ?_
          rintro r47 g2 ⟨x1, x2, x3⟩
          subst x1
          have h2 : modR g2 Z ∧ frR 198 214 g g2 := ⟨h1.1.cg x3.m, h1.2.tr x3.m.F⟩
          refine bg_istore6 (pc := 50) X1 dX7_nearest_50 ?_
          refine bg_iload5 (pc := 52) X1 dX7_nearest_52 ?_
          refine bg_iload1 (pc := 54) X1 dX7_nearest_54 ?_
          refine bg_icmp_eq (pc := 55) X1 (tgt := 76) dX7_nearest_55 (by decide) (fun u55 => ?_) (fun u55 => ?_)
          · refine bg_iinc5 (pc := 76) X1 dX7_nearest_76 (by omega) ?_
            refine bg_goto (pc := 79) X1 (tgt := 27) dX7_nearest_79 (by decide) ?_
            first
            | (exfalso; omega)
            | (refine ih (k + 1) _ _ _ _ (by omega) hh hw h1 ?_
               rw [eN, if_neg (fun h9 => h9.1 (by omega))]
               rcases hI with ⟨i1, i2, i3⟩ | hI
               · exact Or.inl ⟨i1, i2, fun j hj => by rcases Nat.lt_or_ge j k with h9 | h9; (· exact i3 j h9); (· omega)⟩
               · exact Or.inr hI)
            | (refine ih (k + 1) _ _ _ _ (by omega) hh hw h2 (Or.inr ⟨by omega, ?_⟩)
               rcases hI with ⟨i1, i2, i3⟩ | ⟨i1, i2⟩
               · rw [eN, if_pos ⟨by omega, by rw [i2]; show _ < (1000000 : Int); omega⟩]
               · rw [eN, if_pos ⟨by omega, by rw [i2]; show _ < cost; omega⟩])
            | (refine ih (k + 1) _ _ _ _ (by omega) hh hw h2 ?_
               rcases hI with ⟨i1, i2, i3⟩ | ⟨i1, i2⟩
               · exfalso; omega
               · refine Or.inr ⟨i1, ?_⟩
                 rw [eN, if_neg (fun h9 => by have h8 := h9.2; rw [i2] at h8; have h8 : bw (mP Z h k) 0 0 < cost := h8; omega), i2])
          · refine bg_iload3 (pc := 58) X1 dX7_nearest_58 ?_
            refine bg_if_lt (pc := 59) X1 (tgt := 69) dX7_nearest_59 (by decide) (fun u59 => ?_) (fun u59 => ?_)
            · refine bg_iload5 (pc := 69) X1 dX7_nearest_69 ?_
              refine bg_istore3 (pc := 71) X1 dX7_nearest_71 ?_
              refine bg_iload6 (pc := 72) X1 dX7_nearest_72 ?_
              refine bg_istore4 (pc := 74) X1 dX7_nearest_74 ?_
              refine bg_iinc5 (pc := 76) X1 dX7_nearest_76 (by omega) ?_
              refine bg_goto (pc := 79) X1 (tgt := 27) dX7_nearest_79 (by decide) ?_
              first
              | (exfalso; omega)
              | (refine ih (k + 1) _ _ _ _ (by omega) hh hw h1 ?_
                 rw [eN, if_neg (fun h9 => h9.1 (by omega))]
                 rcases hI with ⟨i1, i2, i3⟩ | hI
                 · exact Or.inl ⟨i1, i2, fun j hj => by rcases Nat.lt_or_ge j k with h9 | h9; (· exact i3 j h9); (· omega)⟩
                 · exact Or.inr hI)
              | (refine ih (k + 1) _ _ _ _ (by omega) hh hw h2 (Or.inr ⟨by omega, ?_⟩)
                 rcases hI with ⟨i1, i2, i3⟩ | ⟨i1, i2⟩
                 · rw [eN, if_pos ⟨by omega, by rw [i2]; show _ < (1000000 : Int); omega⟩]
                 · rw [eN, if_pos ⟨by omega, by rw [i2]; show _ < cost; omega⟩])
              | (refine ih (k + 1) _ _ _ _ (by omega) hh hw h2 ?_
                 rcases hI with ⟨i1, i2, i3⟩ | ⟨i1, i2⟩
                 · exfalso; omega
                 · refine Or.inr ⟨i1, ?_⟩
                   rw [eN, if_neg (fun h9 => by have h8 := h9.2; rw [i2] at h8; have h8 : bw (mP Z h k) 0 0 < cost := h8; omega), i2])
            · refine bg_iload6 (pc := 62) X1 dX7_nearest_62 ?_
              refine bg_iload4 (pc := 64) X1 dX7_nearest_64 ?_
              refine bg_icmp_ge (pc := 66) X1 (tgt := 76) dX7_nearest_66 (by decide) (fun u66 => ?_) (fun u66 => ?_)
              · refine bg_iinc5 (pc := 76) X1 dX7_nearest_76 (by omega) ?_
                refine bg_goto (pc := 79) X1 (tgt := 27) dX7_nearest_79 (by decide) ?_
                first
                | (exfalso; omega)
                | (refine ih (k + 1) _ _ _ _ (by omega) hh hw h1 ?_
                   rw [eN, if_neg (fun h9 => h9.1 (by omega))]
                   rcases hI with ⟨i1, i2, i3⟩ | hI
                   · exact Or.inl ⟨i1, i2, fun j hj => by rcases Nat.lt_or_ge j k with h9 | h9; (· exact i3 j h9); (· omega)⟩
                   · exact Or.inr hI)
                | (refine ih (k + 1) _ _ _ _ (by omega) hh hw h2 (Or.inr ⟨by omega, ?_⟩)
                   rcases hI with ⟨i1, i2, i3⟩ | ⟨i1, i2⟩
                   · rw [eN, if_pos ⟨by omega, by rw [i2]; show _ < (1000000 : Int); omega⟩]
                   · rw [eN, if_pos ⟨by omega, by rw [i2]; show _ < cost; omega⟩])
                | (refine ih (k + 1) _ _ _ _ (by omega) hh hw h2 ?_
                   rcases hI with ⟨i1, i2, i3⟩ | ⟨i1, i2⟩
                   · exfalso; omega
                   · refine Or.inr ⟨i1, ?_⟩
                     rw [eN, if_neg (fun h9 => by have h8 := h9.2; rw [i2] at h8; have h8 : bw (mP Z h k) 0 0 < cost := h8; omega), i2])
              · refine bg_iload5 (pc := 69) X1 dX7_nearest_69 ?_
                refine bg_istore3 (pc := 71) X1 dX7_nearest_71 ?_
                refine bg_iload6 (pc := 72) X1 dX7_nearest_72 ?_
                refine bg_istore4 (pc := 74) X1 dX7_nearest_74 ?_
                refine bg_iinc5 (pc := 76) X1 dX7_nearest_76 (by omega) ?_
                refine bg_goto (pc := 79) X1 (tgt := 27) dX7_nearest_79 (by decide) ?_
                first
                | (exfalso; omega)
                | (refine ih (k + 1) _ _ _ _ (by omega) hh hw h1 ?_
                   rw [eN, if_neg (fun h9 => h9.1 (by omega))]
                   rcases hI with ⟨i1, i2, i3⟩ | hI
                   · exact Or.inl ⟨i1, i2, fun j hj => by rcases Nat.lt_or_ge j k with h9 | h9; (· exact i3 j h9); (· omega)⟩
                   · exact Or.inr hI)
                | (refine ih (k + 1) _ _ _ _ (by omega) hh hw h2 (Or.inr ⟨by omega, ?_⟩)
                   rcases hI with ⟨i1, i2, i3⟩ | ⟨i1, i2⟩
                   · rw [eN, if_pos ⟨by omega, by rw [i2]; show _ < (1000000 : Int); omega⟩]
                   · rw [eN, if_pos ⟨by omega, by rw [i2]; show _ < cost; omega⟩])
                | (refine ih (k + 1) _ _ _ _ (by omega) hh hw h2 ?_
                   rcases hI with ⟨i1, i2, i3⟩ | ⟨i1, i2⟩
                   · exfalso; omega
                   · refine Or.inr ⟨i1, ?_⟩
                     rw [eN, if_neg (fun h9 => by have h8 := h9.2; rw [i2] at h8; have h8 : bw (mP Z h k) 0 0 < cost := h8; omega), i2])
        · refine bg_iconst (pc := 39) X1 dX7_nearest_39 (by decide) ?_
          refine bg_goto (pc := 40) X1 (tgt := 50) dX7_nearest_40 (by decide) ?_
          refine bg_istore6 (pc := 50) X1 dX7_nearest_50 ?_
          refine bg_iload5 (pc := 52) X1 dX7_nearest_52 ?_
          refine bg_iload1 (pc := 54) X1 dX7_nearest_54 ?_
          refine bg_icmp_eq (pc := 55) X1 (tgt := 76) dX7_nearest_55 (by decide) (fun u55 => ?_) (fun u55 => ?_)
          · refine bg_iinc5 (pc := 76) X1 dX7_nearest_76 (by omega) ?_
            refine bg_goto (pc := 79) X1 (tgt := 27) dX7_nearest_79 (by decide) ?_
            first
            | (exfalso; omega)
            | (refine ih (k + 1) _ _ _ _ (by omega) hh hw h1 ?_
               rw [eN, if_neg (fun h9 => h9.1 (by omega))]
               rcases hI with ⟨i1, i2, i3⟩ | hI
               · exact Or.inl ⟨i1, i2, fun j hj => by rcases Nat.lt_or_ge j k with h9 | h9; (· exact i3 j h9); (· omega)⟩
               · exact Or.inr hI)
            | (refine ih (k + 1) _ _ _ _ (by omega) hh hw h2 (Or.inr ⟨by omega, ?_⟩)
               rcases hI with ⟨i1, i2, i3⟩ | ⟨i1, i2⟩
               · rw [eN, if_pos ⟨by omega, by rw [i2]; show _ < (1000000 : Int); omega⟩]
               · rw [eN, if_pos ⟨by omega, by rw [i2]; show _ < cost; omega⟩])
            | (refine ih (k + 1) _ _ _ _ (by omega) hh hw h2 ?_
               rcases hI with ⟨i1, i2, i3⟩ | ⟨i1, i2⟩
               · exfalso; omega
               · refine Or.inr ⟨i1, ?_⟩
                 rw [eN, if_neg (fun h9 => by have h8 := h9.2; rw [i2] at h8; have h8 : bw (mP Z h k) 0 0 < cost := h8; omega), i2])
          · refine bg_iload3 (pc := 58) X1 dX7_nearest_58 ?_
            refine bg_if_lt (pc := 59) X1 (tgt := 69) dX7_nearest_59 (by decide) (fun u59 => ?_) (fun u59 => ?_)
            · refine bg_iload5 (pc := 69) X1 dX7_nearest_69 ?_
              refine bg_istore3 (pc := 71) X1 dX7_nearest_71 ?_
              refine bg_iload6 (pc := 72) X1 dX7_nearest_72 ?_
              refine bg_istore4 (pc := 74) X1 dX7_nearest_74 ?_
              refine bg_iinc5 (pc := 76) X1 dX7_nearest_76 (by omega) ?_
              refine bg_goto (pc := 79) X1 (tgt := 27) dX7_nearest_79 (by decide) ?_
              first
              | (exfalso; omega)
              | (refine ih (k + 1) _ _ _ _ (by omega) hh hw h1 ?_
                 rw [eN, if_neg (fun h9 => h9.1 (by omega))]
                 rcases hI with ⟨i1, i2, i3⟩ | hI
                 · exact Or.inl ⟨i1, i2, fun j hj => by rcases Nat.lt_or_ge j k with h9 | h9; (· exact i3 j h9); (· omega)⟩
                 · exact Or.inr hI)
              | (refine ih (k + 1) _ _ _ _ (by omega) hh hw h2 (Or.inr ⟨by omega, ?_⟩)
                 rcases hI with ⟨i1, i2, i3⟩ | ⟨i1, i2⟩
                 · rw [eN, if_pos ⟨by omega, by rw [i2]; show _ < (1000000 : Int); omega⟩]
                 · rw [eN, if_pos ⟨by omega, by rw [i2]; show _ < cost; omega⟩])
              | (refine ih (k + 1) _ _ _ _ (by omega) hh hw h2 ?_
                 rcases hI with ⟨i1, i2, i3⟩ | ⟨i1, i2⟩
                 · exfalso; omega
                 · refine Or.inr ⟨i1, ?_⟩
                   rw [eN, if_neg (fun h9 => by have h8 := h9.2; rw [i2] at h8; have h8 : bw (mP Z h k) 0 0 < cost := h8; omega), i2])
            · refine bg_iload6 (pc := 62) X1 dX7_nearest_62 ?_
              refine bg_iload4 (pc := 64) X1 dX7_nearest_64 ?_
              refine bg_icmp_ge (pc := 66) X1 (tgt := 76) dX7_nearest_66 (by decide) (fun u66 => ?_) (fun u66 => ?_)
              · refine bg_iinc5 (pc := 76) X1 dX7_nearest_76 (by omega) ?_
                refine bg_goto (pc := 79) X1 (tgt := 27) dX7_nearest_79 (by decide) ?_
                first
                | (exfalso; omega)
                | (refine ih (k + 1) _ _ _ _ (by omega) hh hw h1 ?_
                   rw [eN, if_neg (fun h9 => h9.1 (by omega))]
                   rcases hI with ⟨i1, i2, i3⟩ | hI
                   · exact Or.inl ⟨i1, i2, fun j hj => by rcases Nat.lt_or_ge j k with h9 | h9; (· exact i3 j h9); (· omega)⟩
                   · exact Or.inr hI)
                | (refine ih (k + 1) _ _ _ _ (by omega) hh hw h2 (Or.inr ⟨by omega, ?_⟩)
                   rcases hI with ⟨i1, i2, i3⟩ | ⟨i1, i2⟩
                   · rw [eN, if_pos ⟨by omega, by rw [i2]; show _ < (1000000 : Int); omega⟩]
                   · rw [eN, if_pos ⟨by omega, by rw [i2]; show _ < cost; omega⟩])
                | (refine ih (k + 1) _ _ _ _ (by omega) hh hw h2 ?_
                   rcases hI with ⟨i1, i2, i3⟩ | ⟨i1, i2⟩
                   · exfalso; omega
                   · refine Or.inr ⟨i1, ?_⟩
                     rw [eN, if_neg (fun h9 => by have h8 := h9.2; rw [i2] at h8; have h8 : bw (mP Z h k) 0 0 < cost := h8; omega), i2])
              · refine bg_iload5 (pc := 69) X1 dX7_nearest_69 ?_
                refine bg_istore3 (pc := 71) X1 dX7_nearest_71 ?_
                refine bg_iload6 (pc := 72) X1 dX7_nearest_72 ?_
                refine bg_istore4 (pc := 74) X1 dX7_nearest_74 ?_
                refine bg_iinc5 (pc := 76) X1 dX7_nearest_76 (by omega) ?_
                refine bg_goto (pc := 79) X1 (tgt := 27) dX7_nearest_79 (by decide) ?_
                first
                | (exfalso; omega)
                | (refine ih (k + 1) _ _ _ _ (by omega) hh hw h1 ?_
                   rw [eN, if_neg (fun h9 => h9.1 (by omega))]
                   rcases hI with ⟨i1, i2, i3⟩ | hI
                   · exact Or.inl ⟨i1, i2, fun j hj => by rcases Nat.lt_or_ge j k with h9 | h9; (· exact i3 j h9); (· omega)⟩
                   · exact Or.inr hI)
                | (refine ih (k + 1) _ _ _ _ (by omega) hh hw h2 (Or.inr ⟨by omega, ?_⟩)
                   rcases hI with ⟨i1, i2, i3⟩ | ⟨i1, i2⟩
                   · rw [eN, if_pos ⟨by omega, by rw [i2]; show _ < (1000000 : Int); omega⟩]
                   · rw [eN, if_pos ⟨by omega, by rw [i2]; show _ < cost; omega⟩])
                | (refine ih (k + 1) _ _ _ _ (by omega) hh hw h2 ?_
                   rcases hI with ⟨i1, i2, i3⟩ | ⟨i1, i2⟩
                   · exfalso; omega
                   · refine Or.inr ⟨i1, ?_⟩
                     rw [eN, if_neg (fun h9 => by have h8 := h9.2; rw [i2] at h8; have h8 : bw (mP Z h k) 0 0 < cost := h8; omega), i2])
  refine bg_iload1 (pc := 0) X1 dX7_nearest_0 ?_
  refine bo_S1i (pc := 1) X1 (c_X7_isHole) sX7_isHole lX7_63 rfl (by decide) dX7_nearest_1 (by exact Nat.le_of_ble_eq_true rfl) ?_
  rintro _ _ ⟨h9, h8⟩
  obtain rfl := h9.symm
  obtain rfl := h8.symm
  clear h9 h8
  refine bo_ifeq_b (pc := 4) X1 (tgt := 16) dX7_nearest_4 (by decide) (fun u4 => ?_) (fun u4 => ?_)
  · refine bg_ldc (pc := 16) X1 dX7_nearest_16 kX7_87 (by decide) ?_
    exact bo_iret (pc := 18) X rfl dX7_nearest_18 (fun hi => by unfold xNearest; rw [if_neg (by omega)]; exact ⟨rfl, hM, frR.rf⟩)
  · refine bg_iload2 (pc := 7) X1 dX7_nearest_7 ?_
    refine bg_iconst (pc := 8) X1 dX7_nearest_8 (by decide) ?_
    refine bg_iconst (pc := 9) X1 dX7_nearest_9 (by decide) ?_
    refine bo_S3i (pc := 10) X1 (c_X7_in) sX7_in lX7_59 rfl (by decide) dX7_nearest_10 (by exact Nat.le_of_ble_eq_true rfl) ?_
    rintro _ _ ⟨h9, h8⟩
    obtain rfl := h9.symm
    obtain rfl := h8.symm
    clear h9 h8
    refine bo_ifne_b (pc := 13) X1 (tgt := 19) dX7_nearest_13 (by decide) (fun u13 => ?_) (fun u13 => ?_)
    · refine bg_iconst (pc := 19) X1 dX7_nearest_19 (by decide) ?_
      refine bg_istore3 (pc := 20) X1 dX7_nearest_20 ?_
      refine bg_iconst (pc := 21) X1 dX7_nearest_21 (by decide) ?_
      refine bg_istore4 (pc := 22) X1 dX7_nearest_22 ?_
      refine bg_iconst (pc := 24) X1 dX7_nearest_24 (by decide) ?_
      refine bg_istore5 (pc := 25) X1 dX7_nearest_25 ?_
      exact loop 4 0 (-1) 0 _ g rfl u4 (by omega) ⟨hM, frR.rf⟩ (Or.inl ⟨rfl, rfl, fun j hj => absurd hj (Nat.not_lt_zero _)⟩)
    · refine bg_ldc (pc := 16) X1 dX7_nearest_16 kX7_87 (by decide) ?_
      exact bo_iret (pc := 18) X rfl dX7_nearest_18 (fun hi => by unfold xNearest; rw [if_neg (by omega)]; exact ⟨rfl, hM, frR.rf⟩)
theorem c_X7_copiesTo {y : bg_Y} {g : bg_E} {D : Nat} {m : Int} (hD : bg_kd D = some (8, 24)) (hne : ¬ 209 = D) (hm : 0 ≤ m ∧ m ≤ 24) : bg_Sv y 0 mX7_copiesTo [.inr 198, .inr D, .inl m] g (fun g' => g' = cp g D 0 209 0 m.toNat) := by
  refine bg_enter pnX7 (Nat.le_of_ble_eq_true rfl) (fun κ X hR hg => ?_)
  have X1 : bg_X κ y cX7_copiesTo RX7 0 0 0 := X.1
  have hg : ∀ a k, R32 (g a k) := hg
  show bg_g κ y 0 [some (.inr 198), some (.inr D), some (.inl m), none] [] g
  have loop : ∀ (n k : Nat), (k : Int) + n = m → bg_g κ y 2 [some (.inr 198), some (.inr D), some (.inl m), some (.inl (k : Int))] [] (cp g D 0 209 0 k) := by
    intro n
    induction n with
    | zero =>
      intro k hk
      refine bg_iload3 (pc := 2) X1 dX7_copiesTo_2 ?_
      refine bg_iload2 (pc := 3) X1 dX7_copiesTo_3 ?_
      refine bg_icmp_ge (pc := 4) X1 (tgt := 22) dX7_copiesTo_4 (by decide) (fun u4 => ?_) (fun u4 => ?_)
      · exact bo_vret (pc := 22) X rfl dX7_copiesTo_22 (fun hg9 => by rw [show m.toNat = k by omega])
      · exfalso; omega
    | succ n ih =>
      intro k hk
      refine bg_iload3 (pc := 2) X1 dX7_copiesTo_2 ?_
      refine bg_iload2 (pc := 3) X1 dX7_copiesTo_3 ?_
      refine bg_icmp_ge (pc := 4) X1 (tgt := 22) dX7_copiesTo_4 (by decide) (fun u4 => ?_) (fun u4 => ?_)
      · exfalso; omega
      · refine bg_aload1 (pc := 7) X1 dX7_copiesTo_7 ?_
        refine bg_iload3 (pc := 8) X1 dX7_copiesTo_8 ?_
        refine bg_aload0 (pc := 9) X1 dX7_copiesTo_9 ?_
        refine bo_getR (pc := 10) X1 dX7_copiesTo_10 fX7_40 (by first | assumption | rfl) rfl (by first | assumption | rfl) ?_
        refine bg_iload3 (pc := 13) X1 dX7_copiesTo_13 ?_
        refine bo_iaload (pc := 14) X1 dX7_copiesTo_14 (by first | assumption | rfl) (by omega) ?_
        refine bo_iastore (pc := 15) X1 dX7_copiesTo_15 (by first | assumption | rfl) (by omega) ?_
        refine bg_iinc3 (pc := 16) X1 dX7_copiesTo_16 (by omega) ?_
        refine bg_goto (pc := 19) X1 (tgt := 2) dX7_copiesTo_19 (by decide) ?_
        rw [cp_s (Or.inl hne) (by omega) (by omega)]
        exact ih (k + 1) (by omega)
  refine bg_iconst (pc := 0) X1 dX7_copiesTo_0 (by decide) ?_
  refine bg_istore3 (pc := 1) X1 dX7_copiesTo_1 ?_
  have := loop m.toNat 0 (by omega)
  rw [cp_0] at this
  exact this
theorem cnt_0 {p : Nat → Prop} [DecidablePred p] {m : Nat} : ∀ n : Nat, (∀ k, m ≤ k → ¬ p k) → cnt p (m + n) = cnt p m
  | 0, _ => rfl
  | n + 1, h => by
    rw [show m + (n + 1) = (m + n) + 1 from rfl, cnt, if_neg (h _ (by omega)), cnt_0 n h]; omega
theorem c_X7_closed {y : bg_Y} {g : bg_E} {a b c : Int} {Z : bm_X} (hM : modR g Z) (ok : okX Z) : bg_Si y 6 mX7_closed [.inr 198, .inl a, .inl b, .inl c] g (fun r g' => r = xClosed Z a b c ∧ modR g' Z ∧ frR 198 214 g g') := by
  have cntR : ∀ n : Nat, 0 ≤ cnt (clo Z a b c) n ∧ cnt (clo Z a b c) n ≤ n := by
    intro n
    induction n with
    | zero => exact ⟨Int.le_refl _, Int.le_refl _⟩
    | succ n ih => rw [cnt]; split <;> omega
  refine bg_enter pnX7 (Nat.le_of_ble_eq_true rfl) (fun κ X hR hg => ?_)
  have X1 : bg_X κ y cX7_closed RX7 6 0 0 := X.1
  have hg : ∀ a k, R32 (g a k) := hg
  show bg_g κ y 0 [some (.inr 198), some (.inl a), some (.inl b), some (.inl c), none, none] [] g
  have loop : ∀ (g3 : bg_E) (n k : Nat), arePa a b → arePa b c → arePa a c → modR g3 Z ∧ frR 198 214 g g3 → (∀ k, k < (sq Z.1 a).length → g3 212 k = PA (mP Z a b) k) → (∀ k, k < (sq Z.1 a).length → g3 213 k = PA (mP Z a c) k) → (∀ k, k < (sq Z.1 b).length → g3 209 k = PA (mP Z b c) k) → k + n = (sq Z.1 a).length → bg_g κ y 85 [some (.inr 198), some (.inl a), some (.inl b), some (.inl c), some (.inl (cnt (clo Z a b c) k)), some (.inl (k : Int))] [] g3 := by
    intro g3 n
    induction n with
    | zero =>
      intro k p1 p2 p3 h1 hB hC hX hk
      have o1 : okP (mP Z a b) := mkP_ok ok.1 (by omega) (by omega)
      have lA := (sq_OK ok.1 p1.1).2
      refine bg_iload5 (pc := 85) X1 dX7_closed_85 ?_
      refine bg_aload0 (pc := 87) X1 dX7_closed_87 ?_
      refine bo_getR (pc := 88) X1 dX7_closed_88 fX7_7 (by first | assumption | rfl) rfl (by first | assumption | rfl) ?_
      refine bg_bipush (pc := 91) X1 dX7_closed_91 rfl (by decide) ?_
      refine bg_iload1 (pc := 93) X1 dX7_closed_93 ?_
      refine bg_iadd (pc := 94) X1 dX7_closed_94 (by omega) ?_
      refine bo_iaload (pc := 95) X1 dX7_closed_95 (by first | assumption | rfl) (by omega) ?_
      rw [row_len h1.1.1 p1.1]
      refine bg_icmp_ge (pc := 96) X1 (tgt := 157) dX7_closed_96 (by decide) (fun u96 => ?_) (fun u96 => ?_)
      · refine bg_iload4 (pc := 157) X1 dX7_closed_157 ?_
        exact bo_iret (pc := 159) X rfl dX7_closed_159 (fun hi => by
            unfold xClosed
            rw [if_pos ⟨p1, p3, p2⟩]
            refine ⟨?_, h1⟩
            have := cnt_0 (p := clo Z a b c) (m := k) (24 - k) (fun j hj h9 => by
              have h8 := ((wE_I o1).2.1 j (show (sq Z.1 a).length ≤ j by omega)).2
              have h7 := h9.1
              omega)
            rw [show k + (24 - k) = 24 by omega] at this
            exact this.symm)
      · exfalso; omega
    | succ n ih =>
      intro k p1 p2 p3 h1 hB hC hX hk
      have o1 : okP (mP Z a b) := mkP_ok ok.1 (by omega) (by omega)
      have o2 : okP (mP Z b c) := mkP_ok ok.1 (by omega) (by omega)
      have lA := (sq_OK ok.1 p1.1).2
      have lB := (sq_OK ok.1 p1.2.1).2
      have rR := cntR k
      have q1 : (FA (mP Z a b) k = 1 ∧ 0 ≤ PA (mP Z a b) k ∧ PA (mP Z a b) k < ((sq Z.1 b).length : Int)) ∨ (FA (mP Z a b) k = 2 ∧ PA (mP Z a b) k = -1) := (wE_I o1).1 k (show k < (sq Z.1 a).length by omega)
      have s1 : cnt (clo Z a b c) (k + 1) = cnt (clo Z a b c) k + (if clo Z a b c k then 1 else 0) := rfl
      have t1 := hB k (by omega)
      have t2 := hC k (by omega)
      have t3 : 0 ≤ PA (mP Z a b) k → g3 209 (PA (mP Z a b) k).toNat = PA (mP Z b c) (PA (mP Z a b) k).toNat := fun h => hX _ (by omega)
      refine bg_iload5 (pc := 85) X1 dX7_closed_85 ?_
      refine bg_aload0 (pc := 87) X1 dX7_closed_87 ?_
      refine bo_getR (pc := 88) X1 dX7_closed_88 fX7_7 (by first | assumption | rfl) rfl (by first | assumption | rfl) ?_
      refine bg_bipush (pc := 91) X1 dX7_closed_91 rfl (by decide) ?_
      refine bg_iload1 (pc := 93) X1 dX7_closed_93 ?_
      refine bg_iadd (pc := 94) X1 dX7_closed_94 (by omega) ?_
      refine bo_iaload (pc := 95) X1 dX7_closed_95 (by first | assumption | rfl) (by omega) ?_
      rw [row_len h1.1.1 p1.1]
      refine bg_icmp_ge (pc := 96) X1 (tgt := 157) dX7_closed_96 (by decide) (fun u96 => ?_) (fun u96 => ?_)
      · exfalso; omega
      · refine bg_iload4 (pc := 99) X1 dX7_closed_99 ?_
        refine bg_aload0 (pc := 101) X1 dX7_closed_101 ?_
        refine bo_getR (pc := 102) X1 dX7_closed_102 fX7_49 (by first | assumption | rfl) rfl (by first | assumption | rfl) ?_
        refine bg_iload5 (pc := 105) X1 dX7_closed_105 ?_
        refine bo_iaload (pc := 107) X1 dX7_closed_107 (by first | assumption | rfl) (by omega) ?_
        rw [Int.toNat_natCast, t1]
        refine bg_if_lt (pc := 108) X1 (tgt := 147) dX7_closed_108 (by decide) (fun u108 => ?_) (fun u108 => ?_)
        · refine bg_iconst (pc := 147) X1 dX7_closed_147 (by decide) ?_
          refine bg_iadd (pc := 148) X1 dX7_closed_148 (by omega) ?_
          refine bg_istore4 (pc := 149) X1 dX7_closed_149 ?_
          refine bg_iinc5 (pc := 151) X1 dX7_closed_151 (by omega) ?_
          refine bg_goto (pc := 154) X1 (tgt := 85) dX7_closed_154 (by decide) ?_
          have e : cnt (clo Z a b c) (k + 1) = _ := s1
          first
          | (rw [if_pos ⟨by omega, by omega, by omega⟩] at e; rw [← e]; exact ih (k + 1) p1 p2 p3 h1 hB hC hX (by omega))
          | (rw [if_neg (fun h9 => by obtain ⟨v1, v2, v3⟩ := h9; omega)] at e; rw [← e]; exact ih (k + 1) p1 p2 p3 h1 hB hC hX (by omega))
        · refine bg_aload0 (pc := 111) X1 dX7_closed_111 ?_
          refine bo_getR (pc := 112) X1 dX7_closed_112 fX7_52 (by first | assumption | rfl) rfl (by first | assumption | rfl) ?_
          refine bg_iload5 (pc := 115) X1 dX7_closed_115 ?_
          refine bo_iaload (pc := 117) X1 dX7_closed_117 (by first | assumption | rfl) (by omega) ?_
          rw [Int.toNat_natCast, t2]
          refine bg_if_lt (pc := 118) X1 (tgt := 147) dX7_closed_118 (by decide) (fun u118 => ?_) (fun u118 => ?_)
          · refine bg_iconst (pc := 147) X1 dX7_closed_147 (by decide) ?_
            refine bg_iadd (pc := 148) X1 dX7_closed_148 (by omega) ?_
            refine bg_istore4 (pc := 149) X1 dX7_closed_149 ?_
            refine bg_iinc5 (pc := 151) X1 dX7_closed_151 (by omega) ?_
            refine bg_goto (pc := 154) X1 (tgt := 85) dX7_closed_154 (by decide) ?_
            have e : cnt (clo Z a b c) (k + 1) = _ := s1
            first
            | (rw [if_pos ⟨by omega, by omega, by omega⟩] at e; rw [← e]; exact ih (k + 1) p1 p2 p3 h1 hB hC hX (by omega))
            | (rw [if_neg (fun h9 => by obtain ⟨v1, v2, v3⟩ := h9; omega)] at e; rw [← e]; exact ih (k + 1) p1 p2 p3 h1 hB hC hX (by omega))
          · refine bg_aload0 (pc := 121) X1 dX7_closed_121 ?_
            refine bo_getR (pc := 122) X1 dX7_closed_122 fX7_40 (by first | assumption | rfl) rfl (by first | assumption | rfl) ?_
            refine bg_aload0 (pc := 125) X1 dX7_closed_125 ?_
            refine bo_getR (pc := 126) X1 dX7_closed_126 fX7_49 (by first | assumption | rfl) rfl (by first | assumption | rfl) ?_
            refine bg_iload5 (pc := 129) X1 dX7_closed_129 ?_
            refine bo_iaload (pc := 131) X1 dX7_closed_131 (by first | assumption | rfl) (by omega) ?_
            rw [Int.toNat_natCast, t1]
            refine bo_iaload (pc := 132) X1 dX7_closed_132 (by first | assumption | rfl) (by omega) ?_
            rw [t3 (by omega)]
            refine bg_aload0 (pc := 133) X1 dX7_closed_133 ?_
            refine bo_getR (pc := 134) X1 dX7_closed_134 fX7_52 (by first | assumption | rfl) rfl (by first | assumption | rfl) ?_
            refine bg_iload5 (pc := 137) X1 dX7_closed_137 ?_
            refine bo_iaload (pc := 139) X1 dX7_closed_139 (by first | assumption | rfl) (by omega) ?_
            rw [Int.toNat_natCast, t2]
            refine bg_icmp_ne (pc := 140) X1 (tgt := 147) dX7_closed_140 (by decide) (fun u140 => ?_) (fun u140 => ?_)
            · refine bg_iconst (pc := 147) X1 dX7_closed_147 (by decide) ?_
              refine bg_iadd (pc := 148) X1 dX7_closed_148 (by omega) ?_
              refine bg_istore4 (pc := 149) X1 dX7_closed_149 ?_
              refine bg_iinc5 (pc := 151) X1 dX7_closed_151 (by omega) ?_
              refine bg_goto (pc := 154) X1 (tgt := 85) dX7_closed_154 (by decide) ?_
              have e : cnt (clo Z a b c) (k + 1) = _ := s1
              first
              | (rw [if_pos ⟨by omega, by omega, by omega⟩] at e; rw [← e]; exact ih (k + 1) p1 p2 p3 h1 hB hC hX (by omega))
              | (rw [if_neg (fun h9 => by obtain ⟨v1, v2, v3⟩ := h9; omega)] at e; rw [← e]; exact ih (k + 1) p1 p2 p3 h1 hB hC hX (by omega))
            · refine bg_iconst (pc := 143) X1 dX7_closed_143 (by decide) ?_
              refine bg_goto (pc := 144) X1 (tgt := 148) dX7_closed_144 (by decide) ?_
              refine bg_iadd (pc := 148) X1 dX7_closed_148 (by omega) ?_
              refine bg_istore4 (pc := 149) X1 dX7_closed_149 ?_
              refine bg_iinc5 (pc := 151) X1 dX7_closed_151 (by omega) ?_
              refine bg_goto (pc := 154) X1 (tgt := 85) dX7_closed_154 (by decide) ?_
              have e : cnt (clo Z a b c) (k + 1) = _ := s1
              first
              | (rw [if_pos ⟨by omega, by omega, by omega⟩] at e; rw [← e]; exact ih (k + 1) p1 p2 p3 h1 hB hC hX (by omega))
              | (rw [if_neg (fun h9 => by obtain ⟨v1, v2, v3⟩ := h9; omega)] at e; rw [← e]; exact ih (k + 1) p1 p2 p3 h1 hB hC hX (by omega))
  refine bg_iload1 (pc := 0) X1 dX7_closed_0 ?_
  refine bg_iload2 (pc := 1) X1 dX7_closed_1 ?_
  refine bo_S2i (pc := 2) X1 (c_X7_areTwo) sX7_areTwo lX7_175 rfl (by decide) dX7_closed_2 (by exact Nat.le_of_ble_eq_true rfl) ?_
  rintro _ _ ⟨h9, h8⟩
  obtain rfl := h9.symm
  obtain rfl := h8.symm
  clear h9 h8
  refine bo_ifeq_b (pc := 5) X1 (tgt := 24) dX7_closed_5 (by decide) (fun u5 => ?_) (fun u5 => ?_)
  · refine bg_ldc (pc := 24) X1 dX7_closed_24 kX7_87 (by decide) ?_
    exact bo_iret (pc := 26) X rfl dX7_closed_26 (fun hi => by unfold xClosed; rw [if_neg (by omega)]; exact ⟨rfl, hM, frR.rf⟩)
  · refine bg_iload2 (pc := 8) X1 dX7_closed_8 ?_
    refine bg_iload3 (pc := 9) X1 dX7_closed_9 ?_
    refine bo_S2i (pc := 10) X1 (c_X7_areTwo) sX7_areTwo lX7_175 rfl (by decide) dX7_closed_10 (by exact Nat.le_of_ble_eq_true rfl) ?_
    rintro _ _ ⟨h9, h8⟩
    obtain rfl := h9.symm
    obtain rfl := h8.symm
    clear h9 h8
    refine bo_ifeq_b (pc := 13) X1 (tgt := 24) dX7_closed_13 (by decide) (fun u13 => ?_) (fun u13 => ?_)
    · refine bg_ldc (pc := 24) X1 dX7_closed_24 kX7_87 (by decide) ?_
      exact bo_iret (pc := 26) X rfl dX7_closed_26 (fun hi => by unfold xClosed; rw [if_neg (by omega)]; exact ⟨rfl, hM, frR.rf⟩)
    · refine bg_iload1 (pc := 16) X1 dX7_closed_16 ?_
      refine bg_iload3 (pc := 17) X1 dX7_closed_17 ?_
      refine bo_S2i (pc := 18) X1 (c_X7_areTwo) sX7_areTwo lX7_175 rfl (by decide) dX7_closed_18 (by exact Nat.le_of_ble_eq_true rfl) ?_
      rintro _ _ ⟨h9, h8⟩
      obtain rfl := h9.symm
      obtain rfl := h8.symm
      clear h9 h8
      refine bo_ifne_b (pc := 21) X1 (tgt := 27) dX7_closed_21 (by decide) (fun u21 => ?_) (fun u21 => ?_)
      · have lA := (sq_OK ok.1 u5.1).2
        refine bg_aload0 (pc := 27) X1 dX7_closed_27 ?_
        refine bg_iload1 (pc := 28) X1 dX7_closed_28 ?_
        refine bg_iload2 (pc := 29) X1 dX7_closed_29 ?_
        refine bo_V2v (pc := 30) X1 (c_X7_matches hM.1 ok.1 u5.1 u5.2.1) vX7_matches lX7_182 rfl (by first | assumption | rfl) (by decide) dX7_closed_30 (by exact Nat.le_of_ble_eq_true rfl) ?_
        rintro g1 ⟨x1, F1⟩
        have hM1 := hM.cg F1.m
        refine bg_aload0 (pc := 33) X1 dX7_closed_33 ?_
        refine bg_aload0 (pc := 34) X1 dX7_closed_34 ?_
        refine bo_getR (pc := 35) X1 dX7_closed_35 fX7_49 (by first | assumption | rfl) rfl (by first | assumption | rfl) ?_
        refine bg_aload0 (pc := 38) X1 dX7_closed_38 ?_
        refine bo_getR (pc := 39) X1 dX7_closed_39 fX7_7 (by first | assumption | rfl) rfl (by first | assumption | rfl) ?_
        refine bg_bipush (pc := 42) X1 dX7_closed_42 rfl (by decide) ?_
        refine bg_iload1 (pc := 44) X1 dX7_closed_44 ?_
        refine bg_iadd (pc := 45) X1 dX7_closed_45 (by omega) ?_
        refine bo_iaload (pc := 46) X1 dX7_closed_46 (by first | assumption | rfl) (by omega) ?_
        rw [row_len hM1.1 u5.1]
        refine bo_V2v (pc := 47) X1 (c_X7_copiesTo (D := 212) rfl (by decide) (by omega)) vX7_copiesTo lX7_187 rfl (by first | assumption | rfl) (by decide) dX7_closed_47 (by exact Nat.le_of_ble_eq_true rfl) ?_
        rintro _ h8
        obtain rfl := h8.symm
        clear h8
        rw [Int.toNat_natCast]
        obtain ⟨g2, hg2⟩ : ∃ g2, g2 = cp g1 212 0 209 0 (sq Z.1 a).length := ⟨_, rfl⟩
        rw [← hg2]
        have F2 : mres g1 g2 := fun x j hx => by rw [hg2]; exact cp_a (by omega)
        have hM2 := hM1.cg F2
        have b2 : ∀ k, k < (sq Z.1 a).length → g2 212 k = PA (mP Z a b) k := fun k hk => by rw [hg2, cp_i (j' := k) (by omega) (by omega)]; exact (x1.1.1 k hk).2
        refine bg_aload0 (pc := 50) X1 dX7_closed_50 ?_
        refine bg_iload1 (pc := 51) X1 dX7_closed_51 ?_
        refine bg_iload3 (pc := 52) X1 dX7_closed_52 ?_
        refine bo_V2v (pc := 53) X1 (c_X7_matches hM2.1 ok.1 u21.1 u21.2.1) vX7_matches lX7_182 rfl (by first | assumption | rfl) (by decide) dX7_closed_53 (by exact Nat.le_of_ble_eq_true rfl) ?_
        rintro g4 ⟨x4, F4⟩
        have hM4 := hM2.cg F4.m
        refine bg_aload0 (pc := 56) X1 dX7_closed_56 ?_
        refine bg_aload0 (pc := 57) X1 dX7_closed_57 ?_
        refine bo_getR (pc := 58) X1 dX7_closed_58 fX7_52 (by first | assumption | rfl) rfl (by first | assumption | rfl) ?_
        refine bg_aload0 (pc := 61) X1 dX7_closed_61 ?_
        refine bo_getR (pc := 62) X1 dX7_closed_62 fX7_7 (by first | assumption | rfl) rfl (by first | assumption | rfl) ?_
        refine bg_bipush (pc := 65) X1 dX7_closed_65 rfl (by decide) ?_
        refine bg_iload1 (pc := 67) X1 dX7_closed_67 ?_
        refine bg_iadd (pc := 68) X1 dX7_closed_68 (by omega) ?_
        refine bo_iaload (pc := 69) X1 dX7_closed_69 (by first | assumption | rfl) (by omega) ?_
        rw [row_len hM4.1 u5.1]
        refine bo_V2v (pc := 70) X1 (c_X7_copiesTo (D := 213) rfl (by decide) (by omega)) vX7_copiesTo lX7_187 rfl (by first | assumption | rfl) (by decide) dX7_closed_70 (by exact Nat.le_of_ble_eq_true rfl) ?_
        rintro _ h8
        obtain rfl := h8.symm
        clear h8
        rw [Int.toNat_natCast]
        obtain ⟨g5, hg5⟩ : ∃ g5, g5 = cp g4 213 0 209 0 (sq Z.1 a).length := ⟨_, rfl⟩
        rw [← hg5]
        have F5 : mres g4 g5 := fun x j hx => by rw [hg5]; exact cp_a (by omega)
        have hM5 := hM4.cg F5
        have c5 : ∀ k, k < (sq Z.1 a).length → g5 213 k = PA (mP Z a c) k := fun k hk => by rw [hg5, cp_i (j' := k) (by omega) (by omega)]; exact (x4.1.1 k hk).2
        have b5 : ∀ k, k < (sq Z.1 a).length → g5 212 k = PA (mP Z a b) k := fun k hk => by rw [hg5, cp_a (by decide), F4 212 k (by omega) (by omega)]; exact b2 k hk
        refine bg_aload0 (pc := 73) X1 dX7_closed_73 ?_
        refine bg_iload2 (pc := 74) X1 dX7_closed_74 ?_
        refine bg_iload3 (pc := 75) X1 dX7_closed_75 ?_
        refine bo_V2v (pc := 76) X1 (c_X7_matches hM5.1 ok.1 u13.1 u13.2.1) vX7_matches lX7_182 rfl (by first | assumption | rfl) (by decide) dX7_closed_76 (by exact Nat.le_of_ble_eq_true rfl) ?_
        rintro g6 ⟨x6, F6⟩
        have hM6 := hM5.R F6.m
        refine bg_iconst (pc := 79) X1 dX7_closed_79 (by decide) ?_
        refine bg_istore4 (pc := 80) X1 dX7_closed_80 ?_
        refine bg_iconst (pc := 82) X1 dX7_closed_82 (by decide) ?_
        refine bg_istore5 (pc := 83) X1 dX7_closed_83 ?_
        exact loop g6 (sq Z.1 a).length 0 u5 u13 u21 ⟨hM6.1, (((F1.m.tr F2).tr F4.m).tr F5).F.tr hM6.2⟩ (fun k hk => by rw [F6 212 k (by omega) (by omega)]; exact b5 k hk) (fun k hk => by rw [F6 213 k (by omega) (by omega)]; exact c5 k hk) (fun k hk => (x6.1.1 k hk).2) (by omega)
      · refine bg_ldc (pc := 24) X1 dX7_closed_24 kX7_87 (by decide) ?_
        exact bo_iret (pc := 26) X rfl dX7_closed_26 (fun hi => by unfold xClosed; rw [if_neg (by omega)]; exact ⟨rfl, hM, frR.rf⟩)
