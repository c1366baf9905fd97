/-! the model: cuts -/
def cutR (g : bg_E) (L : bm_Q) : Prop := g 198 9 = (L.length : Int) ∧ ∀ k : Nat, k < L.length → g 204 (2 * k) = mrk L k ∧ g 204 (2 * k + 1) = th L k
theorem app_get {L : bm_Q} {p : Int × Int} (k : Nat) : (L ++ [p]).getD k (0, 0) = if k < L.length then L.getD k (0, 0) else if k = L.length then p else (0, 0) := by
  rw [List.getD_eq_getElem?_getD]
  by_cases h1 : k < L.length
  · rw [if_pos h1, List.getElem?_append_left h1, List.getD_eq_getElem?_getD]
  · rw [if_neg h1, List.getElem?_append_right (by omega)]
    by_cases h2 : k = L.length
    · rw [if_pos h2, h2, Nat.sub_self]; rfl
    · rw [if_neg h2, show k - L.length = (k - L.length - 1) + 1 by omega]; rfl
theorem cutR.add {g : bg_E} {L : bm_Q} {m t v n : Int} {i1 i2 : Nat} (h : cutR g L) (h1 : i1 = 2 * L.length) (h2 : i2 = 2 * L.length + 1) (hv : v = t) (hn : n = (L.length : Int) + 1) : cutR (bg_up (bg_up (bg_up g 204 i1 m) 204 i2 v) 198 9 n) (L ++ [(m, t)]) := by
  subst hv
  refine ⟨by rw [up_eq, hn, List.length_append]; rfl, fun k hk => ?_⟩
  rw [List.length_append, List.length_singleton] at hk
  rw [bg_up_ne (show (204 : Nat) ≠ 198 by decide)]
  unfold mrk th
  rw [app_get]
  by_cases h3 : k < L.length
  · rw [if_pos h3]
    exact ⟨by rw [up_k (by omega), up_k (by omega)]; exact (h.2 k h3).1, by rw [up_k (by omega), up_k (by omega)]; exact (h.2 k h3).2⟩
  · rw [if_neg h3, if_pos (by omega)]
    exact ⟨by rw [up_k (by omega), up_e (by omega)], by rw [up_e (by omega)]⟩
theorem prt_le (q : bm_Q) (fr to : Int) : ∀ n, (prt q fr to n).length ≤ n
  | 0 => Nat.le_refl _
  | n + 1 => by
    have := prt_le q fr to n
    rw [prt, List.length_append]
    split
    · rw [List.length_singleton]; omega
    · rw [List.length_nil]; omega
theorem prt_nil {q : bm_Q} {fr to : Int} (h : to ≤ fr) : ∀ n, prt q fr to n = []
  | 0 => rfl
  | n + 1 => by rw [prt, prt_nil h n, if_neg (by omega)]; rfl
theorem c_X7_takes {y : bg_Y} {g : bg_E} {h fr to : Int} {S : bm_S} {L : bm_Q} (hS : rowR (g 199) S) (ok : staOK S) (hh : isHo h) (hC : cutR g L) (hL : L.length ≤ 48) (hfr : -20000 ≤ fr ∧ fr ≤ 20000) (hto : -20000 ≤ to ∧ to ≤ 20000) : bg_Sv y 2 mX7_takes [.inr 198, .inl h, .inl fr, .inl to] g (fun g' => cutR g' (L ++ prt (sq S h) fr to (sq S h).length) ∧ mres g g') := by
  have hl := sq_OK ok hh
  refine bg_enter pnX7 (Nat.le_of_ble_eq_true rfl) (fun κ X hR hg => ?_)
  have X1 : bg_X κ y cX7_takes RX7 2 0 0 := X.1
  have hg : ∀ a k, R32 (g a k) := hg
  show bg_g κ y 0 [some (.inr 198), some (.inl h), some (.inl fr), some (.inl to), none, none, none, none, none] [] g
  have loop : ∀ (n k : Nat) (l6 l7 l8 : Option bg_V) (g1 : bg_E), k + n = (sq S h).length → cutR g1 (L ++ prt (sq S h) fr to k) → mres g g1 → bg_g κ y 6 [some (.inr 198), some (.inl h), some (.inl fr), some (.inl to), some (.inl (dep (sq S h) k)), some (.inl (k : Int)), l6, l7, l8] [] g1 := by
    intro n
    induction n with
    | zero =>
      intro k l6 l7 l8 g1 hk hC1 hF
      have hS1 : rowR (g1 199) S := by rw [hF.at (by decide)]; exact hS
      refine bg_iload5 (pc := 6) X1 dX7_takes_6 ?_
      refine bg_aload0 (pc := 8) X1 dX7_takes_8 ?_
      refine bo_getR (pc := 9) X1 dX7_takes_9 fX7_7 (by first | assumption | rfl) rfl (by first | assumption | rfl) ?_
      refine bg_bipush (pc := 12) X1 dX7_takes_12 rfl (by decide) ?_
      refine bg_iload1 (pc := 14) X1 dX7_takes_14 ?_
      refine bg_iadd (pc := 15) X1 dX7_takes_15 (by omega) ?_
      refine bo_iaload (pc := 16) X1 dX7_takes_16 (by first | assumption | rfl) (by omega) ?_
      rw [row_len hS1 hh]
      refine bg_icmp_ge (pc := 17) X1 (tgt := 123) dX7_takes_17 (by decide) (fun u17 => ?_) (fun u17 => ?_)
      · exact bo_vret (pc := 123) X rfl dX7_takes_123 (fun hg9 => ⟨by rw [show (sq S h).length = k by omega]; exact hC1, hF⟩)
      · exfalso; omega
    | succ n ih =>
      intro k l6 l7 l8 g1 hk hC1 hF
      have hS1 : rowR (g1 199) S := by rw [hF.at (by decide)]; exact hS
      have hd := sq_dep ok hh (n := k) (by omega)
      have ht := thOK hl.1 (k := k) (by omega)
      have hpl := prt_le (sq S h) fr to k
      have hl2 := hl.2
      have eP : prt (sq S h) fr to (k + 1) = prt (sq S h) fr to k ++ (if 0 < min (dep (sq S h) k + th (sq S h) k) to - max (dep (sq S h) k) fr then [(mrk (sq S h) k, min (dep (sq S h) k + th (sq S h) k) to - max (dep (sq S h) k) fr)] else []) := rfl
      obtain ⟨c, hc⟩ : ∃ c, c = (L ++ prt (sq S h) fr to k).length := ⟨_, rfl⟩
      have c9 : g1 198 9 = (c : Int) := by rw [hc]; exact hC1.1
      have hcb : c ≤ 72 := by rw [hc, List.length_append]; omega
      refine bg_iload5 (pc := 6) X1 dX7_takes_6 ?_
      refine bg_aload0 (pc := 8) X1 dX7_takes_8 ?_
      refine bo_getR (pc := 9) X1 dX7_takes_9 fX7_7 (by first | assumption | rfl) rfl (by first | assumption | rfl) ?_
      refine bg_bipush (pc := 12) X1 dX7_takes_12 rfl (by decide) ?_
      refine bg_iload1 (pc := 14) X1 dX7_takes_14 ?_
      refine bg_iadd (pc := 15) X1 dX7_takes_15 (by omega) ?_
      refine bo_iaload (pc := 16) X1 dX7_takes_16 (by first | assumption | rfl) (by omega) ?_
      rw [row_len hS1 hh]
      refine bg_icmp_ge (pc := 17) X1 (tgt := 123) dX7_takes_17 (by decide) (fun u17 => ?_) (fun u17 => ?_)
      · exfalso; omega
      · refine bg_iload4 (pc := 20) X1 dX7_takes_20 ?_
        refine bg_aload0 (pc := 22) X1 dX7_takes_22 ?_
        refine bg_iload1 (pc := 23) X1 dX7_takes_23 ?_
        refine bg_iload5 (pc := 24) X1 dX7_takes_24 ?_
        refine bo_V2i (pc := 26) X1 (c_X7_thick hS1 ok hh (by omega)) vX7_thick lX7_71 rfl (by first | assumption | rfl) (by decide) dX7_takes_26 (by exact Nat.le_of_ble_eq_true rfl) ?_
        rintro _ _ ⟨h9, h8⟩
        obtain rfl := h9.symm
        obtain rfl := h8.symm
        clear h9 h8
        rw [Int.toNat_natCast]
        refine bg_iadd (pc := 29) X1 dX7_takes_29 (by omega) ?_
        refine bg_istore6 (pc := 30) X1 dX7_takes_30 ?_
        refine bg_iload2 (pc := 32) X1 dX7_takes_32 ?_
        refine bg_iload4 (pc := 33) X1 dX7_takes_33 ?_
        refine bg_icmp_le (pc := 35) X1 (tgt := 42) dX7_takes_35 (by decide) (fun u35 => ?_) (fun u35 => ?_)
        · refine bg_iload4 (pc := 42) X1 dX7_takes_42 ?_
          refine bg_istore7 (pc := 44) X1 dX7_takes_44 ?_
          refine bg_iload3 (pc := 46) X1 dX7_takes_46 ?_
          refine bg_iload6 (pc := 47) X1 dX7_takes_47 ?_
          refine bg_icmp_ge (pc := 49) X1 (tgt := 56) dX7_takes_49 (by decide) (fun u49 => ?_) (fun u49 => ?_)
          · refine bg_iload6 (pc := 56) X1 dX7_takes_56 ?_
            refine bg_istore8 (pc := 58) X1 dX7_takes_58 ?_
            refine bg_iload7 (pc := 60) X1 dX7_takes_60 ?_
            refine bg_iload8 (pc := 62) X1 dX7_takes_62 ?_
            refine bg_icmp_ge (pc := 64) X1 (tgt := 113) dX7_takes_64 (by decide) (fun u64 => ?_) (fun u64 => ?_)
            · refine bg_iload6 (pc := 113) X1 dX7_takes_113 ?_
              refine bg_istore4 (pc := 115) X1 dX7_takes_115 ?_
              refine bg_iinc5 (pc := 117) X1 dX7_takes_117 (by omega) ?_
              refine bg_goto (pc := 120) X1 (tgt := 6) dX7_takes_120 (by decide) ?_
              first
              | (rw [if_neg (by omega), List.append_nil] at eP
                 exact ih (k + 1) _ _ _ g1 (by omega) (by rw [eP]; exact hC1) hF)
              | (rw [if_pos (by omega)] at eP
                 exact ih (k + 1) _ _ _ _ (by omega) (by rw [eP, ← List.append_assoc]; exact hC1.add (by omega) (by omega) (by omega) (by omega)) (((hF.up (by omega)).up (by omega)).up (by omega)))
            · refine bg_aload0 (pc := 67) X1 dX7_takes_67 ?_
              refine bo_getR (pc := 68) X1 dX7_takes_68 fX7_25 (by first | assumption | rfl) rfl (by first | assumption | rfl) ?_
              refine bg_iconst (pc := 71) X1 dX7_takes_71 (by decide) ?_
              refine bg_aload0 (pc := 72) X1 dX7_takes_72 ?_
              refine bo_getI (pc := 73) X1 dX7_takes_73 fX7_104 (by first | assumption | rfl) rfl ?_
              rw [c9]
              refine bg_imul (pc := 76) X1 dX7_takes_76 (by omega) ?_
              refine bg_aload0 (pc := 77) X1 dX7_takes_77 ?_
              refine bg_iload1 (pc := 78) X1 dX7_takes_78 ?_
              refine bg_iload5 (pc := 79) X1 dX7_takes_79 ?_
              refine bo_V2i (pc := 81) X1 (c_X7_mark hS1 ok hh (by omega)) vX7_mark lX7_107 rfl (by first | assumption | rfl) (by decide) dX7_takes_81 (by exact Nat.le_of_ble_eq_true rfl) ?_
              rintro _ _ ⟨h9, h8⟩
              obtain rfl := h9.symm
              obtain rfl := h8.symm
              clear h9 h8
              rw [Int.toNat_natCast]
              refine bo_iastore (pc := 84) X1 dX7_takes_84 (by first | assumption | rfl) (by omega) ?_
              refine bg_aload0 (pc := 85) X1 dX7_takes_85 ?_
              refine bo_getR (pc := 86) X1 dX7_takes_86 fX7_25 (by first | assumption | rfl) rfl (by first | assumption | rfl) ?_
              refine bg_iconst (pc := 89) X1 dX7_takes_89 (by decide) ?_
              refine bg_aload0 (pc := 90) X1 dX7_takes_90 ?_
              refine bo_getI (pc := 91) X1 dX7_takes_91 fX7_104 (by first | assumption | rfl) rfl ?_
              rw [up_a (by decide), c9]
              refine bg_imul (pc := 94) X1 dX7_takes_94 (by omega) ?_
              refine bg_iconst (pc := 95) X1 dX7_takes_95 (by decide) ?_
              refine bg_iadd (pc := 96) X1 dX7_takes_96 (by omega) ?_
              refine bg_iload8 (pc := 97) X1 dX7_takes_97 ?_
              refine bg_iload7 (pc := 99) X1 dX7_takes_99 ?_
              refine bg_isub (pc := 101) X1 dX7_takes_101 (by omega) ?_
              refine bo_iastore (pc := 102) X1 dX7_takes_102 (by first | assumption | rfl) (by omega) ?_
              refine bg_aload0 (pc := 103) X1 dX7_takes_103 ?_
              refine bg_dup (pc := 104) X1 dX7_takes_104 ?_
              refine bo_getI (pc := 105) X1 dX7_takes_105 fX7_104 (by first | assumption | rfl) rfl ?_
              rw [up_a (by decide), up_a (by decide), c9]
              refine bg_iconst (pc := 108) X1 dX7_takes_108 (by decide) ?_
              refine bg_iadd (pc := 109) X1 dX7_takes_109 (by omega) ?_
              refine bo_putI (pc := 110) X1 dX7_takes_110 fX7_104 (by first | assumption | rfl) rfl ?_
              refine bg_iload6 (pc := 113) X1 dX7_takes_113 ?_
              refine bg_istore4 (pc := 115) X1 dX7_takes_115 ?_
              refine bg_iinc5 (pc := 117) X1 dX7_takes_117 (by omega) ?_
              refine bg_goto (pc := 120) X1 (tgt := 6) dX7_takes_120 (by decide) ?_
              first
              | (rw [if_neg (by omega), List.append_nil] at eP
                 exact ih (k + 1) _ _ _ g1 (by omega) (by rw [eP]; exact hC1) hF)
              | (rw [if_pos (by omega)] at eP
                 exact ih (k + 1) _ _ _ _ (by omega) (by rw [eP, ← List.append_assoc]; exact hC1.add (by omega) (by omega) (by omega) (by omega)) (((hF.up (by omega)).up (by omega)).up (by omega)))
          · refine bg_iload3 (pc := 52) X1 dX7_takes_52 ?_
            refine bg_goto (pc := 53) X1 (tgt := 58) dX7_takes_53 (by decide) ?_
            refine bg_istore8 (pc := 58) X1 dX7_takes_58 ?_
            refine bg_iload7 (pc := 60) X1 dX7_takes_60 ?_
            refine bg_iload8 (pc := 62) X1 dX7_takes_62 ?_
            refine bg_icmp_ge (pc := 64) X1 (tgt := 113) dX7_takes_64 (by decide) (fun u64 => ?_) (fun u64 => ?_)
            · refine bg_iload6 (pc := 113) X1 dX7_takes_113 ?_
              refine bg_istore4 (pc := 115) X1 dX7_takes_115 ?_
              refine bg_iinc5 (pc := 117) X1 dX7_takes_117 (by omega) ?_
              refine bg_goto (pc := 120) X1 (tgt := 6) dX7_takes_120 (by decide) ?_
              first
              | (rw [if_neg (by omega), List.append_nil] at eP
                 exact ih (k + 1) _ _ _ g1 (by omega) (by rw [eP]; exact hC1) hF)
              | (rw [if_pos (by omega)] at eP
                 exact ih (k + 1) _ _ _ _ (by omega) (by rw [eP, ← List.append_assoc]; exact hC1.add (by omega) (by omega) (by omega) (by omega)) (((hF.up (by omega)).up (by omega)).up (by omega)))
            · refine bg_aload0 (pc := 67) X1 dX7_takes_67 ?_
              refine bo_getR (pc := 68) X1 dX7_takes_68 fX7_25 (by first | assumption | rfl) rfl (by first | assumption | rfl) ?_
              refine bg_iconst (pc := 71) X1 dX7_takes_71 (by decide) ?_
              refine bg_aload0 (pc := 72) X1 dX7_takes_72 ?_
              refine bo_getI (pc := 73) X1 dX7_takes_73 fX7_104 (by first | assumption | rfl) rfl ?_
              rw [c9]
              refine bg_imul (pc := 76) X1 dX7_takes_76 (by omega) ?_
              refine bg_aload0 (pc := 77) X1 dX7_takes_77 ?_
              refine bg_iload1 (pc := 78) X1 dX7_takes_78 ?_
              refine bg_iload5 (pc := 79) X1 dX7_takes_79 ?_
              refine bo_V2i (pc := 81) X1 (c_X7_mark hS1 ok hh (by omega)) vX7_mark lX7_107 rfl (by first | assumption | rfl) (by decide) dX7_takes_81 (by exact Nat.le_of_ble_eq_true rfl) ?_
              rintro _ _ ⟨h9, h8⟩
              obtain rfl := h9.symm
              obtain rfl := h8.symm
              clear h9 h8
              rw [Int.toNat_natCast]
              refine bo_iastore (pc := 84) X1 dX7_takes_84 (by first | assumption | rfl) (by omega) ?_
              refine bg_aload0 (pc := 85) X1 dX7_takes_85 ?_
              refine bo_getR (pc := 86) X1 dX7_takes_86 fX7_25 (by first | assumption | rfl) rfl (by first | assumption | rfl) ?_
              refine bg_iconst (pc := 89) X1 dX7_takes_89 (by decide) ?_
              refine bg_aload0 (pc := 90) X1 dX7_takes_90 ?_
              refine bo_getI (pc := 91) X1 dX7_takes_91 fX7_104 (by first | assumption | rfl) rfl ?_
              rw [up_a (by decide), c9]
              refine bg_imul (pc := 94) X1 dX7_takes_94 (by omega) ?_
              refine bg_iconst (pc := 95) X1 dX7_takes_95 (by decide) ?_
              refine bg_iadd (pc := 96) X1 dX7_takes_96 (by omega) ?_
              refine bg_iload8 (pc := 97) X1 dX7_takes_97 ?_
              refine bg_iload7 (pc := 99) X1 dX7_takes_99 ?_
              refine bg_isub (pc := 101) X1 dX7_takes_101 (by omega) ?_
              refine bo_iastore (pc := 102) X1 dX7_takes_102 (by first | assumption | rfl) (by omega) ?_
              refine bg_aload0 (pc := 103) X1 dX7_takes_103 ?_
              refine bg_dup (pc := 104) X1 dX7_takes_104 ?_
              refine bo_getI (pc := 105) X1 dX7_takes_105 fX7_104 (by first | assumption | rfl) rfl ?_
              rw [up_a (by decide), up_a (by decide), c9]
              refine bg_iconst (pc := 108) X1 dX7_takes_108 (by decide) ?_
              refine bg_iadd (pc := 109) X1 dX7_takes_109 (by omega) ?_
              refine bo_putI (pc := 110) X1 dX7_takes_110 fX7_104 (by first | assumption | rfl) rfl ?_
              refine bg_iload6 (pc := 113) X1 dX7_takes_113 ?_
              refine bg_istore4 (pc := 115) X1 dX7_takes_115 ?_
              refine bg_iinc5 (pc := 117) X1 dX7_takes_117 (by omega) ?_
              refine bg_goto (pc := 120) X1 (tgt := 6) dX7_takes_120 (by decide) ?_
              first
              | (rw [if_neg (by omega), List.append_nil] at eP
                 exact ih (k + 1) _ _ _ g1 (by omega) (by rw [eP]; exact hC1) hF)
              | (rw [if_pos (by omega)] at eP
                 exact ih (k + 1) _ _ _ _ (by omega) (by rw [eP, ← List.append_assoc]; exact hC1.add (by omega) (by omega) (by omega) (by omega)) (((hF.up (by omega)).up (by omega)).up (by omega)))
        · refine bg_iload2 (pc := 38) X1 dX7_takes_38 ?_
          refine bg_goto (pc := 39) X1 (tgt := 44) dX7_takes_39 (by decide) ?_
          refine bg_istore7 (pc := 44) X1 dX7_takes_44 ?_
          refine bg_iload3 (pc := 46) X1 dX7_takes_46 ?_
          refine bg_iload6 (pc := 47) X1 dX7_takes_47 ?_
          refine bg_icmp_ge (pc := 49) X1 (tgt := 56) dX7_takes_49 (by decide) (fun u49 => ?_) (fun u49 => ?_)
          · refine bg_iload6 (pc := 56) X1 dX7_takes_56 ?_
            refine bg_istore8 (pc := 58) X1 dX7_takes_58 ?_
            refine bg_iload7 (pc := 60) X1 dX7_takes_60 ?_
            refine bg_iload8 (pc := 62) X1 dX7_takes_62 ?_
            refine bg_icmp_ge (pc := 64) X1 (tgt := 113) dX7_takes_64 (by decide) (fun u64 => ?_) (fun u64 => ?_)
            · refine bg_iload6 (pc := 113) X1 dX7_takes_113 ?_
              refine bg_istore4 (pc := 115) X1 dX7_takes_115 ?_
              refine bg_iinc5 (pc := 117) X1 dX7_takes_117 (by omega) ?_
              refine bg_goto (pc := 120) X1 (tgt := 6) dX7_takes_120 (by decide) ?_
              first
              | (rw [if_neg (by omega), List.append_nil] at eP
                 exact ih (k + 1) _ _ _ g1 (by omega) (by rw [eP]; exact hC1) hF)
              | (rw [if_pos (by omega)] at eP
                 exact ih (k + 1) _ _ _ _ (by omega) (by rw [eP, ← List.append_assoc]; exact hC1.add (by omega) (by omega) (by omega) (by omega)) (((hF.up (by omega)).up (by omega)).up (by omega)))
            · refine bg_aload0 (pc := 67) X1 dX7_takes_67 ?_
              refine bo_getR (pc := 68) X1 dX7_takes_68 fX7_25 (by first | assumption | rfl) rfl (by first | assumption | rfl) ?_
              refine bg_iconst (pc := 71) X1 dX7_takes_71 (by decide) ?_
              refine bg_aload0 (pc := 72) X1 dX7_takes_72 ?_
              refine bo_getI (pc := 73) X1 dX7_takes_73 fX7_104 (by first | assumption | rfl) rfl ?_
              rw [c9]
              refine bg_imul (pc := 76) X1 dX7_takes_76 (by omega) ?_
              refine bg_aload0 (pc := 77) X1 dX7_takes_77 ?_
              refine bg_iload1 (pc := 78) X1 dX7_takes_78 ?_
              refine bg_iload5 (pc := 79) X1 dX7_takes_79 ?_
              refine bo_V2i (pc := 81) X1 (c_X7_mark hS1 ok hh (by omega)) vX7_mark lX7_107 rfl (by first | assumption | rfl) (by decide) dX7_takes_81 (by exact Nat.le_of_ble_eq_true rfl) ?_
              rintro _ _ ⟨h9, h8⟩
              obtain rfl := h9.symm
              obtain rfl := h8.symm
              clear h9 h8
              rw [Int.toNat_natCast]
              refine bo_iastore (pc := 84) X1 dX7_takes_84 (by first | assumption | rfl) (by omega) ?_
              refine bg_aload0 (pc := 85) X1 dX7_takes_85 ?_
              refine bo_getR (pc := 86) X1 dX7_takes_86 fX7_25 (by first | assumption | rfl) rfl (by first | assumption | rfl) ?_
              refine bg_iconst (pc := 89) X1 dX7_takes_89 (by decide) ?_
              refine bg_aload0 (pc := 90) X1 dX7_takes_90 ?_
              refine bo_getI (pc := 91) X1 dX7_takes_91 fX7_104 (by first | assumption | rfl) rfl ?_
              rw [up_a (by decide), c9]
              refine bg_imul (pc := 94) X1 dX7_takes_94 (by omega) ?_
              refine bg_iconst (pc := 95) X1 dX7_takes_95 (by decide) ?_
              refine bg_iadd (pc := 96) X1 dX7_takes_96 (by omega) ?_
              refine bg_iload8 (pc := 97) X1 dX7_takes_97 ?_
              refine bg_iload7 (pc := 99) X1 dX7_takes_99 ?_
              refine bg_isub (pc := 101) X1 dX7_takes_101 (by omega) ?_
              refine bo_iastore (pc := 102) X1 dX7_takes_102 (by first | assumption | rfl) (by omega) ?_
              refine bg_aload0 (pc := 103) X1 dX7_takes_103 ?_
              refine bg_dup (pc := 104) X1 dX7_takes_104 ?_
              refine bo_getI (pc := 105) X1 dX7_takes_105 fX7_104 (by first | assumption | rfl) rfl ?_
              rw [up_a (by decide), up_a (by decide), c9]
              refine bg_iconst (pc := 108) X1 dX7_takes_108 (by decide) ?_
              refine bg_iadd (pc := 109) X1 dX7_takes_109 (by omega) ?_
              refine bo_putI (pc := 110) X1 dX7_takes_110 fX7_104 (by first | assumption | rfl) rfl ?_
              refine bg_iload6 (pc := 113) X1 dX7_takes_113 ?_
              refine bg_istore4 (pc := 115) X1 dX7_takes_115 ?_
              refine bg_iinc5 (pc := 117) X1 dX7_takes_117 (by omega) ?_
              refine bg_goto (pc := 120) X1 (tgt := 6) dX7_takes_120 (by decide) ?_
              first
              | (rw [if_neg (by omega), List.append_nil] at eP
                 exact ih (k + 1) _ _ _ g1 (by omega) (by rw [eP]; exact hC1) hF)
              | (rw [if_pos (by omega)] at eP
                 exact ih (k + 1) _ _ _ _ (by omega) (by rw [eP, ← List.append_assoc]; exact hC1.add (by omega) (by omega) (by omega) (by omega)) (((hF.up (by omega)).up (by omega)).up (by omega)))
          · refine bg_iload3 (pc := 52) X1 dX7_takes_52 ?_
            refine bg_goto (pc := 53) X1 (tgt := 58) dX7_takes_53 (by decide) ?_
            refine bg_istore8 (pc := 58) X1 dX7_takes_58 ?_
            refine bg_iload7 (pc := 60) X1 dX7_takes_60 ?_
            refine bg_iload8 (pc := 62) X1 dX7_takes_62 ?_
            refine bg_icmp_ge (pc := 64) X1 (tgt := 113) dX7_takes_64 (by decide) (fun u64 => ?_) (fun u64 => ?_)
            · refine bg_iload6 (pc := 113) X1 dX7_takes_113 ?_
              refine bg_istore4 (pc := 115) X1 dX7_takes_115 ?_
              refine bg_iinc5 (pc := 117) X1 dX7_takes_117 (by omega) ?_
              refine bg_goto (pc := 120) X1 (tgt := 6) dX7_takes_120 (by decide) ?_
              first
              | (rw [if_neg (by omega), List.append_nil] at eP
                 exact ih (k + 1) _ _ _ g1 (by omega) (by rw [eP]; exact hC1) hF)
              | (rw [if_pos (by omega)] at eP
                 exact ih (k + 1) _ _ _ _ (by omega) (by rw [eP, ← List.append_assoc]; exact hC1.add (by omega) (by omega) (by omega) (by omega)) (((hF.up (by omega)).up (by omega)).up (by omega)))
            · refine bg_aload0 (pc := 67) X1 dX7_takes_67 ?_
              refine bo_getR (pc := 68) X1 dX7_takes_68 fX7_25 (by first | assumption | rfl) rfl (by first | assumption | rfl) ?_
              refine bg_iconst (pc := 71) X1 dX7_takes_71 (by decide) ?_
              refine bg_aload0 (pc := 72) X1 dX7_takes_72 ?_
              refine bo_getI (pc := 73) X1 dX7_takes_73 fX7_104 (by first | assumption | rfl) rfl ?_
              rw [c9]
              refine bg_imul (pc := 76) X1 dX7_takes_76 (by omega) ?_
              refine bg_aload0 (pc := 77) X1 dX7_takes_77 ?_
              refine bg_iload1 (pc := 78) X1 dX7_takes_78 ?_
              refine bg_iload5 (pc := 79) X1 dX7_takes_79 ?_
              refine bo_V2i (pc := 81) X1 (c_X7_mark hS1 ok hh (by omega)) vX7_mark lX7_107 rfl (by first | assumption | rfl) (by decide) dX7_takes_81 (by exact Nat.le_of_ble_eq_true rfl) ?_
              rintro _ _ ⟨h9, h8⟩
              obtain rfl := h9.symm
              obtain rfl := h8.symm
              clear h9 h8
              rw [Int.toNat_natCast]
              refine bo_iastore (pc := 84) X1 dX7_takes_84 (by first | assumption | rfl) (by omega) ?_
              refine bg_aload0 (pc := 85) X1 dX7_takes_85 ?_
              refine bo_getR (pc := 86) X1 dX7_takes_86 fX7_25 (by first | assumption | rfl) rfl (by first | assumption | rfl) ?_
              refine bg_iconst (pc := 89) X1 dX7_takes_89 (by decide) ?_
              refine bg_aload0 (pc := 90) X1 dX7_takes_90 ?_
              refine bo_getI (pc := 91) X1 dX7_takes_91 fX7_104 (by first | assumption | rfl) rfl ?_
              rw [up_a (by decide), c9]
              refine bg_imul (pc := 94) X1 dX7_takes_94 (by omega) ?_
              refine bg_iconst (pc := 95) X1 dX7_takes_95 (by decide) ?_
              refine bg_iadd (pc := 96) X1 dX7_takes_96 (by omega) ?_
              refine bg_iload8 (pc := 97) X1 dX7_takes_97 ?_
              refine bg_iload7 (pc := 99) X1 dX7_takes_99 ?_
              refine bg_isub (pc := 101) X1 dX7_takes_101 (by omega) ?_
              refine bo_iastore (pc := 102) X1 dX7_takes_102 (by first | assumption | rfl) (by omega) ?_
              refine bg_aload0 (pc := 103) X1 dX7_takes_103 ?_
              refine bg_dup (pc := 104) X1 dX7_takes_104 ?_
              refine bo_getI (pc := 105) X1 dX7_takes_105 fX7_104 (by first | assumption | rfl) rfl ?_
              rw [up_a (by decide), up_a (by decide), c9]
              refine bg_iconst (pc := 108) X1 dX7_takes_108 (by decide) ?_
              refine bg_iadd (pc := 109) X1 dX7_takes_109 (by omega) ?_
              refine bo_putI (pc := 110) X1 dX7_takes_110 fX7_104 (by first | assumption | rfl) rfl ?_
              refine bg_iload6 (pc := 113) X1 dX7_takes_113 ?_
              refine bg_istore4 (pc := 115) X1 dX7_takes_115 ?_
              refine bg_iinc5 (pc := 117) X1 dX7_takes_117 (by omega) ?_
              refine bg_goto (pc := 120) X1 (tgt := 6) dX7_takes_120 (by decide) ?_
              first
              | (rw [if_neg (by omega), List.append_nil] at eP
                 exact ih (k + 1) _ _ _ g1 (by omega) (by rw [eP]; exact hC1) hF)
              | (rw [if_pos (by omega)] at eP
                 exact ih (k + 1) _ _ _ _ (by omega) (by rw [eP, ← List.append_assoc]; exact hC1.add (by omega) (by omega) (by omega) (by omega)) (((hF.up (by omega)).up (by omega)).up (by omega)))
  refine bg_iconst (pc := 0) X1 dX7_takes_0 (by decide) ?_
  refine bg_istore4 (pc := 1) X1 dX7_takes_1 ?_
  refine bg_iconst (pc := 3) X1 dX7_takes_3 (by decide) ?_
  refine bg_istore5 (pc := 4) X1 dX7_takes_4 ?_
  exact loop (sq S h).length 0 _ _ _ g (by omega) (by show cutR g (L ++ []); rw [List.append_nil]; exact hC) mres.rf
theorem cutL_p {q : bm_Q} {d b : Int} (hb : 0 < b) : cutL q d b = [] ++ prt q 0 d q.length ++ prt q (d + b) (dep q q.length) q.length := by
  unfold cutL
  rw [List.nil_append, prt_nil (show d ≤ min d (d + b) by omega), List.append_nil]
  congr 1
  rcases Int.le_total (d + b) (dep q q.length) with h | h
  · rw [show min (dep q q.length) (max d (d + b)) = d + b by omega]
  · rw [prt_nil (by omega), prt_nil (by omega)]
theorem cutL_n {q : bm_Q} {d b : Int} (hb : b < 0) (hd : d ≤ dep q q.length) : cutL q d b = [] ++ prt q 0 d q.length ++ prt q (d + b) d q.length ++ prt q d (dep q q.length) q.length := by
  unfold cutL
  rw [List.nil_append, show min d (d + b) = d + b by omega, show min (dep q q.length) (max d (d + b)) = d by omega]
theorem c_X7_cut {y : bg_Y} {g : bg_E} {h d b : Int} {Z : bm_X} (hM : modR g Z) (ok : okX Z) : bg_Si y 6 mX7_cut [.inr 198, .inl h, .inl d, .inl b] g (fun r g' => r = (xCut Z h d b).1 ∧ modR g' (xCut Z h d b).2 ∧ frR 198 214 g g') := by
  have eq9 : dep (qH Z h) (qH Z h).length = dep (sq Z.1 h) (sq Z.1 h).length := rfl
  refine bg_enter pnX7 (Nat.le_of_ble_eq_true rfl) (fun κ X hR hg => ?_)
  have X1 : bg_X κ y cX7_cut RX7 6 0 0 := X.1
  have hg : ∀ a k, R32 (g a k) := hg
  show bg_g κ y 0 [some (.inr 198), some (.inl h), some (.inl d), some (.inl b), none, none] [] g
  obtain ⟨ln, hln⟩ : ∃ ln, ln = dep (sq Z.1 h) (sq Z.1 h).length := ⟨_, rfl⟩
  -- the end
  have fin : ∀ (g4 g5 : bg_E) (c : Nat) (k : Int), isHo h ∧ 1 ≤ d ∧ d ≤ ln - 1 ∧ ¬ b = 0 ∧ -d ≤ b ∧ b ≤ 9999 → ln ≤ 2376 → cutR g4 (cutL (sq Z.1 h) d b) → mres g g4 → hisM g5 (hPush Z.2.1 Z.1) → sfr g4 g5 → c = (cutL (sq Z.1 h) d b).length → c ≤ 24 → bg_g κ y 161 [some (.inr 198), some (.inl h), some (.inl d), some (.inl b), some (.inl ln), some (.inl k)] [] (cp (bg_up g5 199 (10 + h).toNat (c : Int)) 199 (18 + 48 * h.toNat) 204 0 (2 * c)) := by
    intro g4 g5 c k C hln2 hC hF x1 x2 hc hc24
    have hM4 := hM.cg hF
    have e9 : g5 198 9 = (c : Int) := by rw [x2 198 9 (by decide) (by decide), hc]; exact hC.1
    have e199 : g5 199 = g 199 := (x2.at (by decide) (by decide)).trans (hF.at (by decide))
    have e204 : g5 204 = g4 204 := x2.at (by decide) (by decide)
    have hS5 : rowR (g5 199) Z.1 := by rw [e199]; exact hM.1
    have hS6 : rowR ((cp (bg_up g5 199 (10 + h).toNat (c : Int)) 199 (18 + 48 * h.toNat) 204 0 (2 * c)) 199) (sBed Z.1 h.toNat (cutL (sq Z.1 h) d b)) := by
      refine hS5.bed (ok_len ok.1) (by omega) ?_ (fun j hj => ?_) (fun j h1 h2 => ?_)
      · rw [cp_o (by omega), up_e (by omega), hc]
      · rw [← hc] at hj
        have := hC.2 j (by omega)
        exact ⟨by rw [cp_i (j' := 2 * j) (by omega) (by omega), up_a (by decide), e204]; exact this.1, by rw [cp_i (j' := 2 * j + 1) (by omega) (by omega), up_a (by decide), e204]; exact this.2⟩
      · rw [cp_o (by omega), up_k (by omega)]
    have R16 : R32 ((cp (bg_up g5 199 (10 + h).toNat (c : Int)) 199 (18 + 48 * h.toNat) 204 0 (2 * c)) 199 16) := by rw [cp_o (by omega), up_k (by omega), e199]; exact hg 199 16
    have R17 : R32 ((cp (bg_up g5 199 (10 + h).toNat (c : Int)) 199 (18 + 48 * h.toNat) 204 0 (2 * c)) 199 17) := by rw [cp_o (by omega), up_k (by omega), e199]; exact hg 199 17
    have PUT : ∀ (g6 : bg_E) (T : bm_S), (∀ x, ¬ x = 199 → g6 x = g5 x) → rowR (g6 199) T → modR g6 (xPut Z T) ∧ frR 198 214 g g6 := fun g6 T h1 h2 => by
      have := hM4.put x1 x2 h1 h2
      exact ⟨this.1, hF.F.tr this.2⟩
    refine bg_iload3 (pc := 161) X1 dX7_cut_161 ?_
    refine bg_iload4 (pc := 162) X1 dX7_cut_162 ?_
    refine bg_iload2 (pc := 164) X1 dX7_cut_164 ?_
    refine bg_isub (pc := 165) X1 dX7_cut_165 (by omega) ?_
    refine bg_icmp_ge (pc := 166) X1 (tgt := 173) dX7_cut_166 (by decide) (fun u166 => ?_) (fun u166 => ?_)
    · refine bg_iload4 (pc := 173) X1 dX7_cut_173 ?_
      refine bg_iload2 (pc := 175) X1 dX7_cut_175 ?_
      refine bg_isub (pc := 176) X1 dX7_cut_176 (by omega) ?_
      refine bg_istore5 (pc := 177) X1 dX7_cut_177 ?_
      refine bg_aload0 (pc := 179) X1 dX7_cut_179 ?_
      refine bg_iload3 (pc := 180) X1 dX7_cut_180 ?_
      refine bg_if_le (pc := 181) X1 (tgt := 188) dX7_cut_181 (by decide) (fun u181 => ?_) (fun u181 => ?_)
      · refine bg_iconst (pc := 188) X1 dX7_cut_188 (by decide) ?_
        refine bg_iload3 (pc := 189) X1 dX7_cut_189 ?_
        refine bg_if_le (pc := 190) X1 (tgt := 198) dX7_cut_190 (by decide) (fun u190 => ?_) (fun u190 => ?_)
        · refine bg_iload3 (pc := 198) X1 dX7_cut_198 ?_
          refine bg_ineg (pc := 199) X1 dX7_cut_199 (by omega) ?_
          refine bo_V2v (pc := 200) X1 (c_X7_comes (by omega)) vX7_comes lX7_96 rfl (by first | assumption | rfl) (by decide) dX7_cut_200 (by exact Nat.le_of_ble_eq_true rfl) ?_
          rintro _ h8
          obtain rfl := h8.symm
          clear h8
          refine bg_aload0 (pc := 203) X1 dX7_cut_203 ?_
          refine bo_getI (pc := 204) X1 dX7_cut_204 fX7_104 (by first | assumption | rfl) rfl ?_
          exact bo_iret (pc := 207) X rfl dX7_cut_207 (fun hi => by
              rw [up_a (by decide), cp_a (by decide), up_a (by decide), e9]
              have fn : ∀ (T : bm_S) (g6 : bg_E), T = sBook (sBook (sBed Z.1 h.toNat (cutL (sq Z.1 h) d b)) 3 (min ln (max d (d + b)) - d)) 4 (d - min d (d + b)) → (∀ x, ¬ x = 199 → g6 x = g5 x) → rowR (g6 199) T → (c : Int) = (xCut Z h d b).1 ∧ modR g6 (xCut Z h d b).2 ∧ frR 198 214 g g6 := by
                intro T g6 hT h1 h2
                unfold xCut
                rw [if_pos (by rw [eq9, ← hln]; exact C), if_pos (show (cutL (qH Z h) d b).length ≤ 24 from hc ▸ hc24), eq9, ← hln]
                exact ⟨by rw [hc], PUT _ _ h1 (hT ▸ h2)⟩
              first
              | (exfalso; omega)
              | (refine fn (sBook (sBook (sBed Z.1 h.toNat (cutL (sq Z.1 h) d b)) 3 b) 4 0) _ (by rw [show d - min d (d + b) = 0 by omega, show min ln (max d (d + b)) - d = b by omega]) (fun x hx => by rw [bg_up_ne hx, cp_A hx, bg_up_ne hx]) ?_
                 rw [up_F]
                 exact book_0 (hS6.book (a := 3) (by decide)) (by decide) (by rw [fup_ne (by decide)]; exact R17))
              | (refine fn (sBook (sBook (sBed Z.1 h.toNat (cutL (sq Z.1 h) d b)) 3 (ln - d)) 4 0) _ (by rw [show d - min d (d + b) = 0 by omega, show min ln (max d (d + b)) - d = ln - d by omega]) (fun x hx => by rw [bg_up_ne hx, cp_A hx, bg_up_ne hx]) ?_
                 rw [up_F]
                 exact book_0 (hS6.book (a := 3) (by decide)) (by decide) (by rw [fup_ne (by decide)]; exact R17))
              | (refine fn (sBook (sBook (sBed Z.1 h.toNat (cutL (sq Z.1 h) d b)) 3 0) 4 (-b)) _ (by rw [show d - min d (d + b) = -b by omega, show min ln (max d (d + b)) - d = 0 by omega]) (fun x hx => by rw [bg_up_ne hx, cp_A hx, bg_up_ne hx]) ?_
                 rw [up_F]
                 exact (book_0 hS6 (a := 3) (by decide) R16).book (a := 4) (by decide)))
        · refine bg_iload5 (pc := 193) X1 dX7_cut_193 ?_
          refine bg_goto (pc := 195) X1 (tgt := 200) dX7_cut_195 (by decide) ?_
          refine bo_V2v (pc := 200) X1 (c_X7_comes (by omega)) vX7_comes lX7_96 rfl (by first | assumption | rfl) (by decide) dX7_cut_200 (by exact Nat.le_of_ble_eq_true rfl) ?_
          rintro _ h8
          obtain rfl := h8.symm
          clear h8
          refine bg_aload0 (pc := 203) X1 dX7_cut_203 ?_
          refine bo_getI (pc := 204) X1 dX7_cut_204 fX7_104 (by first | assumption | rfl) rfl ?_
          exact bo_iret (pc := 207) X rfl dX7_cut_207 (fun hi => by
              rw [up_a (by decide), cp_a (by decide), up_a (by decide), e9]
              have fn : ∀ (T : bm_S) (g6 : bg_E), T = sBook (sBook (sBed Z.1 h.toNat (cutL (sq Z.1 h) d b)) 3 (min ln (max d (d + b)) - d)) 4 (d - min d (d + b)) → (∀ x, ¬ x = 199 → g6 x = g5 x) → rowR (g6 199) T → (c : Int) = (xCut Z h d b).1 ∧ modR g6 (xCut Z h d b).2 ∧ frR 198 214 g g6 := by
                intro T g6 hT h1 h2
                unfold xCut
                rw [if_pos (by rw [eq9, ← hln]; exact C), if_pos (show (cutL (qH Z h) d b).length ≤ 24 from hc ▸ hc24), eq9, ← hln]
                exact ⟨by rw [hc], PUT _ _ h1 (hT ▸ h2)⟩
              first
              | (exfalso; omega)
              | (refine fn (sBook (sBook (sBed Z.1 h.toNat (cutL (sq Z.1 h) d b)) 3 b) 4 0) _ (by rw [show d - min d (d + b) = 0 by omega, show min ln (max d (d + b)) - d = b by omega]) (fun x hx => by rw [bg_up_ne hx, cp_A hx, bg_up_ne hx]) ?_
                 rw [up_F]
                 exact book_0 (hS6.book (a := 3) (by decide)) (by decide) (by rw [fup_ne (by decide)]; exact R17))
              | (refine fn (sBook (sBook (sBed Z.1 h.toNat (cutL (sq Z.1 h) d b)) 3 (ln - d)) 4 0) _ (by rw [show d - min d (d + b) = 0 by omega, show min ln (max d (d + b)) - d = ln - d by omega]) (fun x hx => by rw [bg_up_ne hx, cp_A hx, bg_up_ne hx]) ?_
                 rw [up_F]
                 exact book_0 (hS6.book (a := 3) (by decide)) (by decide) (by rw [fup_ne (by decide)]; exact R17))
              | (refine fn (sBook (sBook (sBed Z.1 h.toNat (cutL (sq Z.1 h) d b)) 3 0) 4 (-b)) _ (by rw [show d - min d (d + b) = -b by omega, show min ln (max d (d + b)) - d = 0 by omega]) (fun x hx => by rw [bg_up_ne hx, cp_A hx, bg_up_ne hx]) ?_
                 rw [up_F]
                 exact (book_0 hS6 (a := 3) (by decide) R16).book (a := 4) (by decide)))
      · refine bg_iconst (pc := 184) X1 dX7_cut_184 (by decide) ?_
        refine bg_goto (pc := 185) X1 (tgt := 189) dX7_cut_185 (by decide) ?_
        refine bg_iload3 (pc := 189) X1 dX7_cut_189 ?_
        refine bg_if_le (pc := 190) X1 (tgt := 198) dX7_cut_190 (by decide) (fun u190 => ?_) (fun u190 => ?_)
        · refine bg_iload3 (pc := 198) X1 dX7_cut_198 ?_
          refine bg_ineg (pc := 199) X1 dX7_cut_199 (by omega) ?_
          refine bo_V2v (pc := 200) X1 (c_X7_comes (by omega)) vX7_comes lX7_96 rfl (by first | assumption | rfl) (by decide) dX7_cut_200 (by exact Nat.le_of_ble_eq_true rfl) ?_
          rintro _ h8
          obtain rfl := h8.symm
          clear h8
          refine bg_aload0 (pc := 203) X1 dX7_cut_203 ?_
          refine bo_getI (pc := 204) X1 dX7_cut_204 fX7_104 (by first | assumption | rfl) rfl ?_
          exact bo_iret (pc := 207) X rfl dX7_cut_207 (fun hi => by
              rw [up_a (by decide), cp_a (by decide), up_a (by decide), e9]
              have fn : ∀ (T : bm_S) (g6 : bg_E), T = sBook (sBook (sBed Z.1 h.toNat (cutL (sq Z.1 h) d b)) 3 (min ln (max d (d + b)) - d)) 4 (d - min d (d + b)) → (∀ x, ¬ x = 199 → g6 x = g5 x) → rowR (g6 199) T → (c : Int) = (xCut Z h d b).1 ∧ modR g6 (xCut Z h d b).2 ∧ frR 198 214 g g6 := by
                intro T g6 hT h1 h2
                unfold xCut
                rw [if_pos (by rw [eq9, ← hln]; exact C), if_pos (show (cutL (qH Z h) d b).length ≤ 24 from hc ▸ hc24), eq9, ← hln]
                exact ⟨by rw [hc], PUT _ _ h1 (hT ▸ h2)⟩
              first
              | (exfalso; omega)
              | (refine fn (sBook (sBook (sBed Z.1 h.toNat (cutL (sq Z.1 h) d b)) 3 b) 4 0) _ (by rw [show d - min d (d + b) = 0 by omega, show min ln (max d (d + b)) - d = b by omega]) (fun x hx => by rw [bg_up_ne hx, cp_A hx, bg_up_ne hx]) ?_
                 rw [up_F]
                 exact book_0 (hS6.book (a := 3) (by decide)) (by decide) (by rw [fup_ne (by decide)]; exact R17))
              | (refine fn (sBook (sBook (sBed Z.1 h.toNat (cutL (sq Z.1 h) d b)) 3 (ln - d)) 4 0) _ (by rw [show d - min d (d + b) = 0 by omega, show min ln (max d (d + b)) - d = ln - d by omega]) (fun x hx => by rw [bg_up_ne hx, cp_A hx, bg_up_ne hx]) ?_
                 rw [up_F]
                 exact book_0 (hS6.book (a := 3) (by decide)) (by decide) (by rw [fup_ne (by decide)]; exact R17))
              | (refine fn (sBook (sBook (sBed Z.1 h.toNat (cutL (sq Z.1 h) d b)) 3 0) 4 (-b)) _ (by rw [show d - min d (d + b) = -b by omega, show min ln (max d (d + b)) - d = 0 by omega]) (fun x hx => by rw [bg_up_ne hx, cp_A hx, bg_up_ne hx]) ?_
                 rw [up_F]
                 exact (book_0 hS6 (a := 3) (by decide) R16).book (a := 4) (by decide)))
        · refine bg_iload5 (pc := 193) X1 dX7_cut_193 ?_
          refine bg_goto (pc := 195) X1 (tgt := 200) dX7_cut_195 (by decide) ?_
          refine bo_V2v (pc := 200) X1 (c_X7_comes (by omega)) vX7_comes lX7_96 rfl (by first | assumption | rfl) (by decide) dX7_cut_200 (by exact Nat.le_of_ble_eq_true rfl) ?_
          rintro _ h8
          obtain rfl := h8.symm
          clear h8
          refine bg_aload0 (pc := 203) X1 dX7_cut_203 ?_
          refine bo_getI (pc := 204) X1 dX7_cut_204 fX7_104 (by first | assumption | rfl) rfl ?_
          exact bo_iret (pc := 207) X rfl dX7_cut_207 (fun hi => by
              rw [up_a (by decide), cp_a (by decide), up_a (by decide), e9]
              have fn : ∀ (T : bm_S) (g6 : bg_E), T = sBook (sBook (sBed Z.1 h.toNat (cutL (sq Z.1 h) d b)) 3 (min ln (max d (d + b)) - d)) 4 (d - min d (d + b)) → (∀ x, ¬ x = 199 → g6 x = g5 x) → rowR (g6 199) T → (c : Int) = (xCut Z h d b).1 ∧ modR g6 (xCut Z h d b).2 ∧ frR 198 214 g g6 := by
                intro T g6 hT h1 h2
                unfold xCut
                rw [if_pos (by rw [eq9, ← hln]; exact C), if_pos (show (cutL (qH Z h) d b).length ≤ 24 from hc ▸ hc24), eq9, ← hln]
                exact ⟨by rw [hc], PUT _ _ h1 (hT ▸ h2)⟩
              first
              | (exfalso; omega)
              | (refine fn (sBook (sBook (sBed Z.1 h.toNat (cutL (sq Z.1 h) d b)) 3 b) 4 0) _ (by rw [show d - min d (d + b) = 0 by omega, show min ln (max d (d + b)) - d = b by omega]) (fun x hx => by rw [bg_up_ne hx, cp_A hx, bg_up_ne hx]) ?_
                 rw [up_F]
                 exact book_0 (hS6.book (a := 3) (by decide)) (by decide) (by rw [fup_ne (by decide)]; exact R17))
              | (refine fn (sBook (sBook (sBed Z.1 h.toNat (cutL (sq Z.1 h) d b)) 3 (ln - d)) 4 0) _ (by rw [show d - min d (d + b) = 0 by omega, show min ln (max d (d + b)) - d = ln - d by omega]) (fun x hx => by rw [bg_up_ne hx, cp_A hx, bg_up_ne hx]) ?_
                 rw [up_F]
                 exact book_0 (hS6.book (a := 3) (by decide)) (by decide) (by rw [fup_ne (by decide)]; exact R17))
              | (refine fn (sBook (sBook (sBed Z.1 h.toNat (cutL (sq Z.1 h) d b)) 3 0) 4 (-b)) _ (by rw [show d - min d (d + b) = -b by omega, show min ln (max d (d + b)) - d = 0 by omega]) (fun x hx => by rw [bg_up_ne hx, cp_A hx, bg_up_ne hx]) ?_
                 rw [up_F]
                 exact (book_0 hS6 (a := 3) (by decide) R16).book (a := 4) (by decide)))
    · refine bg_iload3 (pc := 169) X1 dX7_cut_169 ?_
      refine bg_goto (pc := 170) X1 (tgt := 177) dX7_cut_170 (by decide) ?_
      refine bg_istore5 (pc := 177) X1 dX7_cut_177 ?_
      refine bg_aload0 (pc := 179) X1 dX7_cut_179 ?_
      refine bg_iload3 (pc := 180) X1 dX7_cut_180 ?_
      refine bg_if_le (pc := 181) X1 (tgt := 188) dX7_cut_181 (by decide) (fun u181 => ?_) (fun u181 => ?_)
      · refine bg_iconst (pc := 188) X1 dX7_cut_188 (by decide) ?_
        refine bg_iload3 (pc := 189) X1 dX7_cut_189 ?_
        refine bg_if_le (pc := 190) X1 (tgt := 198) dX7_cut_190 (by decide) (fun u190 => ?_) (fun u190 => ?_)
        · refine bg_iload3 (pc := 198) X1 dX7_cut_198 ?_
          refine bg_ineg (pc := 199) X1 dX7_cut_199 (by omega) ?_
          refine bo_V2v (pc := 200) X1 (c_X7_comes (by omega)) vX7_comes lX7_96 rfl (by first | assumption | rfl) (by decide) dX7_cut_200 (by exact Nat.le_of_ble_eq_true rfl) ?_
          rintro _ h8
          obtain rfl := h8.symm
          clear h8
          refine bg_aload0 (pc := 203) X1 dX7_cut_203 ?_
          refine bo_getI (pc := 204) X1 dX7_cut_204 fX7_104 (by first | assumption | rfl) rfl ?_
          exact bo_iret (pc := 207) X rfl dX7_cut_207 (fun hi => by
              rw [up_a (by decide), cp_a (by decide), up_a (by decide), e9]
              have fn : ∀ (T : bm_S) (g6 : bg_E), T = sBook (sBook (sBed Z.1 h.toNat (cutL (sq Z.1 h) d b)) 3 (min ln (max d (d + b)) - d)) 4 (d - min d (d + b)) → (∀ x, ¬ x = 199 → g6 x = g5 x) → rowR (g6 199) T → (c : Int) = (xCut Z h d b).1 ∧ modR g6 (xCut Z h d b).2 ∧ frR 198 214 g g6 := by
                intro T g6 hT h1 h2
                unfold xCut
                rw [if_pos (by rw [eq9, ← hln]; exact C), if_pos (show (cutL (qH Z h) d b).length ≤ 24 from hc ▸ hc24), eq9, ← hln]
                exact ⟨by rw [hc], PUT _ _ h1 (hT ▸ h2)⟩
              first
              | (exfalso; omega)
              | (refine fn (sBook (sBook (sBed Z.1 h.toNat (cutL (sq Z.1 h) d b)) 3 b) 4 0) _ (by rw [show d - min d (d + b) = 0 by omega, show min ln (max d (d + b)) - d = b by omega]) (fun x hx => by rw [bg_up_ne hx, cp_A hx, bg_up_ne hx]) ?_
                 rw [up_F]
                 exact book_0 (hS6.book (a := 3) (by decide)) (by decide) (by rw [fup_ne (by decide)]; exact R17))
              | (refine fn (sBook (sBook (sBed Z.1 h.toNat (cutL (sq Z.1 h) d b)) 3 (ln - d)) 4 0) _ (by rw [show d - min d (d + b) = 0 by omega, show min ln (max d (d + b)) - d = ln - d by omega]) (fun x hx => by rw [bg_up_ne hx, cp_A hx, bg_up_ne hx]) ?_
                 rw [up_F]
                 exact book_0 (hS6.book (a := 3) (by decide)) (by decide) (by rw [fup_ne (by decide)]; exact R17))
              | (refine fn (sBook (sBook (sBed Z.1 h.toNat (cutL (sq Z.1 h) d b)) 3 0) 4 (-b)) _ (by rw [show d - min d (d + b) = -b by omega, show min ln (max d (d + b)) - d = 0 by omega]) (fun x hx => by rw [bg_up_ne hx, cp_A hx, bg_up_ne hx]) ?_
                 rw [up_F]
                 exact (book_0 hS6 (a := 3) (by decide) R16).book (a := 4) (by decide)))
        · refine bg_iload5 (pc := 193) X1 dX7_cut_193 ?_
          refine bg_goto (pc := 195) X1 (tgt := 200) dX7_cut_195 (by decide) ?_
          refine bo_V2v (pc := 200) X1 (c_X7_comes (by omega)) vX7_comes lX7_96 rfl (by first | assumption | rfl) (by decide) dX7_cut_200 (by exact Nat.le_of_ble_eq_true rfl) ?_
          rintro _ h8
          obtain rfl := h8.symm
          clear h8
          refine bg_aload0 (pc := 203) X1 dX7_cut_203 ?_
          refine bo_getI (pc := 204) X1 dX7_cut_204 fX7_104 (by first | assumption | rfl) rfl ?_
          exact bo_iret (pc := 207) X rfl dX7_cut_207 (fun hi => by
              rw [up_a (by decide), cp_a (by decide), up_a (by decide), e9]
              have fn : ∀ (T : bm_S) (g6 : bg_E), T = sBook (sBook (sBed Z.1 h.toNat (cutL (sq Z.1 h) d b)) 3 (min ln (max d (d + b)) - d)) 4 (d - min d (d + b)) → (∀ x, ¬ x = 199 → g6 x = g5 x) → rowR (g6 199) T → (c : Int) = (xCut Z h d b).1 ∧ modR g6 (xCut Z h d b).2 ∧ frR 198 214 g g6 := by
                intro T g6 hT h1 h2
                unfold xCut
                rw [if_pos (by rw [eq9, ← hln]; exact C), if_pos (show (cutL (qH Z h) d b).length ≤ 24 from hc ▸ hc24), eq9, ← hln]
                exact ⟨by rw [hc], PUT _ _ h1 (hT ▸ h2)⟩
              first
              | (exfalso; omega)
              | (refine fn (sBook (sBook (sBed Z.1 h.toNat (cutL (sq Z.1 h) d b)) 3 b) 4 0) _ (by rw [show d - min d (d + b) = 0 by omega, show min ln (max d (d + b)) - d = b by omega]) (fun x hx => by rw [bg_up_ne hx, cp_A hx, bg_up_ne hx]) ?_
                 rw [up_F]
                 exact book_0 (hS6.book (a := 3) (by decide)) (by decide) (by rw [fup_ne (by decide)]; exact R17))
              | (refine fn (sBook (sBook (sBed Z.1 h.toNat (cutL (sq Z.1 h) d b)) 3 (ln - d)) 4 0) _ (by rw [show d - min d (d + b) = 0 by omega, show min ln (max d (d + b)) - d = ln - d by omega]) (fun x hx => by rw [bg_up_ne hx, cp_A hx, bg_up_ne hx]) ?_
                 rw [up_F]
                 exact book_0 (hS6.book (a := 3) (by decide)) (by decide) (by rw [fup_ne (by decide)]; exact R17))
              | (refine fn (sBook (sBook (sBed Z.1 h.toNat (cutL (sq Z.1 h) d b)) 3 0) 4 (-b)) _ (by rw [show d - min d (d + b) = -b by omega, show min ln (max d (d + b)) - d = 0 by omega]) (fun x hx => by rw [bg_up_ne hx, cp_A hx, bg_up_ne hx]) ?_
                 rw [up_F]
                 exact (book_0 hS6 (a := 3) (by decide) R16).book (a := 4) (by decide)))
      · refine bg_iconst (pc := 184) X1 dX7_cut_184 (by decide) ?_
        refine bg_goto (pc := 185) X1 (tgt := 189) dX7_cut_185 (by decide) ?_
        refine bg_iload3 (pc := 189) X1 dX7_cut_189 ?_
        refine bg_if_le (pc := 190) X1 (tgt := 198) dX7_cut_190 (by decide) (fun u190 => ?_) (fun u190 => ?_)
        · refine bg_iload3 (pc := 198) X1 dX7_cut_198 ?_
          refine bg_ineg (pc := 199) X1 dX7_cut_199 (by omega) ?_
          refine bo_V2v (pc := 200) X1 (c_X7_comes (by omega)) vX7_comes lX7_96 rfl (by first | assumption | rfl) (by decide) dX7_cut_200 (by exact Nat.le_of_ble_eq_true rfl) ?_
          rintro _ h8
          obtain rfl := h8.symm
          clear h8
          refine bg_aload0 (pc := 203) X1 dX7_cut_203 ?_
          refine bo_getI (pc := 204) X1 dX7_cut_204 fX7_104 (by first | assumption | rfl) rfl ?_
          exact bo_iret (pc := 207) X rfl dX7_cut_207 (fun hi => by
              rw [up_a (by decide), cp_a (by decide), up_a (by decide), e9]
              have fn : ∀ (T : bm_S) (g6 : bg_E), T = sBook (sBook (sBed Z.1 h.toNat (cutL (sq Z.1 h) d b)) 3 (min ln (max d (d + b)) - d)) 4 (d - min d (d + b)) → (∀ x, ¬ x = 199 → g6 x = g5 x) → rowR (g6 199) T → (c : Int) = (xCut Z h d b).1 ∧ modR g6 (xCut Z h d b).2 ∧ frR 198 214 g g6 := by
                intro T g6 hT h1 h2
                unfold xCut
                rw [if_pos (by rw [eq9, ← hln]; exact C), if_pos (show (cutL (qH Z h) d b).length ≤ 24 from hc ▸ hc24), eq9, ← hln]
                exact ⟨by rw [hc], PUT _ _ h1 (hT ▸ h2)⟩
              first
              | (exfalso; omega)
              | (refine fn (sBook (sBook (sBed Z.1 h.toNat (cutL (sq Z.1 h) d b)) 3 b) 4 0) _ (by rw [show d - min d (d + b) = 0 by omega, show min ln (max d (d + b)) - d = b by omega]) (fun x hx => by rw [bg_up_ne hx, cp_A hx, bg_up_ne hx]) ?_
                 rw [up_F]
                 exact book_0 (hS6.book (a := 3) (by decide)) (by decide) (by rw [fup_ne (by decide)]; exact R17))
              | (refine fn (sBook (sBook (sBed Z.1 h.toNat (cutL (sq Z.1 h) d b)) 3 (ln - d)) 4 0) _ (by rw [show d - min d (d + b) = 0 by omega, show min ln (max d (d + b)) - d = ln - d by omega]) (fun x hx => by rw [bg_up_ne hx, cp_A hx, bg_up_ne hx]) ?_
                 rw [up_F]
                 exact book_0 (hS6.book (a := 3) (by decide)) (by decide) (by rw [fup_ne (by decide)]; exact R17))
              | (refine fn (sBook (sBook (sBed Z.1 h.toNat (cutL (sq Z.1 h) d b)) 3 0) 4 (-b)) _ (by rw [show d - min d (d + b) = -b by omega, show min ln (max d (d + b)) - d = 0 by omega]) (fun x hx => by rw [bg_up_ne hx, cp_A hx, bg_up_ne hx]) ?_
                 rw [up_F]
                 exact (book_0 hS6 (a := 3) (by decide) R16).book (a := 4) (by decide)))
        · refine bg_iload5 (pc := 193) X1 dX7_cut_193 ?_
          refine bg_goto (pc := 195) X1 (tgt := 200) dX7_cut_195 (by decide) ?_
          refine bo_V2v (pc := 200) X1 (c_X7_comes (by omega)) vX7_comes lX7_96 rfl (by first | assumption | rfl) (by decide) dX7_cut_200 (by exact Nat.le_of_ble_eq_true rfl) ?_
          rintro _ h8
          obtain rfl := h8.symm
          clear h8
          refine bg_aload0 (pc := 203) X1 dX7_cut_203 ?_
          refine bo_getI (pc := 204) X1 dX7_cut_204 fX7_104 (by first | assumption | rfl) rfl ?_
          exact bo_iret (pc := 207) X rfl dX7_cut_207 (fun hi => by
              rw [up_a (by decide), cp_a (by decide), up_a (by decide), e9]
              have fn : ∀ (T : bm_S) (g6 : bg_E), T = sBook (sBook (sBed Z.1 h.toNat (cutL (sq Z.1 h) d b)) 3 (min ln (max d (d + b)) - d)) 4 (d - min d (d + b)) → (∀ x, ¬ x = 199 → g6 x = g5 x) → rowR (g6 199) T → (c : Int) = (xCut Z h d b).1 ∧ modR g6 (xCut Z h d b).2 ∧ frR 198 214 g g6 := by
                intro T g6 hT h1 h2
                unfold xCut
                rw [if_pos (by rw [eq9, ← hln]; exact C), if_pos (show (cutL (qH Z h) d b).length ≤ 24 from hc ▸ hc24), eq9, ← hln]
                exact ⟨by rw [hc], PUT _ _ h1 (hT ▸ h2)⟩
              first
              | (exfalso; omega)
              | (refine fn (sBook (sBook (sBed Z.1 h.toNat (cutL (sq Z.1 h) d b)) 3 b) 4 0) _ (by rw [show d - min d (d + b) = 0 by omega, show min ln (max d (d + b)) - d = b by omega]) (fun x hx => by rw [bg_up_ne hx, cp_A hx, bg_up_ne hx]) ?_
                 rw [up_F]
                 exact book_0 (hS6.book (a := 3) (by decide)) (by decide) (by rw [fup_ne (by decide)]; exact R17))
              | (refine fn (sBook (sBook (sBed Z.1 h.toNat (cutL (sq Z.1 h) d b)) 3 (ln - d)) 4 0) _ (by rw [show d - min d (d + b) = 0 by omega, show min ln (max d (d + b)) - d = ln - d by omega]) (fun x hx => by rw [bg_up_ne hx, cp_A hx, bg_up_ne hx]) ?_
                 rw [up_F]
                 exact book_0 (hS6.book (a := 3) (by decide)) (by decide) (by rw [fup_ne (by decide)]; exact R17))
              | (refine fn (sBook (sBook (sBed Z.1 h.toNat (cutL (sq Z.1 h) d b)) 3 0) 4 (-b)) _ (by rw [show d - min d (d + b) = -b by omega, show min ln (max d (d + b)) - d = 0 by omega]) (fun x hx => by rw [bg_up_ne hx, cp_A hx, bg_up_ne hx]) ?_
                 rw [up_F]
                 exact (book_0 hS6 (a := 3) (by decide) R16).book (a := 4) (by decide)))
  have loop : ∀ (g5 : bg_E) (c n k : Nat), isHo h → g5 198 9 = (c : Int) → c ≤ 24 → k + n = 2 * c → (∀ k : Int, bg_g κ y 161 [some (.inr 198), some (.inl h), some (.inl d), some (.inl b), some (.inl ln), some (.inl k)] [] (cp (bg_up g5 199 (10 + h).toNat (c : Int)) 199 (18 + 48 * h.toNat) 204 0 (2 * c))) → bg_g κ y 124 [some (.inr 198), some (.inl h), some (.inl d), some (.inl b), some (.inl ln), some (.inl (k : Int))] [] (cp (bg_up g5 199 (10 + h).toNat (c : Int)) 199 (18 + 48 * h.toNat) 204 0 k) := by
    intro g5 c n
    induction n with
    | zero =>
      intro k hh e9 hc24 hk kk
      obtain rfl : k = 2 * c := by omega
      refine bg_iload5 (pc := 124) X1 dX7_cut_124 ?_
      refine bg_iconst (pc := 126) X1 dX7_cut_126 (by decide) ?_
      refine bg_aload0 (pc := 127) X1 dX7_cut_127 ?_
      refine bo_getI (pc := 128) X1 dX7_cut_128 fX7_104 (by first | assumption | rfl) rfl ?_
      rw [cp_a (by decide), up_a (by decide), e9]
      refine bg_imul (pc := 131) X1 dX7_cut_131 (by omega) ?_
      refine bg_icmp_ge (pc := 132) X1 (tgt := 161) dX7_cut_132 (by decide) (fun u132 => ?_) (fun u132 => ?_)
      · exact kk _
      · exfalso; omega
    | succ n ih =>
      intro k hh e9 hc24 hk kk
      refine bg_iload5 (pc := 124) X1 dX7_cut_124 ?_
      refine bg_iconst (pc := 126) X1 dX7_cut_126 (by decide) ?_
      refine bg_aload0 (pc := 127) X1 dX7_cut_127 ?_
      refine bo_getI (pc := 128) X1 dX7_cut_128 fX7_104 (by first | assumption | rfl) rfl ?_
      rw [cp_a (by decide), up_a (by decide), e9]
      refine bg_imul (pc := 131) X1 dX7_cut_131 (by omega) ?_
      refine bg_icmp_ge (pc := 132) X1 (tgt := 161) dX7_cut_132 (by decide) (fun u132 => ?_) (fun u132 => ?_)
      · exfalso; omega
      · refine bg_aload0 (pc := 135) X1 dX7_cut_135 ?_
        refine bo_getR (pc := 136) X1 dX7_cut_136 fX7_7 (by first | assumption | rfl) rfl (by first | assumption | rfl) ?_
        refine bg_iload1 (pc := 139) X1 dX7_cut_139 ?_
        refine bg_iconst (pc := 140) X1 dX7_cut_140 (by decide) ?_
        refine bo_S2i (pc := 141) X1 (c_X7_at hh (by omega)) sX7_at lX7_67 rfl (by decide) dX7_cut_141 (by exact Nat.le_of_ble_eq_true rfl) ?_
        rintro _ _ ⟨h9, h8⟩
        obtain rfl := h9.symm
        obtain rfl := h8.symm
        clear h9 h8
        refine bg_iload5 (pc := 144) X1 dX7_cut_144 ?_
        refine bg_iadd (pc := 146) X1 dX7_cut_146 (by omega) ?_
        refine bg_aload0 (pc := 147) X1 dX7_cut_147 ?_
        refine bo_getR (pc := 148) X1 dX7_cut_148 fX7_25 (by first | assumption | rfl) rfl (by first | assumption | rfl) ?_
        refine bg_iload5 (pc := 151) X1 dX7_cut_151 ?_
        refine bo_iaload (pc := 153) X1 dX7_cut_153 (by first | assumption | rfl) (by omega) ?_
        refine bo_iastore (pc := 154) X1 dX7_cut_154 (by first | assumption | rfl) (by omega) ?_
        refine bg_iinc5 (pc := 155) X1 dX7_cut_155 (by omega) ?_
        refine bg_goto (pc := 158) X1 (tgt := 124) dX7_cut_158 (by decide) ?_
        rw [cp_s (Or.inl (by decide)) (by omega) (by omega)]
        exact ih (k + 1) hh e9 hc24 (by omega) kk
  have tail : ∀ (g4 : bg_E) (l5 : Option bg_V), isHo h ∧ 1 ≤ d ∧ d ≤ ln - 1 ∧ ¬ b = 0 ∧ -d ≤ b ∧ b ≤ 9999 → ln ≤ 2376 → cutR g4 (cutL (sq Z.1 h) d b) → mres g g4 → bg_g κ y 92 [some (.inr 198), some (.inl h), some (.inl d), some (.inl b), some (.inl ln), l5] [] g4 := by
    intro g4 l5 C hln2 hC hF
    have hM4 := hM.cg hF
    obtain ⟨c, hc⟩ : ∃ c, c = (cutL (sq Z.1 h) d b).length := ⟨_, rfl⟩
    have c9 : g4 198 9 = (c : Int) := by rw [hc]; exact hC.1
    have hh := C.1
    refine bg_aload0 (pc := 92) X1 dX7_cut_92 ?_
    refine bo_getI (pc := 93) X1 dX7_cut_93 fX7_104 (by first | assumption | rfl) rfl ?_
    rw [c9]
    refine bg_bipush (pc := 96) X1 dX7_cut_96 rfl (by decide) ?_
    refine bg_icmp_le (pc := 98) X1 (tgt := 104) dX7_cut_98 (by decide) (fun u98 => ?_) (fun u98 => ?_)
    · refine bg_aload0 (pc := 104) X1 dX7_cut_104 ?_
      refine bo_V0v (pc := 105) X1 (c_X7_saves hM4 ok) vX7_saves lX7_77 rfl (by first | assumption | rfl) (by decide) dX7_cut_105 (by exact Nat.le_of_ble_eq_true rfl) ?_
      rintro g5 ⟨x1, x2⟩
      have e9 : g5 198 9 = (c : Int) := by rw [x2 198 9 (by decide) (by decide)]; exact c9
      refine bg_aload0 (pc := 108) X1 dX7_cut_108 ?_
      refine bo_getR (pc := 109) X1 dX7_cut_109 fX7_7 (by first | assumption | rfl) rfl (by first | assumption | rfl) ?_
      refine bg_bipush (pc := 112) X1 dX7_cut_112 rfl (by decide) ?_
      refine bg_iload1 (pc := 114) X1 dX7_cut_114 ?_
      refine bg_iadd (pc := 115) X1 dX7_cut_115 (by omega) ?_
      refine bg_aload0 (pc := 116) X1 dX7_cut_116 ?_
      refine bo_getI (pc := 117) X1 dX7_cut_117 fX7_104 (by first | assumption | rfl) rfl ?_
      rw [e9]
      refine bo_iastore (pc := 120) X1 dX7_cut_120 (by first | assumption | rfl) (by omega) ?_
      refine bg_iconst (pc := 121) X1 dX7_cut_121 (by decide) ?_
      refine bg_istore5 (pc := 122) X1 dX7_cut_122 ?_
      have := loop g5 c (2 * c) 0 hh e9 (by omega) (by omega) (fun k => fin g4 g5 c k C hln2 hC hF x1 x2 hc (by omega))
      rw [cp_0] at this
      exact this
    · refine bg_ldc (pc := 101) X1 dX7_cut_101 kX7_91 (by decide) ?_
      exact bo_iret (pc := 103) X rfl dX7_cut_103 (fun hi => by unfold xCut; rw [if_pos (by rw [eq9, ← hln]; exact C), if_neg (show ¬ (cutL (sq Z.1 h) d b).length ≤ 24 by omega)]; exact ⟨rfl, hM4, hF.F⟩)
  have t74p : ∀ g1 : bg_E, isHo h ∧ 1 ≤ d ∧ d ≤ ln - 1 ∧ ¬ b = 0 ∧ -d ≤ b ∧ b ≤ 9999 → ln ≤ 2376 → 0 < b → cutR g1 ([] ++ prt (sq Z.1 h) 0 d (sq Z.1 h).length) → mres g g1 → bg_g κ y 74 [some (.inr 198), some (.inl h), some (.inl d), some (.inl b), some (.inl ln), none] [] g1 := by
    intro g1 C hln2 hb x1 F1
    have hS1 : rowR (g1 199) Z.1 := by rw [F1.at (by decide)]; exact hM.1
    have p1 := prt_le (sq Z.1 h) 0 d (sq Z.1 h).length
    have ql := (sq_OK ok.1 C.1).2
    refine bg_aload0 (pc := 74) X1 dX7_cut_74 ?_
    refine bg_iload1 (pc := 75) X1 dX7_cut_75 ?_
    refine bg_iload3 (pc := 76) X1 dX7_cut_76 ?_
    refine bg_if_le (pc := 77) X1 (tgt := 86) dX7_cut_77 (by decide) (fun u77 => ?_) (fun u77 => ?_)
    · exfalso; omega
    · refine bg_iload2 (pc := 80) X1 dX7_cut_80 ?_
      refine bg_iload3 (pc := 81) X1 dX7_cut_81 ?_
      refine bg_iadd (pc := 82) X1 dX7_cut_82 (by omega) ?_
      refine bg_goto (pc := 83) X1 (tgt := 87) dX7_cut_83 (by decide) ?_
      refine bg_iload4 (pc := 87) X1 dX7_cut_87 ?_
      refine bo_V3v (pc := 89) X1 (c_X7_takes hS1 ok.1 C.1 x1 (by rw [List.nil_append]; omega) (by omega) (by omega)) vX7_takes lX7_113 rfl (by first | assumption | rfl) (by decide) dX7_cut_89 (by exact Nat.le_of_ble_eq_true rfl) ?_
      rintro g2 ⟨x3, x4⟩
      exact tail g2 _ C hln2 (by rw [cutL_p hb, ← hln]; exact x3) (F1.tr x4)
  have t74n : ∀ g2 : bg_E, isHo h ∧ 1 ≤ d ∧ d ≤ ln - 1 ∧ ¬ b = 0 ∧ -d ≤ b ∧ b ≤ 9999 → ln ≤ 2376 → b < 0 → cutR g2 ([] ++ prt (sq Z.1 h) 0 d (sq Z.1 h).length ++ prt (sq Z.1 h) (d + b) d (sq Z.1 h).length) → mres g g2 → bg_g κ y 74 [some (.inr 198), some (.inl h), some (.inl d), some (.inl b), some (.inl ln), none] [] g2 := by
    intro g2 C hln2 hb x3 F2
    have hS2 : rowR (g2 199) Z.1 := by rw [F2.at (by decide)]; exact hM.1
    have p1 := prt_le (sq Z.1 h) 0 d (sq Z.1 h).length
    have p2 := prt_le (sq Z.1 h) (d + b) d (sq Z.1 h).length
    have ql := (sq_OK ok.1 C.1).2
    refine bg_aload0 (pc := 74) X1 dX7_cut_74 ?_
    refine bg_iload1 (pc := 75) X1 dX7_cut_75 ?_
    refine bg_iload3 (pc := 76) X1 dX7_cut_76 ?_
    refine bg_if_le (pc := 77) X1 (tgt := 86) dX7_cut_77 (by decide) (fun u77 => ?_) (fun u77 => ?_)
    · refine bg_iload2 (pc := 86) X1 dX7_cut_86 ?_
      refine bg_iload4 (pc := 87) X1 dX7_cut_87 ?_
      refine bo_V3v (pc := 89) X1 (c_X7_takes hS2 ok.1 C.1 x3 (by rw [List.nil_append, List.length_append]; omega) (by omega) (by omega)) vX7_takes lX7_113 rfl (by first | assumption | rfl) (by decide) dX7_cut_89 (by exact Nat.le_of_ble_eq_true rfl) ?_
      rintro g3 ⟨x5, x6⟩
      exact tail g3 _ C hln2 (by rw [cutL_n hb (by rw [← hln]; omega), ← hln]; exact x5) (F2.tr x6)
    · exfalso; omega
  refine bg_iload1 (pc := 0) X1 dX7_cut_0 ?_
  refine bo_S1i (pc := 1) X1 (c_X7_isHole) sX7_isHole lX7_63 rfl (by decide) dX7_cut_1 (by exact Nat.le_of_ble_eq_true rfl) ?_
  rintro _ _ ⟨h9, h8⟩
  obtain rfl := h9.symm
  obtain rfl := h8.symm
  clear h9 h8
  refine bo_ifeq_b (pc := 4) X1 (tgt := 39) dX7_cut_4 (by decide) (fun u4 => ?_) (fun u4 => ?_)
  · refine bg_ldc (pc := 39) X1 dX7_cut_39 kX7_87 (by decide) ?_
    exact bo_iret (pc := 41) X rfl dX7_cut_41 (fun hi => by unfold xCut; rw [eq9, ← hln, if_neg (by omega)]; exact ⟨rfl, hM, frR.rf⟩)
  · have hl2 := sq_dep ok.1 u4 (Nat.le_refl _)
    rw [← hln] at hl2
    refine bg_iload2 (pc := 7) X1 dX7_cut_7 ?_
    refine bg_iconst (pc := 8) X1 dX7_cut_8 (by decide) ?_
    refine bg_aload0 (pc := 9) X1 dX7_cut_9 ?_
    refine bg_iload1 (pc := 10) X1 dX7_cut_10 ?_
    refine bo_V1i (pc := 11) X1 (c_X7_length hM.1 ok.1 u4) vX7_length lX7_110 rfl (by first | assumption | rfl) (by decide) dX7_cut_11 (by exact Nat.le_of_ble_eq_true rfl) ?_
    rintro _ _ ⟨h9, h8⟩
    obtain rfl := h9.symm
    obtain rfl := h8.symm
    clear h9 h8
    rw [← hln]
    refine bg_iconst (pc := 14) X1 dX7_cut_14 (by decide) ?_
    refine bg_isub (pc := 15) X1 dX7_cut_15 (by omega) ?_
    refine bo_S3i (pc := 16) X1 (c_X7_in) sX7_in lX7_59 rfl (by decide) dX7_cut_16 (by exact Nat.le_of_ble_eq_true rfl) ?_
    rintro _ _ ⟨h9, h8⟩
    obtain rfl := h9.symm
    obtain rfl := h8.symm
    clear h9 h8
    refine bo_ifeq_b (pc := 19) X1 (tgt := 39) dX7_cut_19 (by decide) (fun u19 => ?_) (fun u19 => ?_)
    · refine bg_ldc (pc := 39) X1 dX7_cut_39 kX7_87 (by decide) ?_
      exact bo_iret (pc := 41) X rfl dX7_cut_41 (fun hi => by unfold xCut; rw [eq9, ← hln, if_neg (by omega)]; exact ⟨rfl, hM, frR.rf⟩)
    · refine bg_iload3 (pc := 22) X1 dX7_cut_22 ?_
      refine bg_if_eq (pc := 23) X1 (tgt := 39) dX7_cut_23 (by decide) (fun u23 => ?_) (fun u23 => ?_)
      · refine bg_ldc (pc := 39) X1 dX7_cut_39 kX7_87 (by decide) ?_
        exact bo_iret (pc := 41) X rfl dX7_cut_41 (fun hi => by unfold xCut; rw [eq9, ← hln, if_neg (by omega)]; exact ⟨rfl, hM, frR.rf⟩)
      · refine bg_iload3 (pc := 26) X1 dX7_cut_26 ?_
        refine bg_sipush (pc := 27) X1 dX7_cut_27 rfl (by decide) ?_
        refine bg_icmp_gt (pc := 30) X1 (tgt := 39) dX7_cut_30 (by decide) (fun u30 => ?_) (fun u30 => ?_)
        · refine bg_ldc (pc := 39) X1 dX7_cut_39 kX7_87 (by decide) ?_
          exact bo_iret (pc := 41) X rfl dX7_cut_41 (fun hi => by unfold xCut; rw [eq9, ← hln, if_neg (by omega)]; exact ⟨rfl, hM, frR.rf⟩)
        · refine bg_iload3 (pc := 33) X1 dX7_cut_33 ?_
          refine bg_iload2 (pc := 34) X1 dX7_cut_34 ?_
          refine bg_ineg (pc := 35) X1 dX7_cut_35 (by omega) ?_
          refine bg_icmp_ge (pc := 36) X1 (tgt := 42) dX7_cut_36 (by decide) (fun u36 => ?_) (fun u36 => ?_)
          · refine bg_aload0 (pc := 42) X1 dX7_cut_42 ?_
            refine bg_iload1 (pc := 43) X1 dX7_cut_43 ?_
            refine bo_V1i (pc := 44) X1 (c_X7_length hM.1 ok.1 u4) vX7_length lX7_110 rfl (by first | assumption | rfl) (by decide) dX7_cut_44 (by exact Nat.le_of_ble_eq_true rfl) ?_
            rintro _ _ ⟨h9, h8⟩
            obtain rfl := h9.symm
            obtain rfl := h8.symm
            clear h9 h8
            rw [← hln]
            have C : isHo h ∧ 1 ≤ d ∧ d ≤ ln - 1 ∧ ¬ b = 0 ∧ -d ≤ b ∧ b ≤ 9999 := by omega
            have ql := (sq_OK ok.1 u4).2
            refine bg_istore4 (pc := 47) X1 dX7_cut_47 ?_
            refine bg_aload0 (pc := 49) X1 dX7_cut_49 ?_
            refine bg_iconst (pc := 50) X1 dX7_cut_50 (by decide) ?_
            refine bo_putI (pc := 51) X1 dX7_cut_51 fX7_104 (by first | assumption | rfl) rfl ?_
            have F0 : mres g (bg_up g 198 9 0) := mres.rf.up (by omega)
            have C0 : cutR (bg_up g 198 9 0) [] := ⟨by rw [up_eq]; rfl, fun k hk => absurd hk (Nat.not_lt_zero _)⟩
            have hS0 : rowR ((bg_up g 198 9 0) 199) Z.1 := by rw [bg_up_ne (by decide)]; exact hM.1
            refine bg_aload0 (pc := 54) X1 dX7_cut_54 ?_
            refine bg_iload1 (pc := 55) X1 dX7_cut_55 ?_
            refine bg_iconst (pc := 56) X1 dX7_cut_56 (by decide) ?_
            refine bg_iload2 (pc := 57) X1 dX7_cut_57 ?_
            refine bo_V3v (pc := 58) X1 (c_X7_takes hS0 ok.1 u4 C0 (Nat.zero_le _) (by omega) (by omega)) vX7_takes lX7_113 rfl (by first | assumption | rfl) (by decide) dX7_cut_58 (by exact Nat.le_of_ble_eq_true rfl) ?_
            rintro g1 ⟨x1, x2⟩
            have F1 := F0.tr x2
            have hS1 : rowR (g1 199) Z.1 := by rw [F1.at (by decide)]; exact hM.1
            have p1 := prt_le (sq Z.1 h) 0 d (sq Z.1 h).length
            refine bg_iload3 (pc := 61) X1 dX7_cut_61 ?_
            refine bg_if_ge (pc := 62) X1 (tgt := 74) dX7_cut_62 (by decide) (fun u62 => ?_) (fun u62 => ?_)
            · first
              | exact t74n g2 C (by omega) (by omega) x3 (F1.tr x4)
              | exact t74p g1 C (by omega) (by omega) x1 F1
            · refine bg_aload0 (pc := 65) X1 dX7_cut_65 ?_
              refine bg_iload1 (pc := 66) X1 dX7_cut_66 ?_
              refine bg_iload2 (pc := 67) X1 dX7_cut_67 ?_
              refine bg_iload3 (pc := 68) X1 dX7_cut_68 ?_
              refine bg_iadd (pc := 69) X1 dX7_cut_69 (by omega) ?_
              refine bg_iload2 (pc := 70) X1 dX7_cut_70 ?_
              refine bo_V3v (pc := 71) X1 (c_X7_takes hS1 ok.1 u4 x1 (by rw [List.nil_append]; omega) (by omega) (by omega)) vX7_takes lX7_113 rfl (by first | assumption | rfl) (by decide) dX7_cut_71 (by exact Nat.le_of_ble_eq_true rfl) ?_
              rintro g2 ⟨x3, x4⟩
              first
              | exact t74n g2 C (by omega) (by omega) x3 (F1.tr x4)
              | exact t74p g1 C (by omega) (by omega) x1 F1
          · refine bg_ldc (pc := 39) X1 dX7_cut_39 kX7_87 (by decide) ?_
            exact bo_iret (pc := 41) X rfl dX7_cut_41 (fun hi => by unfold xCut; rw [eq9, ← hln, if_neg (by omega)]; exact ⟨rfl, hM, frR.rf⟩)
