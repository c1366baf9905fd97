/-! the matching in the machine -/
def arrR (g : bg_E) (q : Nat) (w : bm_W) : Prop := ∀ k : Nat, k < 24 → g (q + 10) k = w.2.2.1 k ∧ g (q + 11) k = w.2.2.2.1 k ∧ g (q + 12) k = nn (w.2.2.2.2.1 k) ∧ g (q + 13) k = nn (w.2.2.2.2.2 k)
def matR (g : bg_E) (q : Nat) (P : bm_P) (t : Int) : Prop := paiR g q P ∧ arrR g q (wE P) ∧ g q 5 = t ∧ colE g q
theorem arrR.fr {g g' : bg_E} {q lo hi : Nat} {w : bm_W} (h : arrR g q w) (hf : frR lo hi g g') (hx : q + 13 < lo ∨ hi ≤ q + 10) : arrR g' q w := by
  intro k hk
  rw [hf (q + 10) (by omega), hf (q + 11) (by omega), hf (q + 12) (by omega), hf (q + 13) (by omega)]
  exact h k hk
theorem c_X2_leastCost {y : bg_Y} {g : bg_E} {q : Nat} {a c w : Int} {S : bm_S} (hq : bg_mat q) (hq2 : 16 < q) (hS : staR g 1 S) (hok : staOK S) (ha : isHo a) (hc : isHo c) (hT : tabOK g q) : bg_Si y 5 mX2_leastCost [.inr q, .inr 1, .inl a, .inl c, .inl w] g (fun r g' => r = bw (mkP S a.toNat c.toNat) 0 0 ∧ tabOK g' q ∧ frR (q + 1) (q + 10) g g') := by
  obtain ⟨s1, s2, s3, s4, s5, s6, s7, s8, s9, s10, s11, s12, s13, s14, s15, s16, s17, s18, s19⟩ := id hq
  have hP := mkP_ok hok (a := a.toNat) (b := c.toNat) (by omega) (by omega)
  refine bg_enter pnX2 (Nat.le_of_ble_eq_true rfl) (fun κ X hR hg => ?_)
  have X1 : bg_X κ y cX2_leastCost RX2 5 0 0 := X.1
  have hg : ∀ a k, R32 (g a k) := hg
  show bg_g κ y 0 [some (.inr q), some (.inr 1), some (.inl a), some (.inl c), some (.inl w)] [] g
  refine bg_aload0 (pc := 0) X1 dX2_leastCost_0 ?_
  refine bo_getR (pc := 1) X1 dX2_leastCost_1 fX2_12 (by first | assumption | rfl) rfl (by first | assumption | rfl) ?_
  refine bg_aload1 (pc := 4) X1 dX2_leastCost_4 ?_
  refine bg_iload2 (pc := 5) X1 dX2_leastCost_5 ?_
  refine bg_iload3 (pc := 6) X1 dX2_leastCost_6 ?_
  refine bo_V3v (pc := 7) X1 (c_X3_take hq hq2 hS hok ha hc) vX3_take lX2_35 rfl (by first | assumption | rfl) (by decide) dX2_leastCost_7 (by exact Nat.le_of_ble_eq_true rfl) ?_
  rintro g1 ⟨x1, x2, xE⟩
  have hT1 : tabOK g1 q := fun k hk => by rw [x2 (q + 9) (by omega)]; exact hT k hk
  refine bg_iload4 (pc := 10) X1 dX2_leastCost_10 ?_
  refine bg_iconst (pc := 12) X1 dX2_leastCost_12 (by decide) ?_
  refine bg_icmp_ne (pc := 13) X1 (tgt := 26) dX2_leastCost_13 (by decide) (fun u13 => ?_) (fun u13 => ?_)
  · refine bg_aload0 (pc := 26) X1 dX2_leastCost_26 ?_
    refine bo_getR (pc := 27) X1 dX2_leastCost_27 fX2_12 (by first | assumption | rfl) rfl (by first | assumption | rfl) ?_
    refine bo_V0i (pc := 30) X1 (c_X3_costFromBottom hq x1 hP hT1) vX3_costFromBottom lX2_43 rfl (by first | assumption | rfl) (by decide) dX2_leastCost_30 (by exact Nat.le_of_ble_eq_true rfl) ?_
    rintro r20 g2 ⟨x3, x4, -, x5⟩
    have x6 : frR (q + 1) (q + 10) g g2 := (x2.wide (by omega) (by omega)).tr (x5.wide (by omega) (by omega))
    exact bo_iret (pc := 33) X rfl dX2_leastCost_33 (fun hi => ⟨x3, x4, x6⟩)
  · refine bg_aload0 (pc := 16) X1 dX2_leastCost_16 ?_
    refine bo_getR (pc := 17) X1 dX2_leastCost_17 fX2_12 (by first | assumption | rfl) rfl (by first | assumption | rfl) ?_
    refine bo_V0i (pc := 20) X1 (c_X3_costFromTop hq x1 hP) vX3_costFromTop lX2_39 rfl (by first | assumption | rfl) (by decide) dX2_leastCost_20 (by exact Nat.le_of_ble_eq_true rfl) ?_
    rintro r20 g2 ⟨x3, x4, x5⟩
    have x6 : frR (q + 1) (q + 10) g g2 := (x2.wide (by omega) (by omega)).tr (x5.wide (by omega) (by omega))
    refine bg_goto (pc := 23) X1 (tgt := 33) dX2_leastCost_23 (by decide) ?_
    exact bo_iret (pc := 33) X rfl dX2_leastCost_33 (fun hi => ⟨x3, x4, x6⟩)
theorem c_X2_settleA {y : bg_Y} {g : bg_E} {q : Nat} {b v p : Int} (hq : bg_mat q) (hb : 0 ≤ b ∧ b < 24) : bg_Sv y 0 mX2_settleA [.inr q, .inl b, .inl v, .inl p] g (fun g' => g' = bg_up (bg_up g (q + 10) b.toNat v) (q + 12) b.toNat p) := by
  obtain ⟨s1, s2, s3, s4, s5, s6, s7, s8, s9, s10, s11, s12, s13, s14, s15, s16, s17, s18, s19⟩ := id hq
  refine bg_enter pnX2 (Nat.le_of_ble_eq_true rfl) (fun κ X hR hg => ?_)
  have X1 : bg_X κ y cX2_settleA RX2 0 0 0 := X.1
  have hg : ∀ a k, R32 (g a k) := hg
  show bg_g κ y 0 [some (.inr q), some (.inl b), some (.inl v), some (.inl p)] [] g
  refine bg_iload1 (pc := 0) X1 dX2_settleA_0 ?_
  refine bg_if_lt (pc := 1) X1 (tgt := 24) dX2_settleA_1 (by decide) (fun u1 => ?_) (fun u1 => ?_)
  · exfalso; omega
  · refine bg_iload1 (pc := 4) X1 dX2_settleA_4 ?_
    refine bg_bipush (pc := 5) X1 dX2_settleA_5 rfl (by decide) ?_
    refine bg_icmp_ge (pc := 7) X1 (tgt := 24) dX2_settleA_7 (by decide) (fun u7 => ?_) (fun u7 => ?_)
    · exfalso; omega
    · refine bg_aload0 (pc := 10) X1 dX2_settleA_10 ?_
      refine bo_getR (pc := 11) X1 dX2_settleA_11 fX2_18 (by first | assumption | rfl) rfl (by first | assumption | rfl) ?_
      refine bg_iload1 (pc := 14) X1 dX2_settleA_14 ?_
      refine bg_iload2 (pc := 15) X1 dX2_settleA_15 ?_
      refine bo_iastore (pc := 16) X1 dX2_settleA_16 (by first | assumption | rfl) (by omega) ?_
      refine bg_aload0 (pc := 17) X1 dX2_settleA_17 ?_
      refine bo_getR (pc := 18) X1 dX2_settleA_18 fX2_25 (by first | assumption | rfl) rfl (by first | assumption | rfl) ?_
      refine bg_iload1 (pc := 21) X1 dX2_settleA_21 ?_
      refine bg_iload3 (pc := 22) X1 dX2_settleA_22 ?_
      refine bo_iastore (pc := 23) X1 dX2_settleA_23 (by first | assumption | rfl) (by omega) ?_
      exact bo_vret (pc := 24) X rfl dX2_settleA_24 (fun hg9 => rfl)
theorem c_X2_settleB {y : bg_Y} {g : bg_E} {q : Nat} {b v p : Int} (hq : bg_mat q) (hb : 0 ≤ b ∧ b < 24) : bg_Sv y 0 mX2_settleB [.inr q, .inl b, .inl v, .inl p] g (fun g' => g' = bg_up (bg_up g (q + 11) b.toNat v) (q + 13) b.toNat p) := by
  obtain ⟨s1, s2, s3, s4, s5, s6, s7, s8, s9, s10, s11, s12, s13, s14, s15, s16, s17, s18, s19⟩ := id hq
  refine bg_enter pnX2 (Nat.le_of_ble_eq_true rfl) (fun κ X hR hg => ?_)
  have X1 : bg_X κ y cX2_settleB RX2 0 0 0 := X.1
  have hg : ∀ a k, R32 (g a k) := hg
  show bg_g κ y 0 [some (.inr q), some (.inl b), some (.inl v), some (.inl p)] [] g
  refine bg_iload1 (pc := 0) X1 dX2_settleB_0 ?_
  refine bg_if_lt (pc := 1) X1 (tgt := 24) dX2_settleB_1 (by decide) (fun u1 => ?_) (fun u1 => ?_)
  · exfalso; omega
  · refine bg_iload1 (pc := 4) X1 dX2_settleB_4 ?_
    refine bg_bipush (pc := 5) X1 dX2_settleB_5 rfl (by decide) ?_
    refine bg_icmp_ge (pc := 7) X1 (tgt := 24) dX2_settleB_7 (by decide) (fun u7 => ?_) (fun u7 => ?_)
    · exfalso; omega
    · refine bg_aload0 (pc := 10) X1 dX2_settleB_10 ?_
      refine bo_getR (pc := 11) X1 dX2_settleB_11 fX2_22 (by first | assumption | rfl) rfl (by first | assumption | rfl) ?_
      refine bg_iload1 (pc := 14) X1 dX2_settleB_14 ?_
      refine bg_iload2 (pc := 15) X1 dX2_settleB_15 ?_
      refine bo_iastore (pc := 16) X1 dX2_settleB_16 (by first | assumption | rfl) (by omega) ?_
      refine bg_aload0 (pc := 17) X1 dX2_settleB_17 ?_
      refine bo_getR (pc := 18) X1 dX2_settleB_18 fX2_28 (by first | assumption | rfl) rfl (by first | assumption | rfl) ?_
      refine bg_iload1 (pc := 21) X1 dX2_settleB_21 ?_
      refine bg_iload3 (pc := 22) X1 dX2_settleB_22 ?_
      refine bo_iastore (pc := 23) X1 dX2_settleB_23 (by first | assumption | rfl) (by omega) ?_
      exact bo_vret (pc := 24) X rfl dX2_settleB_24 (fun hg9 => rfl)
theorem nn_nat (k : Nat) : nn (k : Int) = (k : Int) := by unfold nn; rw [if_neg (by omega)]
theorem nn_1 : nn (-1) = -1000009 := rfl
theorem up2A {g : bg_E} {q i : Nat} {v p : Int} {w : bm_W} (h : arrR g q w) (hi : i < 24) : arrR (bg_up (bg_up g (q + 10) i v) (q + 12) i (nn p)) q (w.1, w.2.1, fup w.2.2.1 i v, w.2.2.2.1, fup w.2.2.2.2.1 i p, w.2.2.2.2.2) := by
  intro k hk
  obtain ⟨h1, h2, h3, h4⟩ := h k hk
  rw [up_a (show q + 10 ≠ q + 12 by omega), up_a (show q + 11 ≠ q + 12 by omega), up_a (show q + 11 ≠ q + 10 by omega), up_a (show q + 13 ≠ q + 12 by omega), up_a (show q + 13 ≠ q + 10 by omega)]
  refine ⟨?_, h2, ?_, h4⟩
  · by_cases hki : k = i
    · subst hki; rw [up_eq]; exact fup_eq.symm
    · rw [up_k hki]; exact h1.trans (fup_ne hki).symm
  · by_cases hki : k = i
    · subst hki; rw [up_eq]; exact congrArg nn fup_eq.symm
    · rw [up_k hki, up_a (by omega)]; exact h3.trans (congrArg nn (fup_ne hki).symm)
theorem up2B {g : bg_E} {q i : Nat} {v p : Int} {w : bm_W} (h : arrR g q w) (hi : i < 24) : arrR (bg_up (bg_up g (q + 11) i v) (q + 13) i (nn p)) q (w.1, w.2.1, w.2.2.1, fup w.2.2.2.1 i v, w.2.2.2.2.1, fup w.2.2.2.2.2 i p) := by
  intro k hk
  obtain ⟨h1, h2, h3, h4⟩ := h k hk
  rw [up_a (show q + 10 ≠ q + 13 by omega), up_a (show q + 10 ≠ q + 11 by omega), up_a (show q + 11 ≠ q + 13 by omega), up_a (show q + 12 ≠ q + 13 by omega), up_a (show q + 12 ≠ q + 11 by omega)]
  refine ⟨h1, ?_, h3, ?_⟩
  · by_cases hki : k = i
    · subst hki; rw [up_eq]; exact fup_eq.symm
    · rw [up_k hki]; exact h2.trans (fup_ne hki).symm
  · by_cases hki : k = i
    · subst hki; rw [up_eq]; exact congrArg nn fup_eq.symm
    · rw [up_k hki, up_a (by omega)]; exact h4.trans (congrArg nn (fup_ne hki).symm)
theorem frU2 {g : bg_E} {a b lo hi i j : Nat} {v p : Int} (h1 : lo ≤ a ∧ a < hi) (h2 : lo ≤ b ∧ b < hi) : frR lo hi g (bg_up (bg_up g a i v) b j p) := (frR.rf.up h1.1 h1.2).up h2.1 h2.2
theorem c_X2_settle {y : bg_Y} {g : bg_E} {q : Nat} {P : bm_P} {w : bm_W} (hq : bg_mat q) (hP : paiR g q P) (hok : okP P) (hw : wI P w) (hA : arrR g q w) (hs : ¬ fbs P w.1 w.2.1 = 0) : bg_Sv y 3 mX2_settle [.inr q, .inl (fbs P w.1 w.2.1), .inl (w.1 : Int), .inl (w.2.1 : Int)] g (fun g' => arrR g' q (wS P w) ∧ frR (q + 10) (q + 14) g g') := by
  obtain ⟨s1, s2, s3, s4, s5, s6, s7, s8, s9, s10, s11, s12, s13, s14, s15, s16, s17, s18, s19⟩ := id hq
  obtain ⟨g1, g2, g3, g4⟩ := fbs_go (P := P) (i := w.1) (j := w.2.1)
  have na := hok.1.2
  have nb := hok.2.1.2
  have hf : 1 ≤ fbs P w.1 w.2.1 ∧ fbs P w.1 w.2.1 ≤ 4 := by
    rcases fbs_or (P := P) (i := w.1) (j := w.2.1) with ⟨h1, -⟩ | ⟨h1, -⟩
    · exact absurd h1 hs
    · exact h1
  refine bg_enter pnX2 (Nat.le_of_ble_eq_true rfl) (fun κ X hR hg => ?_)
  have X1 : bg_X κ y cX2_settle RX2 3 0 0 := X.1
  have hg : ∀ a k, R32 (g a k) := hg
  show bg_g κ y 0 [some (.inr q), some (.inl (fbs P w.1 w.2.1)), some (.inl (w.1 : Int)), some (.inl (w.2.1 : Int))] [] g
  refine bg_iload1 (pc := 0) X1 dX2_settle_0 ?_
  refine bg_tsw3 (pc := 1) X1 (t0 := 28) (t1 := 45) (t2 := 56) (td := 74) dX2_settle_1 (by decide) (by decide) (by decide) (by decide) (fun u1 => ?_) (fun u1 => ?_) (fun u1 => ?_) (fun u1 => ?_) 
  · have z1 : fbs P w.1 w.2.1 = 1 := by omega
    have z2 := g1 z1
    refine bg_aload0 (pc := 28) X1 dX2_settle_28 ?_
    refine bg_iload2 (pc := 29) X1 dX2_settle_29 ?_
    refine bg_iconst (pc := 30) X1 dX2_settle_30 (by decide) ?_
    refine bg_iload3 (pc := 31) X1 dX2_settle_31 ?_
    refine bo_V3v (pc := 32) X1 (c_X2_settleA hq (by omega)) vX2_settleA lX2_53 rfl (by first | assumption | rfl) (by decide) dX2_settle_32 (by exact Nat.le_of_ble_eq_true rfl) ?_
    rintro _ h8
    obtain rfl := h8.symm
    clear h8
    refine bg_aload0 (pc := 35) X1 dX2_settle_35 ?_
    refine bg_iload3 (pc := 36) X1 dX2_settle_36 ?_
    refine bg_iconst (pc := 37) X1 dX2_settle_37 (by decide) ?_
    refine bg_iload2 (pc := 38) X1 dX2_settle_38 ?_
    refine bo_V3v (pc := 39) X1 (c_X2_settleB hq (by omega)) vX2_settleB lX2_57 rfl (by first | assumption | rfl) (by decide) dX2_settle_39 (by exact Nat.le_of_ble_eq_true rfl) ?_
    rintro _ h8
    obtain rfl := h8.symm
    clear h8
    refine bg_goto (pc := 42) X1 (tgt := 82) dX2_settle_42 (by decide) ?_
    refine bo_vret (pc := 82) X rfl dX2_settle_82 (fun hg9 => ?_)
    unfold wS
    simp only [Int.toNat_natCast]
    first
    | (rw [if_pos z1, show ((w.2.1 : Nat) : Int) = nn ((w.2.1 : Nat) : Int) from (nn_nat _).symm, show ((w.1 : Nat) : Int) = nn ((w.1 : Nat) : Int) from (nn_nat _).symm]
       have e1 := up2A (v := 1) (p := ((w.2.1 : Nat) : Int)) hA (show w.1 < 24 by omega)
       have e2 := up2B (v := 1) (p := ((w.1 : Nat) : Int)) e1 (show w.2.1 < 24 by omega)
       simp only [nn_nat] at e2 ⊢
       exact ⟨e2, (frU2 (by omega) (by omega)).tr (frU2 (by omega) (by omega))⟩)
    | (rw [if_neg (show ¬ fbs P w.1 w.2.1 = 1 by omega), if_pos z1]
       exact ⟨up2A (v := 2) (p := -1) hA (by omega), frU2 (by omega) (by omega)⟩)
    | (rw [if_neg (show ¬ fbs P w.1 w.2.1 = 1 by omega), if_neg (show ¬ fbs P w.1 w.2.1 = 2 by omega), if_pos z1]
       have e1 := up2B (v := 3) (p := rep P w.1 w.2.1) hA (show w.2.1 < 24 by omega)
       have e3 : nn (rep P w.1 w.2.1) = rep P w.1 w.2.1 := if_neg (by omega)
       rw [e3] at e1
       rw [if_pos (⟨z2.1, z2.2.1⟩ : w.2.1 < (pB P).length ∧ 0 ≤ rep P w.1 w.2.1)]
       exact ⟨e1, frU2 (by omega) (by omega)⟩)
    | (rw [if_neg (show ¬ fbs P w.1 w.2.1 = 1 by omega), if_neg (show ¬ fbs P w.1 w.2.1 = 2 by omega), if_neg (show ¬ fbs P w.1 w.2.1 = 3 by omega), if_pos z1]
       exact ⟨up2B (v := 4) (p := -1) hA (by omega), frU2 (by omega) (by omega)⟩)
  · have z1 : fbs P w.1 w.2.1 = 2 := by omega
    have z2 := g2 z1
    refine bg_aload0 (pc := 45) X1 dX2_settle_45 ?_
    refine bg_iload2 (pc := 46) X1 dX2_settle_46 ?_
    refine bg_iconst (pc := 47) X1 dX2_settle_47 (by decide) ?_
    refine bg_ldc (pc := 48) X1 dX2_settle_48 kX2_52 (by decide) ?_
    refine bo_V3v (pc := 50) X1 (c_X2_settleA hq (by omega)) vX2_settleA lX2_53 rfl (by first | assumption | rfl) (by decide) dX2_settle_50 (by exact Nat.le_of_ble_eq_true rfl) ?_
    rintro _ h8
    obtain rfl := h8.symm
    clear h8
    refine bg_goto (pc := 53) X1 (tgt := 82) dX2_settle_53 (by decide) ?_
    refine bo_vret (pc := 82) X rfl dX2_settle_82 (fun hg9 => ?_)
    unfold wS
    simp only [Int.toNat_natCast]
    first
    | (rw [if_pos z1, show ((w.2.1 : Nat) : Int) = nn ((w.2.1 : Nat) : Int) from (nn_nat _).symm, show ((w.1 : Nat) : Int) = nn ((w.1 : Nat) : Int) from (nn_nat _).symm]
       have e1 := up2A (v := 1) (p := ((w.2.1 : Nat) : Int)) hA (show w.1 < 24 by omega)
       have e2 := up2B (v := 1) (p := ((w.1 : Nat) : Int)) e1 (show w.2.1 < 24 by omega)
       simp only [nn_nat] at e2 ⊢
       exact ⟨e2, (frU2 (by omega) (by omega)).tr (frU2 (by omega) (by omega))⟩)
    | (rw [if_neg (show ¬ fbs P w.1 w.2.1 = 1 by omega), if_pos z1]
       exact ⟨up2A (v := 2) (p := -1) hA (by omega), frU2 (by omega) (by omega)⟩)
    | (rw [if_neg (show ¬ fbs P w.1 w.2.1 = 1 by omega), if_neg (show ¬ fbs P w.1 w.2.1 = 2 by omega), if_pos z1]
       have e1 := up2B (v := 3) (p := rep P w.1 w.2.1) hA (show w.2.1 < 24 by omega)
       have e3 : nn (rep P w.1 w.2.1) = rep P w.1 w.2.1 := if_neg (by omega)
       rw [e3] at e1
       rw [if_pos (⟨z2.1, z2.2.1⟩ : w.2.1 < (pB P).length ∧ 0 ≤ rep P w.1 w.2.1)]
       exact ⟨e1, frU2 (by omega) (by omega)⟩)
    | (rw [if_neg (show ¬ fbs P w.1 w.2.1 = 1 by omega), if_neg (show ¬ fbs P w.1 w.2.1 = 2 by omega), if_neg (show ¬ fbs P w.1 w.2.1 = 3 by omega), if_pos z1]
       exact ⟨up2B (v := 4) (p := -1) hA (by omega), frU2 (by omega) (by omega)⟩)
  · have z1 : fbs P w.1 w.2.1 = 3 := by omega
    have z2 := g3 z1
    refine bg_aload0 (pc := 56) X1 dX2_settle_56 ?_
    refine bg_iload3 (pc := 57) X1 dX2_settle_57 ?_
    refine bg_iconst (pc := 58) X1 dX2_settle_58 (by decide) ?_
    refine bg_aload0 (pc := 59) X1 dX2_settle_59 ?_
    refine bo_getR (pc := 60) X1 dX2_settle_60 fX2_12 (by first | assumption | rfl) rfl (by first | assumption | rfl) ?_
    refine bg_iload2 (pc := 63) X1 dX2_settle_63 ?_
    refine bg_iload3 (pc := 64) X1 dX2_settle_64 ?_
    refine bo_V2i (pc := 65) X1 (c_X3_repeatedBed hq hP hok hw.1) vX3_repeatedBed lX2_73 rfl (by first | assumption | rfl) (by decide) dX2_settle_65 (by exact Nat.le_of_ble_eq_true rfl) ?_
    rintro _ _ ⟨h9, h8⟩
    obtain rfl := h9.symm
    obtain rfl := h8.symm
    clear h9 h8
    refine bo_V3v (pc := 68) X1 (c_X2_settleB hq (by omega)) vX2_settleB lX2_57 rfl (by first | assumption | rfl) (by decide) dX2_settle_68 (by exact Nat.le_of_ble_eq_true rfl) ?_
    rintro _ h8
    obtain rfl := h8.symm
    clear h8
    refine bg_goto (pc := 71) X1 (tgt := 82) dX2_settle_71 (by decide) ?_
    refine bo_vret (pc := 82) X rfl dX2_settle_82 (fun hg9 => ?_)
    unfold wS
    simp only [Int.toNat_natCast]
    first
    | (rw [if_pos z1, show ((w.2.1 : Nat) : Int) = nn ((w.2.1 : Nat) : Int) from (nn_nat _).symm, show ((w.1 : Nat) : Int) = nn ((w.1 : Nat) : Int) from (nn_nat _).symm]
       have e1 := up2A (v := 1) (p := ((w.2.1 : Nat) : Int)) hA (show w.1 < 24 by omega)
       have e2 := up2B (v := 1) (p := ((w.1 : Nat) : Int)) e1 (show w.2.1 < 24 by omega)
       simp only [nn_nat] at e2 ⊢
       exact ⟨e2, (frU2 (by omega) (by omega)).tr (frU2 (by omega) (by omega))⟩)
    | (rw [if_neg (show ¬ fbs P w.1 w.2.1 = 1 by omega), if_pos z1]
       exact ⟨up2A (v := 2) (p := -1) hA (by omega), frU2 (by omega) (by omega)⟩)
    | (rw [if_neg (show ¬ fbs P w.1 w.2.1 = 1 by omega), if_neg (show ¬ fbs P w.1 w.2.1 = 2 by omega), if_pos z1]
       have e1 := up2B (v := 3) (p := rep P w.1 w.2.1) hA (show w.2.1 < 24 by omega)
       have e3 : nn (rep P w.1 w.2.1) = rep P w.1 w.2.1 := if_neg (by omega)
       rw [e3] at e1
       rw [if_pos (⟨z2.1, z2.2.1⟩ : w.2.1 < (pB P).length ∧ 0 ≤ rep P w.1 w.2.1)]
       exact ⟨e1, frU2 (by omega) (by omega)⟩)
    | (rw [if_neg (show ¬ fbs P w.1 w.2.1 = 1 by omega), if_neg (show ¬ fbs P w.1 w.2.1 = 2 by omega), if_neg (show ¬ fbs P w.1 w.2.1 = 3 by omega), if_pos z1]
       exact ⟨up2B (v := 4) (p := -1) hA (by omega), frU2 (by omega) (by omega)⟩)
  · have z1 : fbs P w.1 w.2.1 = 4 := by omega
    have z2 := g4 z1
    refine bg_aload0 (pc := 74) X1 dX2_settle_74 ?_
    refine bg_iload3 (pc := 75) X1 dX2_settle_75 ?_
    refine bg_iconst (pc := 76) X1 dX2_settle_76 (by decide) ?_
    refine bg_ldc (pc := 77) X1 dX2_settle_77 kX2_52 (by decide) ?_
    refine bo_V3v (pc := 79) X1 (c_X2_settleB hq (by omega)) vX2_settleB lX2_57 rfl (by first | assumption | rfl) (by decide) dX2_settle_79 (by exact Nat.le_of_ble_eq_true rfl) ?_
    rintro _ h8
    obtain rfl := h8.symm
    clear h8
    refine bo_vret (pc := 82) X rfl dX2_settle_82 (fun hg9 => ?_)
    unfold wS
    simp only [Int.toNat_natCast]
    first
    | (rw [if_pos z1, show ((w.2.1 : Nat) : Int) = nn ((w.2.1 : Nat) : Int) from (nn_nat _).symm, show ((w.1 : Nat) : Int) = nn ((w.1 : Nat) : Int) from (nn_nat _).symm]
       have e1 := up2A (v := 1) (p := ((w.2.1 : Nat) : Int)) hA (show w.1 < 24 by omega)
       have e2 := up2B (v := 1) (p := ((w.1 : Nat) : Int)) e1 (show w.2.1 < 24 by omega)
       simp only [nn_nat] at e2 ⊢
       exact ⟨e2, (frU2 (by omega) (by omega)).tr (frU2 (by omega) (by omega))⟩)
    | (rw [if_neg (show ¬ fbs P w.1 w.2.1 = 1 by omega), if_pos z1]
       exact ⟨up2A (v := 2) (p := -1) hA (by omega), frU2 (by omega) (by omega)⟩)
    | (rw [if_neg (show ¬ fbs P w.1 w.2.1 = 1 by omega), if_neg (show ¬ fbs P w.1 w.2.1 = 2 by omega), if_pos z1]
       have e1 := up2B (v := 3) (p := rep P w.1 w.2.1) hA (show w.2.1 < 24 by omega)
       have e3 : nn (rep P w.1 w.2.1) = rep P w.1 w.2.1 := if_neg (by omega)
       rw [e3] at e1
       rw [if_pos (⟨z2.1, z2.2.1⟩ : w.2.1 < (pB P).length ∧ 0 ≤ rep P w.1 w.2.1)]
       exact ⟨e1, frU2 (by omega) (by omega)⟩)
    | (rw [if_neg (show ¬ fbs P w.1 w.2.1 = 1 by omega), if_neg (show ¬ fbs P w.1 w.2.1 = 2 by omega), if_neg (show ¬ fbs P w.1 w.2.1 = 3 by omega), if_pos z1]
       exact ⟨up2B (v := 4) (p := -1) hA (by omega), frU2 (by omega) (by omega)⟩)
theorem c_X2_solve {y : bg_Y} {g : bg_E} {q : Nat} {a c : Int} {S : bm_S} (hq : bg_mat q) (hq2 : 16 < q) (hS : staR g 1 S) (hok : staOK S) (ha : isHo a) (hc : isHo c) (hT : tabOK g q) : bg_Sv y 5 mX2_solve [.inr q, .inr 1, .inl a, .inl c] g (fun g' => matR g' q (mkP S a.toNat c.toNat) (S.1 4) ∧ tabOK g' q ∧ frR q (q + 14) g g') := by
  obtain ⟨s1, s2, s3, s4, s5, s6, s7, s8, s9, s10, s11, s12, s13, s14, s15, s16, s17, s18, s19⟩ := id hq
  have b1 : bg_sta 1 := bg_stas 1 (by simp)
  have hP := mkP_ok hok (a := a.toNat) (b := c.toNat) (by omega) (by omega)
  have na := hP.1.2
  have nb := hP.2.1.2
  obtain ⟨P, hPe⟩ : ∃ P, P = mkP S a.toNat c.toNat := ⟨_, rfl⟩
  rw [← hPe] at hP na nb
  refine bg_enter pnX2 (Nat.le_of_ble_eq_true rfl) (fun κ X hR hg => ?_)
  have X1 : bg_X κ y cX2_solve RX2 5 0 0 := X.1
  have hg : ∀ a k, R32 (g a k) := hg
  show bg_g κ y 0 [some (.inr q), some (.inr 1), some (.inl a), some (.inl c), none, none, none, none] [] g
  rw [← hPe] at X
  have loop : ∀ (n k : Nat) (l7 : Option bg_V) (g1 : bg_E), k + n = 48 → paiR g1 q P → tabOK g1 q → (∀ x z, x ≤ (pA P).length → z ≤ (pB P).length → tb g1 q x z = bw P x z) → arrR g1 q (wk P k) → g1 q 5 = S.1 4 → colE g1 q → frR q (q + 14) g g1 → bg_g κ y 70 [some (.inr q), some (.inr 1), some (.inl a), some (.inl c), some (.inl ((wk P k).1 : Int)), some (.inl ((wk P k).2.1 : Int)), some (.inl (k : Int)), l7] [] g1 := by
    intro n
    induction n with
    | zero =>
      intro k l7 g1 hn hP1 hT1 hI hA h5 hE hF
      obtain rfl : k = 48 := by omega
      refine bg_iload6 (pc := 70) X1 dX2_solve_70 ?_
      refine bg_bipush (pc := 72) X1 dX2_solve_72 rfl (by decide) ?_
      refine bg_icmp_ge (pc := 74) X1 (tgt := 130) dX2_solve_74 (by decide) (fun u74 => ?_) (fun u74 => ?_)
      · exact bo_vret (pc := 130) X rfl dX2_solve_130 (fun hg9 => ⟨⟨hP1, hA, h5, hE⟩, hT1, hF⟩)
      · exfalso; omega
    | succ n ih =>
      intro k l7 g1 hn hP1 hT1 hI hA h5 hE hF
      have hw := wk_I P k
      refine bg_iload6 (pc := 70) X1 dX2_solve_70 ?_
      refine bg_bipush (pc := 72) X1 dX2_solve_72 rfl (by decide) ?_
      refine bg_icmp_ge (pc := 74) X1 (tgt := 130) dX2_solve_74 (by decide) (fun u74 => ?_) (fun u74 => ?_)
      · exfalso; omega
      · refine bg_aload0 (pc := 77) X1 dX2_solve_77 ?_
        refine bo_getR (pc := 78) X1 dX2_solve_78 fX2_12 (by first | assumption | rfl) rfl (by first | assumption | rfl) ?_
        refine bg_iload4 (pc := 81) X1 dX2_solve_81 ?_
        refine bg_iload5 (pc := 83) X1 dX2_solve_83 ?_
        refine bo_V2i (pc := 85) X1 (c_X3_firstBestStep hq hP1 hP hT1 hI hw.1 hw.2.1) vX3_firstBestStep lX2_60 rfl (by first | assumption | rfl) (by decide) dX2_solve_85 (by exact Nat.le_of_ble_eq_true rfl) ?_
        rintro _ _ ⟨h9, h8⟩
        obtain rfl := h9.symm
        obtain rfl := h8.symm
        clear h9 h8
        refine bg_istore7 (pc := 88) X1 dX2_solve_88 ?_
        refine bg_iload7 (pc := 90) X1 dX2_solve_90 ?_
        refine bg_if_ne (pc := 92) X1 (tgt := 96) dX2_solve_92 (by decide) (fun u92 => ?_) (fun u92 => ?_)
        · refine bg_aload0 (pc := 96) X1 dX2_solve_96 ?_
          refine bg_iload7 (pc := 97) X1 dX2_solve_97 ?_
          refine bg_iload4 (pc := 99) X1 dX2_solve_99 ?_
          refine bg_iload5 (pc := 101) X1 dX2_solve_101 ?_
          refine bo_V3v (pc := 103) X1 (c_X2_settle hq hP1 hP hw hA u92) vX2_settle lX2_64 rfl (by first | assumption | rfl) (by decide) dX2_solve_103 (by exact Nat.le_of_ble_eq_true rfl) ?_
          rintro g2 ⟨x1, x2⟩
          refine bg_iload7 (pc := 106) X1 dX2_solve_106 ?_
          refine bg_iload4 (pc := 108) X1 dX2_solve_108 ?_
          refine bo_S2i (pc := 110) X1 (c_X3_nextOfA (by have := hw.1; omega)) sX3_nextOfA lX2_67 rfl (by decide) dX2_solve_110 (by exact Nat.le_of_ble_eq_true rfl) ?_
          rintro _ _ ⟨h9, h8⟩
          obtain rfl := h9.symm
          obtain rfl := h8.symm
          clear h9 h8
          refine bg_istore4 (pc := 113) X1 dX2_solve_113 ?_
          refine bg_iload7 (pc := 115) X1 dX2_solve_115 ?_
          refine bg_iload5 (pc := 117) X1 dX2_solve_117 ?_
          refine bo_S2i (pc := 119) X1 (c_X3_nextOfB (by have := hw.2.1; omega)) sX3_nextOfB lX2_70 rfl (by decide) dX2_solve_119 (by exact Nat.le_of_ble_eq_true rfl) ?_
          rintro _ _ ⟨h9, h8⟩
          obtain rfl := h9.symm
          obtain rfl := h8.symm
          clear h9 h8
          refine bg_istore5 (pc := 122) X1 dX2_solve_122 ?_
          refine bg_iinc6 (pc := 124) X1 dX2_solve_124 (by omega) ?_
          refine bg_goto (pc := 127) X1 (tgt := 70) dX2_solve_127 (by decide) ?_
          have e1 : ni (fbs P (wk P k).1 (wk P k).2.1) (wk P k).1 = (wk P (k + 1)).1 ∧ nj (fbs P (wk P k).1 (wk P k).2.1) (wk P k).2.1 = (wk P (k + 1)).2.1 := by
            rcases fbs_or (P := P) (i := (wk P k).1) (j := (wk P k).2.1) with ⟨h1, -⟩ | ⟨h1, -⟩
            · exact absurd h1 u92
            · have h4 : fbs P (wk P k).1 (wk P k).2.1 = 1 ∨ fbs P (wk P k).1 (wk P k).2.1 = 2 ∨ fbs P (wk P k).1 (wk P k).2.1 = 3 ∨ fbs P (wk P k).1 (wk P k).2.1 = 4 := by omega
              show ni _ _ = (wS P (wk P k)).1 ∧ nj _ _ = (wS P (wk P k)).2.1
              unfold wS ni nj
              rcases h4 with h | h | h | h <;> rw [h] <;> simp
          rw [e1.1, e1.2]
          exact ih (k + 1) _ g2 (by omega) (hP1.fr x2 (by omega)) (fun j hj => by rw [x2 (q + 9) (by omega)]; exact hT1 j hj) (fun x z hx hz => by unfold tb; rw [x2 (q + 9) (by omega)]; exact hI x z hx hz) x1 (by rw [x2 q (by omega)]; exact h5) (hE.fr x2 (by omega)) (hF.tr (x2.wide (by omega) (by omega)))
        · exact bo_vret (pc := 95) X rfl dX2_solve_95 (fun hg9 => ⟨⟨hP1, by rw [← wk_fin (n := k) (by omega) u92]; exact hA, h5, hE⟩, hT1, hF⟩)
  have fill : ∀ (n k : Nat) (l5 l6 l7 : Option bg_V) (g1 : bg_E), k + n = 24 → paiR g1 q P → tabOK g1 q → (∀ x z, x ≤ (pA P).length → z ≤ (pB P).length → tb g1 q x z = bw P x z) → (∀ x : Nat, x < k → g1 (q + 10) x = 0 ∧ g1 (q + 11) x = 0 ∧ g1 (q + 12) x = -1000009 ∧ g1 (q + 13) x = -1000009) → g1 q 5 = S.1 4 → colE g1 q → frR q (q + 14) g g1 → bg_g κ y 30 [some (.inr q), some (.inr 1), some (.inl a), some (.inl c), some (.inl (k : Int)), l5, l6, l7] [] g1 := by
    intro n
    induction n with
    | zero =>
      intro k l5 l6 l7 g1 hn hP1 hT1 hI hA h5 hE hF
      refine bg_iload4 (pc := 30) X1 dX2_solve_30 ?_
      refine bg_bipush (pc := 32) X1 dX2_solve_32 rfl (by decide) ?_
      refine bg_icmp_ge (pc := 34) X1 (tgt := 61) dX2_solve_34 (by decide) (fun u34 => ?_) (fun u34 => ?_)
      · refine bg_iconst (pc := 61) X1 dX2_solve_61 (by decide) ?_
        refine bg_istore4 (pc := 62) X1 dX2_solve_62 ?_
        refine bg_iconst (pc := 64) X1 dX2_solve_64 (by decide) ?_
        refine bg_istore5 (pc := 65) X1 dX2_solve_65 ?_
        refine bg_iconst (pc := 67) X1 dX2_solve_67 (by decide) ?_
        refine bg_istore6 (pc := 68) X1 dX2_solve_68 ?_
        exact loop 48 0 _ g1 rfl hP1 hT1 hI (fun x hx => hA x (by omega)) h5 hE hF
      · exfalso; omega
    | succ n ih =>
      intro k l5 l6 l7 g1 hn hP1 hT1 hI hA h5 hE hF
      refine bg_iload4 (pc := 30) X1 dX2_solve_30 ?_
      refine bg_bipush (pc := 32) X1 dX2_solve_32 rfl (by decide) ?_
      refine bg_icmp_ge (pc := 34) X1 (tgt := 61) dX2_solve_34 (by decide) (fun u34 => ?_) (fun u34 => ?_)
      · exfalso; omega
      · refine bg_aload0 (pc := 37) X1 dX2_solve_37 ?_
        refine bg_iload4 (pc := 38) X1 dX2_solve_38 ?_
        refine bg_iconst (pc := 40) X1 dX2_solve_40 (by decide) ?_
        refine bg_ldc (pc := 41) X1 dX2_solve_41 kX2_52 (by decide) ?_
        refine bo_V3v (pc := 43) X1 (c_X2_settleA hq (by omega)) vX2_settleA lX2_53 rfl (by first | assumption | rfl) (by decide) dX2_solve_43 (by exact Nat.le_of_ble_eq_true rfl) ?_
        rintro _ h8
        obtain rfl := h8.symm
        clear h8
        refine bg_aload0 (pc := 46) X1 dX2_solve_46 ?_
        refine bg_iload4 (pc := 47) X1 dX2_solve_47 ?_
        refine bg_iconst (pc := 49) X1 dX2_solve_49 (by decide) ?_
        refine bg_ldc (pc := 50) X1 dX2_solve_50 kX2_52 (by decide) ?_
        refine bo_V3v (pc := 52) X1 (c_X2_settleB hq (by omega)) vX2_settleB lX2_57 rfl (by first | assumption | rfl) (by decide) dX2_solve_52 (by exact Nat.le_of_ble_eq_true rfl) ?_
        rintro _ h8
        obtain rfl := h8.symm
        clear h8
        refine bg_iinc4 (pc := 55) X1 dX2_solve_55 (by omega) ?_
        refine bg_goto (pc := 58) X1 (tgt := 30) dX2_solve_58 (by decide) ?_
        have f1 : frR (q + 10) (q + 14) g1 (bg_up (bg_up (bg_up (bg_up g1 (q + 10) (k : Int).toNat 0) (q + 12) (k : Int).toNat (-1000009)) (q + 11) (k : Int).toNat 0) (q + 13) (k : Int).toNat (-1000009)) := (frU2 (by omega) (by omega)).tr (frU2 (by omega) (by omega))
        refine ih (k + 1) _ _ _ _ (by omega) (hP1.fr f1 (by omega)) (fun j hj => by rw [f1 (q + 9) (by omega)]; exact hT1 j hj) (fun x z hx hz => by unfold tb; rw [f1 (q + 9) (by omega)]; exact hI x z hx hz) (fun x hx => ?_) (by rw [f1 q (by omega)]; exact h5) (hE.fr f1 (by omega)) (hF.tr (f1.wide (by omega) (by omega)))
        rw [Int.toNat_natCast, up_a (show q + 10 ≠ q + 13 by omega), up_a (show q + 10 ≠ q + 11 by omega), up_a (show q + 10 ≠ q + 12 by omega), up_a (show q + 11 ≠ q + 13 by omega), up_a (show q + 12 ≠ q + 13 by omega), up_a (show q + 12 ≠ q + 11 by omega)]
        by_cases hxk : x = k
        · subst hxk
          rw [up_eq, up_eq, up_eq, up_eq]
          exact ⟨rfl, rfl, rfl, rfl⟩
        · rw [up_k hxk, up_k hxk, up_k hxk, up_k hxk, up_a (show q + 11 ≠ q + 12 by omega), up_a (show q + 11 ≠ q + 10 by omega), up_a (show q + 12 ≠ q + 10 by omega), up_a (show q + 13 ≠ q + 11 by omega), up_a (show q + 13 ≠ q + 12 by omega), up_a (show q + 13 ≠ q + 10 by omega)]
          exact hA x (by omega)
  refine bg_aload0 (pc := 0) X1 dX2_solve_0 ?_
  refine bo_getR (pc := 1) X1 dX2_solve_1 fX2_12 (by first | assumption | rfl) rfl (by first | assumption | rfl) ?_
  refine bg_aload1 (pc := 4) X1 dX2_solve_4 ?_
  refine bg_iload2 (pc := 5) X1 dX2_solve_5 ?_
  refine bg_iload3 (pc := 6) X1 dX2_solve_6 ?_
  refine bo_V3v (pc := 7) X1 (c_X3_take hq hq2 hS hok ha hc) vX3_take lX2_35 rfl (by first | assumption | rfl) (by decide) dX2_solve_7 (by exact Nat.le_of_ble_eq_true rfl) ?_
  rintro g1 ⟨x1, x2, xE⟩
  rw [← hPe] at x1
  have hT1 : tabOK g1 q := fun k hk => by rw [x2 (q + 9) (by omega)]; exact hT k hk
  refine bg_aload0 (pc := 10) X1 dX2_solve_10 ?_
  refine bo_getR (pc := 11) X1 dX2_solve_11 fX2_12 (by first | assumption | rfl) rfl (by first | assumption | rfl) ?_
  refine bo_V0i (pc := 14) X1 (c_X3_costFromBottom hq x1 hP hT1) vX3_costFromBottom lX2_43 rfl (by first | assumption | rfl) (by decide) dX2_solve_14 (by exact Nat.le_of_ble_eq_true rfl) ?_
  rintro r14 g2 ⟨x3, x4, x5, x6⟩
  have x7 := x1.fr x6 (by omega)
  have f2 : frR q (q + 14) g g2 := (x2.wide (by omega) (by omega)).tr (x6.wide (by omega) (by omega))
  refine bg_pop (pc := 17) X1 dX2_solve_17 ?_
  refine bg_aload0 (pc := 18) X1 dX2_solve_18 ?_
  refine bg_aload1 (pc := 19) X1 dX2_solve_19 ?_
  refine bg_iconst (pc := 20) X1 dX2_solve_20 (by decide) ?_
  refine bo_V1i (pc := 21) X1 (c_X4_numberOf b1 (hS.fr f2 (by omega)) (by omega)) vX4_numberOf lX2_46 rfl (by first | assumption | rfl) (by decide) dX2_solve_21 (by exact Nat.le_of_ble_eq_true rfl) ?_
  rintro _ _ ⟨h9, h8⟩
  obtain rfl := h9.symm
  obtain rfl := h8.symm
  clear h9 h8
  refine bo_putI (pc := 24) X1 dX2_solve_24 fX2_31 (by first | assumption | rfl) rfl ?_
  refine bg_iconst (pc := 27) X1 dX2_solve_27 (by decide) ?_
  refine bg_istore4 (pc := 28) X1 dX2_solve_28 ?_
  have f3 : frR q (q + 1) g2 (bg_up g2 q 5 (S.1 (4 : Int).toNat)) := frR.rf.up (by omega) (by omega)
  exact fill 24 0 _ _ _ _ rfl (x7.fr f3 (by omega)) (fun j hj => by rw [f3 (q + 9) (by omega)]; exact x4 j hj) (fun x z hx hz => by unfold tb; rw [f3 (q + 9) (by omega)]; exact x5 x z hx hz) (fun x hx => by omega) up_eq ((xE.fr x6 (by omega)).fr f3 (by omega)) (f2.tr (f3.wide (by omega) (by omega)))
