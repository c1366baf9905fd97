/-! reasons, elevations -/
theorem bor_2 (a b c : Bool) : bg_bor (rs3 a b c) 2 = rs3 a true c := by cases a <;> cases b <;> cases c <;> decide
theorem bor_4 (a b c : Bool) : bg_bor (rs3 a b c) 4 = rs3 a b true := by cases a <;> cases b <;> cases c <;> decide
theorem bor_1 (a b c : Bool) : bg_bor (rs3 a b c) 1 = rs3 true b c := by cases a <;> cases b <;> cases c <;> decide
theorem c_X2_reasonBelow {y : bg_Y} {g : bg_E} {q k : Nat} {P : bm_P} {t : Int} (hq : bg_mat q) (hM : matR g q P t) (hok : okP P) (hk : k < 24) (hT : HT P k) : bg_Si y 3 mX2_reasonBelow [.inr q, .inl (k : Int)] g (fun r g' => r = RS P k ∧ g' = g) := by
  obtain ⟨s1, -⟩ := id hq
  have e0 : nxt (FA P) (24 - ((k : Int) + 1).toNat) ((k : Int) + 1).toNat = NX P k := by
    unfold NX
    congr 1
    omega
  obtain ⟨z1, z2, z3, z4, z5, z6⟩ := HT_go hok hT
  have na := hok.1.2
  have nb := hok.2.1.2
  have n1 : nn (NX P k) = NX P k := if_neg (by omega)
  have n2 : nn (PA P (NX P k).toNat) = PA P (NX P k).toNat := if_neg (by omega)
  have n3 : nn (PA P k) = PA P k := if_neg (by omega)
  refine bg_enter pnX2 (Nat.le_of_ble_eq_true rfl) (fun κ X hR hg => ?_)
  have X1 : bg_X κ y cX2_reasonBelow RX2 3 0 0 := X.1
  have hg : ∀ a k, R32 (g a k) := hg
  show bg_g κ y 0 [some (.inr q), some (.inl (k : Int)), none, none, none, none] [] g
  have loop : ∀ (n j : Nat) (B C : Bool) (r b : Int), r = rs3 (decide ((k : Int) + 1 < NX P k)) B C → b = (j : Int) → (PA P k + 1 ≤ j) → (j : Int) + n = max (PA P (NX P k).toNat) j → RS P k = rs3 (decide ((k : Int) + 1 < NX P k)) (B || anyN (fun j => decide (FB P j = 3)) n j) (C || anyN (fun j => !decide (FB P j = 3)) n j) → bg_g κ y 52 [some (.inr q), some (.inl (k : Int)), some (.inl (NX P k)), some (.inl r), some (.inl (PA P (NX P k).toNat)), some (.inl b)] [] g := by
    intro n
    induction n with
    | zero =>
      intro j B C r b hr0 hb0 hj hn hr
      subst hr0 hb0
      refine bg_iload5 (pc := 52) X1 dX2_reasonBelow_52 ?_
      refine bg_iload4 (pc := 54) X1 dX2_reasonBelow_54 ?_
      refine bg_icmp_ge (pc := 56) X1 (tgt := 84) dX2_reasonBelow_56 (by decide) (fun u56 => ?_) (fun u56 => ?_)
      · refine bg_iload3 (pc := 84) X1 dX2_reasonBelow_84 ?_
        exact bo_iret (pc := 85) X rfl dX2_reasonBelow_85 (fun hi => ⟨by rw [hr]; simp [anyN], rfl⟩)
      · exfalso; omega
    | succ n ih =>
      intro j B C r b hr0 hb0 hj hn hr
      subst hr0 hb0
      refine bg_iload5 (pc := 52) X1 dX2_reasonBelow_52 ?_
      refine bg_iload4 (pc := 54) X1 dX2_reasonBelow_54 ?_
      refine bg_icmp_ge (pc := 56) X1 (tgt := 84) dX2_reasonBelow_56 (by decide) (fun u56 => ?_) (fun u56 => ?_)
      · exfalso; omega
      · refine bg_iload3 (pc := 59) X1 dX2_reasonBelow_59 ?_
        refine bg_aload0 (pc := 60) X1 dX2_reasonBelow_60 ?_
        refine bg_iconst (pc := 61) X1 dX2_reasonBelow_61 (by decide) ?_
        refine bg_iload5 (pc := 62) X1 dX2_reasonBelow_62 ?_
        refine bo_V2i (pc := 64) X1 (c_X2_fateOf hq hM) vX2_fateOf lX2_76 rfl (by first | assumption | rfl) (by decide) dX2_reasonBelow_64 (by exact Nat.le_of_ble_eq_true rfl) ?_
        rintro _ _ ⟨h9, h8⟩
        obtain rfl := h9.symm
        obtain rfl := h8.symm
        clear h9 h8
        rw [if_pos (⟨by omega, by omega⟩ : 0 ≤ (j : Int) ∧ (j : Int) < 24), if_neg (by decide : ¬ (1 : Int) = 0), Int.toNat_natCast]
        refine bg_iconst (pc := 67) X1 dX2_reasonBelow_67 (by decide) ?_
        refine bg_icmp_ne (pc := 68) X1 (tgt := 75) dX2_reasonBelow_68 (by decide) (fun u68 => ?_) (fun u68 => ?_)
        · have e3 : anyN (fun j => decide (FB P j = 3)) (n + 1) j = anyN (fun j => decide (FB P j = 3)) n (j + 1) ∧ anyN (fun j => !decide (FB P j = 3)) (n + 1) j = true := by simp [anyN, u68]
          rw [e3.1, e3.2, Bool.or_true] at hr
          refine bg_iconst (pc := 75) X1 dX2_reasonBelow_75 (by decide) ?_
          refine bg_ior (pc := 76) X1 dX2_reasonBelow_76 ?_
          first | rw [bor_2] | rw [bor_4]
          refine bg_istore3 (pc := 77) X1 dX2_reasonBelow_77 ?_
          refine bg_iinc5 (pc := 78) X1 dX2_reasonBelow_78 (by omega) ?_
          refine bg_goto (pc := 81) X1 (tgt := 52) dX2_reasonBelow_81 (by decide) ?_
          exact ih (j + 1) _ _ _ _ rfl rfl (by omega) (by omega) (by rw [hr]; simp)
        · have e3 : anyN (fun j => decide (FB P j = 3)) (n + 1) j = true ∧ anyN (fun j => !decide (FB P j = 3)) (n + 1) j = anyN (fun j => !decide (FB P j = 3)) n (j + 1) := by simp [anyN, u68]
          rw [e3.1, e3.2, Bool.or_true] at hr
          refine bg_iconst (pc := 71) X1 dX2_reasonBelow_71 (by decide) ?_
          refine bg_goto (pc := 72) X1 (tgt := 76) dX2_reasonBelow_72 (by decide) ?_
          refine bg_ior (pc := 76) X1 dX2_reasonBelow_76 ?_
          first | rw [bor_2] | rw [bor_4]
          refine bg_istore3 (pc := 77) X1 dX2_reasonBelow_77 ?_
          refine bg_iinc5 (pc := 78) X1 dX2_reasonBelow_78 (by omega) ?_
          refine bg_goto (pc := 81) X1 (tgt := 52) dX2_reasonBelow_81 (by decide) ?_
          exact ih (j + 1) _ _ _ _ rfl rfl (by omega) (by omega) (by rw [hr]; simp)
  refine bg_aload0 (pc := 0) X1 dX2_reasonBelow_0 ?_
  refine bg_iload1 (pc := 1) X1 dX2_reasonBelow_1 ?_
  refine bo_V1i (pc := 2) X1 (c_X2_hasThrow hq hM hk) vX2_hasThrow lX2_82 rfl (by first | assumption | rfl) (by decide) dX2_reasonBelow_2 (by exact Nat.le_of_ble_eq_true rfl) ?_
  rintro _ _ ⟨h9, h8⟩
  obtain rfl := h9.symm
  obtain rfl := h8.symm
  clear h9 h8
  refine bo_ifne_b (pc := 5) X1 (tgt := 10) dX2_reasonBelow_5 (by decide) (fun u5 => ?_) (fun u5 => ?_)
  · refine bg_aload0 (pc := 10) X1 dX2_reasonBelow_10 ?_
    refine bg_iload1 (pc := 11) X1 dX2_reasonBelow_11 ?_
    refine bo_V1i (pc := 12) X1 (c_X2_nextMatch hq hM (by omega)) vX2_nextMatch lX2_79 rfl (by first | assumption | rfl) (by decide) dX2_reasonBelow_12 (by exact Nat.le_of_ble_eq_true rfl) ?_
    rintro _ _ ⟨h9, h8⟩
    obtain rfl := h9.symm
    obtain rfl := h8.symm
    clear h9 h8
    rw [e0, n1]
    refine bg_istore2 (pc := 15) X1 dX2_reasonBelow_15 ?_
    refine bg_iload2 (pc := 16) X1 dX2_reasonBelow_16 ?_
    refine bg_iload1 (pc := 17) X1 dX2_reasonBelow_17 ?_
    refine bg_iconst (pc := 18) X1 dX2_reasonBelow_18 (by decide) ?_
    refine bg_iadd (pc := 19) X1 dX2_reasonBelow_19 (by omega) ?_
    refine bg_icmp_le (pc := 20) X1 (tgt := 27) dX2_reasonBelow_20 (by decide) (fun u20 => ?_) (fun u20 => ?_)
    · have e5 : (0 : Int) = rs3 (decide ((k : Int) + 1 < NX P k)) false false := by rw [decide_eq_false (by omega)]; rfl
      refine bg_iconst (pc := 27) X1 dX2_reasonBelow_27 (by decide) ?_
      refine bg_istore3 (pc := 28) X1 dX2_reasonBelow_28 ?_
      refine bg_aload0 (pc := 29) X1 dX2_reasonBelow_29 ?_
      refine bg_iconst (pc := 30) X1 dX2_reasonBelow_30 (by decide) ?_
      refine bg_iload2 (pc := 31) X1 dX2_reasonBelow_31 ?_
      refine bo_V2i (pc := 32) X1 (c_X2_partnerOf hq hM) vX2_partnerOf lX2_98 rfl (by first | assumption | rfl) (by decide) dX2_reasonBelow_32 (by exact Nat.le_of_ble_eq_true rfl) ?_
      rintro _ _ ⟨h9, h8⟩
      obtain rfl := h9.symm
      obtain rfl := h8.symm
      clear h9 h8
      rw [if_pos (⟨by omega, by omega⟩ : 0 ≤ NX P k ∧ NX P k < 24), if_pos (rfl : (0 : Int) = 0), n2]
      refine bg_bipush (pc := 35) X1 dX2_reasonBelow_35 rfl (by decide) ?_
      refine bo_min (pc := 37) X1 lX2_109 (by decide) dX2_reasonBelow_37 (by exact Nat.le_of_ble_eq_true rfl) ?_
      rw [show min (PA P (NX P k).toNat) 24 = PA P (NX P k).toNat by omega]
      refine bg_istore4 (pc := 40) X1 dX2_reasonBelow_40 ?_
      refine bg_aload0 (pc := 42) X1 dX2_reasonBelow_42 ?_
      refine bg_iconst (pc := 43) X1 dX2_reasonBelow_43 (by decide) ?_
      refine bg_iload1 (pc := 44) X1 dX2_reasonBelow_44 ?_
      refine bo_V2i (pc := 45) X1 (c_X2_partnerOf hq hM) vX2_partnerOf lX2_98 rfl (by first | assumption | rfl) (by decide) dX2_reasonBelow_45 (by exact Nat.le_of_ble_eq_true rfl) ?_
      rintro _ _ ⟨h9, h8⟩
      obtain rfl := h9.symm
      obtain rfl := h8.symm
      clear h9 h8
      rw [if_pos (⟨by omega, by omega⟩ : 0 ≤ (k : Int) ∧ (k : Int) < 24), if_pos (rfl : (0 : Int) = 0), Int.toNat_natCast, n3]
      refine bg_iconst (pc := 48) X1 dX2_reasonBelow_48 (by decide) ?_
      refine bg_iadd (pc := 49) X1 dX2_reasonBelow_49 (by omega) ?_
      refine bg_istore5 (pc := 50) X1 dX2_reasonBelow_50 ?_
      exact loop ((PA P (NX P k).toNat).toNat - ((PA P k).toNat + 1)) ((PA P k).toNat + 1) false false _ _ e5 (by omega) (by omega) (by omega) (by rw [Bool.false_or, Bool.false_or]; rfl)
    · have e5 : (1 : Int) = rs3 (decide ((k : Int) + 1 < NX P k)) false false := by rw [decide_eq_true (by omega)]; rfl
      refine bg_iconst (pc := 23) X1 dX2_reasonBelow_23 (by decide) ?_
      refine bg_goto (pc := 24) X1 (tgt := 28) dX2_reasonBelow_24 (by decide) ?_
      refine bg_istore3 (pc := 28) X1 dX2_reasonBelow_28 ?_
      refine bg_aload0 (pc := 29) X1 dX2_reasonBelow_29 ?_
      refine bg_iconst (pc := 30) X1 dX2_reasonBelow_30 (by decide) ?_
      refine bg_iload2 (pc := 31) X1 dX2_reasonBelow_31 ?_
      refine bo_V2i (pc := 32) X1 (c_X2_partnerOf hq hM) vX2_partnerOf lX2_98 rfl (by first | assumption | rfl) (by decide) dX2_reasonBelow_32 (by exact Nat.le_of_ble_eq_true rfl) ?_
      rintro _ _ ⟨h9, h8⟩
      obtain rfl := h9.symm
      obtain rfl := h8.symm
      clear h9 h8
      rw [if_pos (⟨by omega, by omega⟩ : 0 ≤ NX P k ∧ NX P k < 24), if_pos (rfl : (0 : Int) = 0), n2]
      refine bg_bipush (pc := 35) X1 dX2_reasonBelow_35 rfl (by decide) ?_
      refine bo_min (pc := 37) X1 lX2_109 (by decide) dX2_reasonBelow_37 (by exact Nat.le_of_ble_eq_true rfl) ?_
      rw [show min (PA P (NX P k).toNat) 24 = PA P (NX P k).toNat by omega]
      refine bg_istore4 (pc := 40) X1 dX2_reasonBelow_40 ?_
      refine bg_aload0 (pc := 42) X1 dX2_reasonBelow_42 ?_
      refine bg_iconst (pc := 43) X1 dX2_reasonBelow_43 (by decide) ?_
      refine bg_iload1 (pc := 44) X1 dX2_reasonBelow_44 ?_
      refine bo_V2i (pc := 45) X1 (c_X2_partnerOf hq hM) vX2_partnerOf lX2_98 rfl (by first | assumption | rfl) (by decide) dX2_reasonBelow_45 (by exact Nat.le_of_ble_eq_true rfl) ?_
      rintro _ _ ⟨h9, h8⟩
      obtain rfl := h9.symm
      obtain rfl := h8.symm
      clear h9 h8
      rw [if_pos (⟨by omega, by omega⟩ : 0 ≤ (k : Int) ∧ (k : Int) < 24), if_pos (rfl : (0 : Int) = 0), Int.toNat_natCast, n3]
      refine bg_iconst (pc := 48) X1 dX2_reasonBelow_48 (by decide) ?_
      refine bg_iadd (pc := 49) X1 dX2_reasonBelow_49 (by omega) ?_
      refine bg_istore5 (pc := 50) X1 dX2_reasonBelow_50 ?_
      exact loop ((PA P (NX P k).toNat).toNat - ((PA P k).toNat + 1)) ((PA P k).toNat + 1) false false _ _ e5 (by omega) (by omega) (by omega) (by rw [Bool.false_or, Bool.false_or]; rfl)
  · exact absurd hT u5
theorem c_X2_differenceOfElevations {y : bg_Y} {g : bg_E} {q k : Nat} {P : bm_P} {t : Int} (hq : bg_mat q) (hM : matR g q P t) (hok : okP P) (hf : FA P k = 1) : bg_Si y 3 mX2_differenceOfElevations [.inr q, .inl (k : Int)] g (fun r g' => r = (g (q + 2) 0 - dep (pA P) k) - (g (q + 5) 0 - dep (pB P) (PA P k).toNat) ∧ g' = g) := by
  obtain ⟨s1, s2, s3, s4, s5, s6, s7, s8, s9, s10, s11, s12, s13, s14, s15, s16, s17, s18, s19⟩ := id hq
  obtain ⟨⟨p1, p2, -⟩, -, -, hE⟩ := id hM
  have na := hok.1.2
  have nb := hok.2.1.2
  have hl : k < (pA P).length ∧ 0 ≤ PA P k ∧ PA P k < (pB P).length := by
    obtain ⟨h1, h2, -, -⟩ := wE_I hok
    rcases Nat.lt_or_ge k (pA P).length with h3 | h3
    · have := h1 k h3; exact ⟨h3, by omega⟩
    · have := h2 k h3; omega
  have d1 := dep_le hok.1.1 (n := k) (by omega)
  have d2 := dep_le hok.2.1.1 (n := (PA P k).toNat) (by omega)
  have n3 : nn (PA P k) = PA P k := if_neg (by omega)
  have hE1 := hE.1
  have hE2 := hE.2
  refine bg_enter pnX2 (Nat.le_of_ble_eq_true rfl) (fun κ X hR hg => ?_)
  have X1 : bg_X κ y cX2_differenceOfElevations RX2 3 0 0 := X.1
  have hg : ∀ a k, R32 (g a k) := hg
  show bg_g κ y 0 [some (.inr q), some (.inl (k : Int))] [] g
  refine bg_aload0 (pc := 0) X1 dX2_differenceOfElevations_0 ?_
  refine bo_getR (pc := 1) X1 dX2_differenceOfElevations_1 fX2_12 (by first | assumption | rfl) rfl (by first | assumption | rfl) ?_
  refine bo_V0r (pc := 4) X1 (c_X3_columnA hq) vX3_columnA lX2_86 rfl (by first | assumption | rfl) (by decide) dX2_differenceOfElevations_4 (by exact Nat.le_of_ble_eq_true rfl) ?_
  rintro _ _ ⟨h9, h8⟩
  obtain rfl := h9.symm
  obtain rfl := h8.symm
  clear h9 h8
  refine bg_iload1 (pc := 7) X1 dX2_differenceOfElevations_7 ?_
  refine bo_V1i (pc := 8) X1 (c_X0_elevationOf s12 p1 hok.1.1 (by omega) hE1) vX0_elevationOf lX2_118 rfl s12.1 (by decide) dX2_differenceOfElevations_8 (by exact Nat.le_of_ble_eq_true rfl) ?_
  rintro _ _ ⟨h9, h8⟩
  obtain rfl := h9.symm
  obtain rfl := h8.symm
  clear h9 h8
  refine bg_aload0 (pc := 11) X1 dX2_differenceOfElevations_11 ?_
  refine bo_getR (pc := 12) X1 dX2_differenceOfElevations_12 fX2_12 (by first | assumption | rfl) rfl (by first | assumption | rfl) ?_
  refine bo_V0r (pc := 15) X1 (c_X3_columnB hq) vX3_columnB lX2_95 rfl (by first | assumption | rfl) (by decide) dX2_differenceOfElevations_15 (by exact Nat.le_of_ble_eq_true rfl) ?_
  rintro _ _ ⟨h9, h8⟩
  obtain rfl := h9.symm
  obtain rfl := h8.symm
  clear h9 h8
  refine bg_aload0 (pc := 18) X1 dX2_differenceOfElevations_18 ?_
  refine bg_iconst (pc := 19) X1 dX2_differenceOfElevations_19 (by decide) ?_
  refine bg_iload1 (pc := 20) X1 dX2_differenceOfElevations_20 ?_
  refine bo_V2i (pc := 21) X1 (c_X2_partnerOf hq hM) vX2_partnerOf lX2_98 rfl (by first | assumption | rfl) (by decide) dX2_differenceOfElevations_21 (by exact Nat.le_of_ble_eq_true rfl) ?_
  rintro _ _ ⟨h9, h8⟩
  obtain rfl := h9.symm
  obtain rfl := h8.symm
  clear h9 h8
  rw [if_pos (⟨by omega, by omega⟩ : 0 ≤ (k : Int) ∧ (k : Int) < 24), if_pos (rfl : (0 : Int) = 0), Int.toNat_natCast, n3]
  refine bo_V1i (pc := 24) X1 (c_X0_elevationOf s13 p2 hok.2.1.1 (by omega) hE2) vX0_elevationOf lX2_118 rfl s13.1 (by decide) dX2_differenceOfElevations_24 (by exact Nat.le_of_ble_eq_true rfl) ?_
  rintro _ _ ⟨h9, h8⟩
  obtain rfl := h9.symm
  obtain rfl := h8.symm
  clear h9 h8
  refine bg_isub (pc := 27) X1 dX2_differenceOfElevations_27 (by first | omega | (simp only [Int.toNat_natCast]; omega)) ?_
  exact bo_iret (pc := 28) X rfl dX2_differenceOfElevations_28 (fun hi => ⟨by try simp only [Int.toNat_natCast], rfl⟩)
/-- the last match below n, or the first one -/
def lstM (P : bm_P) : Nat → Int
  | 0 => nxt (FA P) 24 0
  | n + 1 => if FA P n = 1 then (n : Int) else lstM P n
def dD (P : bm_P) (k : Int) : Int := dep (pA P) k.toNat - dep (pB P) (PA P k.toNat).toNat
theorem lstM_at {P : bm_P} (h : 0 ≤ nxt (FA P) 24 0) : ∀ n, 0 ≤ lstM P n ∧ FA P (lstM P n).toNat = 1
  | 0 => by
    rcases nxt_or (FA P) 24 0 with h1 | h1
    · omega
    · exact ⟨h, h1.2.2.1⟩
  | n + 1 => by
    rw [lstM]
    split
    · rename_i h1; exact ⟨by omega, by simpa using h1⟩
    · exact lstM_at h n
theorem sum_tel {P : bm_P} : ∀ n : Nat, n ≤ 24 → sumT (TTn P n) = (if 0 ≤ nxt (FA P) (24 - n) n then dD P (nxt (FA P) (24 - n) n) else dD P (lstM P n)) - dD P (nxt (FA P) 24 0)
  | 0, _ => by
    show (0 : Int) = (if 0 ≤ nxt (FA P) 24 0 then dD P (nxt (FA P) 24 0) else dD P (nxt (FA P) 24 0)) - _
    split <;> omega
  | n + 1, hn => by
    have ih := sum_tel (P := P) n (by omega)
    have e1 : 24 - n = (23 - n) + 1 := by omega
    have e2 : 24 - (n + 1) = 23 - n := by omega
    rw [TTn_s, sumT_app, ih, e2, e1]
    rw [show nxt (FA P) (23 - n + 1) n = (if FA P n = 1 then (n : Int) else nxt (FA P) (23 - n) (n + 1)) from rfl, show lstM P (n + 1) = (if FA P n = 1 then (n : Int) else lstM P n) from rfl]
    by_cases hf : FA P n = 1
    · rw [if_pos hf, if_pos hf, if_pos (by omega : (0 : Int) ≤ (n : Int))]
      have hNX : NX P n = nxt (FA P) (23 - n) (n + 1) := rfl
      rw [← hNX]
      by_cases hx : 0 ≤ NX P n
      · rw [if_pos ⟨hf, hx⟩, if_pos hx]
        show _ + (TH P n + 0) = _
        unfold TH dD
        rw [Int.toNat_natCast]
        omega
      · rw [if_neg (fun h3 => hx h3.2), if_neg hx]
        exact Int.add_zero _
    · rw [if_neg hf, if_neg hf, if_neg (show ¬ HT P n from fun h3 => hf h3.1)]
      exact Int.add_zero _
theorem c_X2_changeOfElevations {y : bg_Y} {g : bg_E} {q : Nat} {P : bm_P} {t : Int} (hq : bg_mat q) (hM : matR g q P t) (hok : okP P) (hf : 0 ≤ nxt (FA P) 24 0) : bg_Si y 4 mX2_changeOfElevations [.inr q] g (fun r g' => r = sumT (TT P) ∧ g' = g) := by
  obtain ⟨s1, -⟩ := id hq
  have hl : ∀ k : Nat, FA P k = 1 → k < (pA P).length ∧ 0 ≤ PA P k ∧ PA P k < (pB P).length := by
    intro k hk
    obtain ⟨h1, h2, -, -⟩ := wE_I hok
    rcases Nat.lt_or_ge k (pA P).length with h3 | h3
    · have := h1 k h3; exact ⟨h3, by omega⟩
    · have := h2 k h3; omega
  have na := hok.1.2
  have nb := hok.2.1.2
  have hE1 := hM.2.2.2.1
  have hE2 := hM.2.2.2.2
  have f1 := lstM_at hf 0
  have f2 := lstM_at hf 24
  have f1b : FA P (nxt (FA P) 24 0).toNat = 1 := f1.2
  have n1 : nn (nxt (FA P) 24 0) = nxt (FA P) 24 0 := if_neg (by omega)
  have key : sumT (TT P) = dD P (lstM P 24) - dD P (nxt (FA P) 24 0) := by
    have := sum_tel (P := P) 24 (Nat.le_refl _)
    exact this
  refine bg_enter pnX2 (Nat.le_of_ble_eq_true rfl) (fun κ X hR hg => ?_)
  have X1 : bg_X κ y cX2_changeOfElevations RX2 4 0 0 := X.1
  have hg : ∀ a k, R32 (g a k) := hg
  show bg_g κ y 0 [some (.inr q), none, none, none] [] g
  have loop : ∀ (n k : Nat), k + n = 24 → bg_g κ y 10 [some (.inr q), some (.inl (nxt (FA P) 24 0)), some (.inl (lstM P k)), some (.inl (k : Int))] [] g := by
    intro n
    induction n with
    | zero =>
      intro k hn
      obtain rfl : k = 24 := by omega
      have g1 := hl _ f1b
      have g2 := hl _ f2.2
      have d1 := dep_le hok.1.1 (n := (nxt (FA P) 24 0).toNat) (by omega)
      have d2 := dep_le hok.1.1 (n := (lstM P 24).toNat) (by omega)
      have d3 := dep_le hok.2.1.1 (n := (PA P (nxt (FA P) 24 0).toNat).toNat) (by omega)
      have d4 := dep_le hok.2.1.1 (n := (PA P (lstM P 24).toNat).toNat) (by omega)
      have c1 : (((nxt (FA P) 24 0).toNat : Nat) : Int) = nxt (FA P) 24 0 := by omega
      have c2 : (((lstM P 24).toNat : Nat) : Int) = lstM P 24 := by omega
      have k1 := c_X2_differenceOfElevations (y := y) hq hM hok f1b
      have k2 := c_X2_differenceOfElevations (y := y) hq hM hok f2.2
      rw [c1] at k1
      rw [c2] at k2
      refine bg_iload3 (pc := 10) X1 dX2_changeOfElevations_10 ?_
      refine bg_bipush (pc := 11) X1 dX2_changeOfElevations_11 rfl (by decide) ?_
      refine bg_icmp_ge (pc := 13) X1 (tgt := 34) dX2_changeOfElevations_13 (by decide) (fun u13 => ?_) (fun u13 => ?_)
      · refine bg_aload0 (pc := 34) X1 dX2_changeOfElevations_34 ?_
        refine bg_iload1 (pc := 35) X1 dX2_changeOfElevations_35 ?_
        refine bo_V1i (pc := 36) X1 (k1) vX2_differenceOfElevations lX2_115 rfl (by first | assumption | rfl) (by decide) dX2_changeOfElevations_36 (by exact Nat.le_of_ble_eq_true rfl) ?_
        rintro _ _ ⟨h9, h8⟩
        obtain rfl := h9.symm
        obtain rfl := h8.symm
        clear h9 h8
        refine bg_aload0 (pc := 39) X1 dX2_changeOfElevations_39 ?_
        refine bg_iload2 (pc := 40) X1 dX2_changeOfElevations_40 ?_
        refine bo_V1i (pc := 41) X1 (k2) vX2_differenceOfElevations lX2_115 rfl (by first | assumption | rfl) (by decide) dX2_changeOfElevations_41 (by exact Nat.le_of_ble_eq_true rfl) ?_
        rintro _ _ ⟨h9, h8⟩
        obtain rfl := h9.symm
        obtain rfl := h8.symm
        clear h9 h8
        refine bg_isub (pc := 44) X1 dX2_changeOfElevations_44 (by omega) ?_
        exact bo_iret (pc := 45) X rfl dX2_changeOfElevations_45 (fun hi => ⟨by rw [key]; unfold dD; omega, rfl⟩)
      · exfalso; omega
    | succ n ih =>
      intro k hn
      refine bg_iload3 (pc := 10) X1 dX2_changeOfElevations_10 ?_
      refine bg_bipush (pc := 11) X1 dX2_changeOfElevations_11 rfl (by decide) ?_
      refine bg_icmp_ge (pc := 13) X1 (tgt := 34) dX2_changeOfElevations_13 (by decide) (fun u13 => ?_) (fun u13 => ?_)
      · exfalso; omega
      · refine bg_aload0 (pc := 16) X1 dX2_changeOfElevations_16 ?_
        refine bg_iconst (pc := 17) X1 dX2_changeOfElevations_17 (by decide) ?_
        refine bg_iload3 (pc := 18) X1 dX2_changeOfElevations_18 ?_
        refine bo_V2i (pc := 19) X1 (c_X2_fateOf hq hM) vX2_fateOf lX2_76 rfl (by first | assumption | rfl) (by decide) dX2_changeOfElevations_19 (by exact Nat.le_of_ble_eq_true rfl) ?_
        rintro _ _ ⟨h9, h8⟩
        obtain rfl := h9.symm
        obtain rfl := h8.symm
        clear h9 h8
        rw [if_pos (⟨by omega, by omega⟩ : 0 ≤ (k : Int) ∧ (k : Int) < 24), if_pos (rfl : (0 : Int) = 0), Int.toNat_natCast]
        refine bg_iconst (pc := 22) X1 dX2_changeOfElevations_22 (by decide) ?_
        refine bg_icmp_ne (pc := 23) X1 (tgt := 28) dX2_changeOfElevations_23 (by decide) (fun u23 => ?_) (fun u23 => ?_)
        · have e1 : lstM P (k + 1) = lstM P k := if_neg u23
          refine bg_iinc3 (pc := 28) X1 dX2_changeOfElevations_28 (by omega) ?_
          refine bg_goto (pc := 31) X1 (tgt := 10) dX2_changeOfElevations_31 (by decide) ?_
          have := ih (k + 1) (by omega)
          rw [e1] at this
          exact this
        · have e1 : lstM P (k + 1) = (k : Int) := if_pos u23
          refine bg_iload3 (pc := 26) X1 dX2_changeOfElevations_26 ?_
          refine bg_istore2 (pc := 27) X1 dX2_changeOfElevations_27 ?_
          refine bg_iinc3 (pc := 28) X1 dX2_changeOfElevations_28 (by omega) ?_
          refine bg_goto (pc := 31) X1 (tgt := 10) dX2_changeOfElevations_31 (by decide) ?_
          have := ih (k + 1) (by omega)
          rw [e1] at this
          exact this
  refine bg_aload0 (pc := 0) X1 dX2_changeOfElevations_0 ?_
  refine bg_iconst (pc := 1) X1 dX2_changeOfElevations_1 (by decide) ?_
  refine bo_V1i (pc := 2) X1 (c_X2_nextMatch hq hM (by omega)) vX2_nextMatch lX2_79 rfl (by first | assumption | rfl) (by decide) dX2_changeOfElevations_2 (by exact Nat.le_of_ble_eq_true rfl) ?_
  rintro _ _ ⟨h9, h8⟩
  obtain rfl := h9.symm
  obtain rfl := h8.symm
  clear h9 h8
  rw [show (24 - (-1 + 1 : Int).toNat) = 24 from rfl, show (-1 + 1 : Int).toNat = 0 from rfl, n1]
  refine bg_istore1 (pc := 5) X1 dX2_changeOfElevations_5 ?_
  refine bg_iload1 (pc := 6) X1 dX2_changeOfElevations_6 ?_
  refine bg_istore2 (pc := 7) X1 dX2_changeOfElevations_7 ?_
  refine bg_iconst (pc := 8) X1 dX2_changeOfElevations_8 (by decide) ?_
  refine bg_istore3 (pc := 9) X1 dX2_changeOfElevations_9 ?_
  exact loop 24 0 rfl
