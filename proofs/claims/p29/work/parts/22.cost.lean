/-! the costs of the steps, the table of least costs -/
def bI (x : Int) : Int := if x < 0 then 1000000 else x
theorem sc_1 {P : bm_P} {i j : Nat} : sc P 1 i j = if i < (pA P).length ∧ j < (pB P).length ∧ mrk (pA P) i = mrk (pB P) j then dif P i j else -1 := by
  unfold sc
  rw [if_pos rfl]
theorem sc_3 {P : bm_P} {i j : Nat} : sc P 3 i j = if j < (pB P).length ∧ 0 ≤ rep P i j then pR P + dif P (rep P i j).toNat j else -1 := by
  unfold sc
  rw [if_neg (by decide), if_neg (by decide), if_pos rfl]
theorem sc_2n {P : bm_P} {i j : Nat} (hi : ¬ i < (pA P).length) : sc P 2 i j = -1 := by
  unfold sc
  rw [if_neg (by decide), if_pos rfl, if_neg hi]
theorem sc_4n {P : bm_P} {i j : Nat} (hj : ¬ j < (pB P).length) : sc P 4 i j = -1 := by
  unfold sc
  rw [if_neg (by decide), if_neg (by decide), if_neg (by decide), if_pos rfl, if_neg hj]
theorem mk_at {g : bg_E} {c i : Nat} {q : bm_Q} (h : colR g c q) : (if hasP g c (i : Int) then g (c + 1) (i : Int).toNat else -1000009) = if i < q.length then mrk q i else -1000009 := by
  have h1 := h.1
  have h2 := h.2.1
  by_cases hi : i < q.length
  · rw [if_pos hi, if_pos ⟨by omega, by omega, by omega⟩]; exact (h.2.2 i hi).1
  · rw [if_neg hi, if_neg (by omega)]
theorem has_at {g : bg_E} {c i : Nat} {q : bm_Q} (h : colR g c q) : hasP g c (i : Int) ↔ i < q.length := by
  have h1 := h.1
  have h2 := h.2.1
  omega
theorem c_X3_stepCost {y : bg_Y} {g : bg_E} {q i j : Nat} {s : Int} {P : bm_P} (hq : bg_mat q) (hP : paiR g q P) (hok : okP P) (hs : 1 ≤ s ∧ s ≤ 4) (hi : i ≤ (pA P).length) (hj : j ≤ (pB P).length) : bg_Si y 3 mX3_stepCost [.inr (q + 1), .inl s, .inl (i : Int), .inl (j : Int)] g (fun r g' => r = bI (sc P s i j) ∧ g' = g) := by
  obtain ⟨s1, s2, s3, s4, s5, s6, s7, s8, s9, s10, s11, s12, s13, s14, s15, s16, s17, s18, s19⟩ := id hq
  obtain ⟨p1, p2, p3, p4, p5, p6⟩ := id hP
  have hr := hok.2.2.2.1
  have pos : ∀ z : Int, 0 ≤ z → bI z = z := fun z hz => by unfold bI; rw [if_neg (by omega)]
  have ng : bI (-1) = 1000000 := rfl
  have hm := hok.2.2.1
  refine bg_enter pnX3 (Nat.le_of_ble_eq_true rfl) (fun κ X hR hg => ?_)
  have X1 : bg_X κ y cX3_stepCost RX3 3 0 0 := X.1
  have hg : ∀ a k, R32 (g a k) := hg
  show bg_g κ y 0 [some (.inr (q + 1)), some (.inl s), some (.inl (i : Int)), some (.inl (j : Int)), none] [] g
  refine bg_iload1 (pc := 0) X1 dX3_stepCost_0 ?_
  refine bg_tsw3 (pc := 1) X1 (t0 := 28) (t1 := 81) (t2 := 94) (td := 127) dX3_stepCost_1 (by decide) (by decide) (by decide) (by decide) (fun u1 => ?_) (fun u1 => ?_) (fun u1 => ?_) (fun u1 => ?_) 
  · obtain rfl : s = 1 := u1
    rw [sc_1] at X
    refine bg_aload0 (pc := 28) X1 dX3_stepCost_28 ?_
    refine bo_getR (pc := 29) X1 dX3_stepCost_29 fX3_12 (by first | assumption | rfl) rfl (by first | assumption | rfl) ?_
    refine bg_iload2 (pc := 32) X1 dX3_stepCost_32 ?_
    refine bo_V1i (pc := 33) X1 (c_X0_has s12) vX0_has lX3_56 rfl s12.1 (by decide) dX3_stepCost_33 (by exact Nat.le_of_ble_eq_true rfl) ?_
    rintro _ _ ⟨h9, h8⟩
    obtain rfl := h9.symm
    obtain rfl := h8.symm
    clear h9 h8
    refine bo_ifeq_b (pc := 36) X1 (tgt := 78) dX3_stepCost_36 (by decide) (fun u36 => ?_) (fun u36 => ?_)
    · rw [has_at p1] at u36
      refine bg_ldc (pc := 78) X1 dX3_stepCost_78 kX3_67 (by decide) ?_
      exact bo_iret (pc := 80) X rfl dX3_stepCost_80 (fun hi => ⟨by first | (rw [if_pos ⟨u36, u47, u66⟩]; exact (pos _ (dif_R hok u36 u47).1).symm) | (rw [if_neg (fun h => u66 h.2.2), ng]) | (rw [if_neg (fun h => u47 h.2.1), ng]) | (rw [if_neg (fun h => u36 h.1), ng]), rfl⟩)
    · rw [has_at p1] at u36
      refine bg_aload0 (pc := 39) X1 dX3_stepCost_39 ?_
      refine bo_getR (pc := 40) X1 dX3_stepCost_40 fX3_18 (by first | assumption | rfl) rfl (by first | assumption | rfl) ?_
      refine bg_iload3 (pc := 43) X1 dX3_stepCost_43 ?_
      refine bo_V1i (pc := 44) X1 (c_X0_has s13) vX0_has lX3_56 rfl s13.1 (by decide) dX3_stepCost_44 (by exact Nat.le_of_ble_eq_true rfl) ?_
      rintro _ _ ⟨h9, h8⟩
      obtain rfl := h9.symm
      obtain rfl := h8.symm
      clear h9 h8
      refine bo_ifeq_b (pc := 47) X1 (tgt := 78) dX3_stepCost_47 (by decide) (fun u47 => ?_) (fun u47 => ?_)
      · rw [has_at p2] at u47
        refine bg_ldc (pc := 78) X1 dX3_stepCost_78 kX3_67 (by decide) ?_
        exact bo_iret (pc := 80) X rfl dX3_stepCost_80 (fun hi => ⟨by first | (rw [if_pos ⟨u36, u47, u66⟩]; exact (pos _ (dif_R hok u36 u47).1).symm) | (rw [if_neg (fun h => u66 h.2.2), ng]) | (rw [if_neg (fun h => u47 h.2.1), ng]) | (rw [if_neg (fun h => u36 h.1), ng]), rfl⟩)
      · rw [has_at p2] at u47
        refine bg_aload0 (pc := 50) X1 dX3_stepCost_50 ?_
        refine bo_getR (pc := 51) X1 dX3_stepCost_51 fX3_12 (by first | assumption | rfl) rfl (by first | assumption | rfl) ?_
        refine bg_iload2 (pc := 54) X1 dX3_stepCost_54 ?_
        refine bo_V1i (pc := 55) X1 (c_X0_markOf s12) vX0_markOf lX3_60 rfl s12.1 (by decide) dX3_stepCost_55 (by exact Nat.le_of_ble_eq_true rfl) ?_
        rintro _ _ ⟨h9, h8⟩
        obtain rfl := h9.symm
        obtain rfl := h8.symm
        clear h9 h8
        rw [mk_at p1, if_pos u36]
        refine bg_aload0 (pc := 58) X1 dX3_stepCost_58 ?_
        refine bo_getR (pc := 59) X1 dX3_stepCost_59 fX3_18 (by first | assumption | rfl) rfl (by first | assumption | rfl) ?_
        refine bg_iload3 (pc := 62) X1 dX3_stepCost_62 ?_
        refine bo_V1i (pc := 63) X1 (c_X0_markOf s13) vX0_markOf lX3_60 rfl s13.1 (by decide) dX3_stepCost_63 (by exact Nat.le_of_ble_eq_true rfl) ?_
        rintro _ _ ⟨h9, h8⟩
        obtain rfl := h9.symm
        obtain rfl := h8.symm
        clear h9 h8
        rw [mk_at p2, if_pos u47]
        refine bg_icmp_ne (pc := 66) X1 (tgt := 78) dX3_stepCost_66 (by decide) (fun u66 => ?_) (fun u66 => ?_)
        · refine bg_ldc (pc := 78) X1 dX3_stepCost_78 kX3_67 (by decide) ?_
          exact bo_iret (pc := 80) X rfl dX3_stepCost_80 (fun hi => ⟨by first | (rw [if_pos ⟨u36, u47, u66⟩]; exact (pos _ (dif_R hok u36 u47).1).symm) | (rw [if_neg (fun h => u66 h.2.2), ng]) | (rw [if_neg (fun h => u47 h.2.1), ng]) | (rw [if_neg (fun h => u36 h.1), ng]), rfl⟩)
        · refine bg_aload0 (pc := 69) X1 dX3_stepCost_69 ?_
          refine bg_iload2 (pc := 70) X1 dX3_stepCost_70 ?_
          refine bg_iload3 (pc := 71) X1 dX3_stepCost_71 ?_
          refine bo_V2i (pc := 72) X1 (c_X3_costOfDifference hq hP hok u36 u47) vX3_costOfDifference lX3_63 rfl (by first | assumption | rfl) (by decide) dX3_stepCost_72 (by exact Nat.le_of_ble_eq_true rfl) ?_
          rintro _ _ ⟨h9, h8⟩
          obtain rfl := h9.symm
          obtain rfl := h8.symm
          clear h9 h8
          refine bg_goto (pc := 75) X1 (tgt := 80) dX3_stepCost_75 (by decide) ?_
          exact bo_iret (pc := 80) X rfl dX3_stepCost_80 (fun hi => ⟨by first | (rw [if_pos ⟨u36, u47, u66⟩]; exact (pos _ (dif_R hok u36 u47).1).symm) | (rw [if_neg (fun h => u66 h.2.2), ng]) | (rw [if_neg (fun h => u47 h.2.1), ng]) | (rw [if_neg (fun h => u36 h.1), ng]), rfl⟩)
  · obtain rfl : s = 2 := u1
    refine bg_aload0 (pc := 81) X1 dX3_stepCost_81 ?_
    refine bg_aload0 (pc := 82) X1 dX3_stepCost_82 ?_
    refine bo_getR (pc := 83) X1 dX3_stepCost_83 fX3_12 (by first | assumption | rfl) rfl (by first | assumption | rfl) ?_
    refine bg_iload2 (pc := 86) X1 dX3_stepCost_86 ?_
    refine bo_V1i (pc := 87) X1 (c_X0_markOf s12) vX0_markOf lX3_60 rfl s12.1 (by decide) dX3_stepCost_87 (by exact Nat.le_of_ble_eq_true rfl) ?_
    rintro _ _ ⟨h9, h8⟩
    obtain rfl := h9.symm
    obtain rfl := h8.symm
    clear h9 h8
    rw [mk_at p1]
    refine bo_V1i (pc := 90) X1 (c_X3_missingCostOf hq hP) vX3_missingCostOf lX3_68 rfl (by first | assumption | rfl) (by decide) dX3_stepCost_90 (by exact Nat.le_of_ble_eq_true rfl) ?_
    rintro _ _ ⟨h9, h8⟩
    obtain rfl := h9.symm
    obtain rfl := h8.symm
    clear h9 h8
    exact bo_iret (pc := 93) X rfl dX3_stepCost_93 (fun hi => ⟨by
        by_cases h : i < (pA P).length
        · have h5 := mkOK hok.1.1 h
          have h6 := hm _ ⟨h5.1, by omega⟩
          rw [if_pos h, if_pos ⟨h5.1, by omega⟩, sc_2 h, pos _ (by omega)]
        · rw [if_neg h, sc_2n h]; rfl, rfl⟩)
  · obtain rfl : s = 3 := u1
    rw [sc_3] at X
    refine bg_aload0 (pc := 94) X1 dX3_stepCost_94 ?_
    refine bg_iload2 (pc := 95) X1 dX3_stepCost_95 ?_
    refine bg_iload3 (pc := 96) X1 dX3_stepCost_96 ?_
    refine bo_V2i (pc := 97) X1 (c_X3_repeatedBed hq hP hok hi) vX3_repeatedBed lX3_71 rfl (by first | assumption | rfl) (by decide) dX3_stepCost_97 (by exact Nat.le_of_ble_eq_true rfl) ?_
    rintro _ _ ⟨h9, h8⟩
    obtain rfl := h9.symm
    obtain rfl := h8.symm
    clear h9 h8
    refine bg_istore4 (pc := 100) X1 dX3_stepCost_100 ?_
    refine bg_iload4 (pc := 102) X1 dX3_stepCost_102 ?_
    refine bg_ldc (pc := 104) X1 dX3_stepCost_104 kX3_59 (by decide) ?_
    refine bg_icmp_ne (pc := 106) X1 (tgt := 114) dX3_stepCost_106 (by decide) (fun u106 => ?_) (fun u106 => ?_)
    · have e1 : j < (pB P).length ∧ 0 ≤ rep P i j := by
        by_cases h : j < (pB P).length ∧ 0 ≤ rep P i j
        · exact h
        · rw [if_neg h] at u106; omega
      have e2 : rep P i j < i := by rcases rep_lt (P := P) (i := i) (j := j) with h | h <;> omega
      rw [if_pos e1, show rep P i j = (((rep P i j).toNat : Nat) : Int) by omega]
      refine bg_aload0 (pc := 114) X1 dX3_stepCost_114 ?_
      refine bo_getI (pc := 115) X1 dX3_stepCost_115 fX3_25 (by first | assumption | rfl) rfl ?_
      refine bg_aload0 (pc := 118) X1 dX3_stepCost_118 ?_
      refine bg_iload4 (pc := 119) X1 dX3_stepCost_119 ?_
      refine bg_iload3 (pc := 121) X1 dX3_stepCost_121 ?_
      refine bo_V2i (pc := 122) X1 (c_X3_costOfDifference hq hP hok (by omega) e1.1) vX3_costOfDifference lX3_63 rfl (by first | assumption | rfl) (by decide) dX3_stepCost_122 (by exact Nat.le_of_ble_eq_true rfl) ?_
      rintro _ _ ⟨h9, h8⟩
      obtain rfl := h9.symm
      obtain rfl := h8.symm
      clear h9 h8
      refine bg_iadd (pc := 125) X1 dX3_stepCost_125 (by
          have := dif_R hok (i := (rep P i j).toNat) (j := j) (by omega) e1.1
          rw [p4]; omega) ?_
      exact bo_iret (pc := 126) X rfl dX3_stepCost_126 (fun hi => ⟨by first | (rw [if_neg e1, ng]) | (have h7 := dif_R hok (i := (rep P i j).toNat) (j := j) (by omega) e1.1; rw [if_pos e1, p4]; exact (pos _ (by omega)).symm), rfl⟩)
    · have e1 : ¬ (j < (pB P).length ∧ 0 ≤ rep P i j) := fun h => by rw [if_pos h] at u106; omega
      refine bg_ldc (pc := 109) X1 dX3_stepCost_109 kX3_67 (by decide) ?_
      refine bg_goto (pc := 111) X1 (tgt := 126) dX3_stepCost_111 (by decide) ?_
      exact bo_iret (pc := 126) X rfl dX3_stepCost_126 (fun hi => ⟨by first | (rw [if_neg e1, ng]) | (have h7 := dif_R hok (i := (rep P i j).toNat) (j := j) (by omega) e1.1; rw [if_pos e1, p4]; exact (pos _ (by omega)).symm), rfl⟩)
  · obtain rfl : s = 4 := by omega
    refine bg_aload0 (pc := 127) X1 dX3_stepCost_127 ?_
    refine bg_aload0 (pc := 128) X1 dX3_stepCost_128 ?_
    refine bo_getR (pc := 129) X1 dX3_stepCost_129 fX3_18 (by first | assumption | rfl) rfl (by first | assumption | rfl) ?_
    refine bg_iload3 (pc := 132) X1 dX3_stepCost_132 ?_
    refine bo_V1i (pc := 133) X1 (c_X0_markOf s13) vX0_markOf lX3_60 rfl s13.1 (by decide) dX3_stepCost_133 (by exact Nat.le_of_ble_eq_true rfl) ?_
    rintro _ _ ⟨h9, h8⟩
    obtain rfl := h9.symm
    obtain rfl := h8.symm
    clear h9 h8
    rw [mk_at p2]
    refine bo_V1i (pc := 136) X1 (c_X3_missingCostOf hq hP) vX3_missingCostOf lX3_68 rfl (by first | assumption | rfl) (by decide) dX3_stepCost_136 (by exact Nat.le_of_ble_eq_true rfl) ?_
    rintro _ _ ⟨h9, h8⟩
    obtain rfl := h9.symm
    obtain rfl := h8.symm
    clear h9 h8
    exact bo_iret (pc := 139) X rfl dX3_stepCost_139 (fun hi => ⟨by
        by_cases h : j < (pB P).length
        · have h5 := mkOK hok.2.1.1 h
          have h6 := hm _ ⟨h5.1, by omega⟩
          rw [if_pos h, if_pos ⟨h5.1, by omega⟩, sc_4 h, pos _ (by omega)]
        · rw [if_neg h, sc_4n h]; rfl, rfl⟩)
/-- the table's value -/
abbrev tb (g : bg_E) (q i j : Nat) : Int := g (q + 9) (25 * i + j)
theorem min_bI {a b S : Int} (ha : a ≤ 1000000) (hb : (b < 0 ∧ 1000000 ≤ S) ∨ (0 ≤ b ∧ S = b ∧ b ≤ 1000000)) : min (bI a) S = bI (mn a b) := by
  unfold bI mn
  split <;> split <;> (try split) <;> omega
theorem mnS_R {P : bm_P} (h : okP P) {i j : Nat} (hi : i ≤ (pA P).length) (hj : j ≤ (pB P).length) (k : Nat) : mnS P (bw P) i j k ≤ 20000 := by
  rcases mnS_or (P := P) (T := bw P) (i := i) (j := j) k with h1 | h1 | ⟨s, h1, h2, h3, h4⟩
  · omega
  · omega
  · rcases Int.lt_or_le (sc P s i j) 0 with h5 | h5
    · rw [tS_ne h5] at h3; omega
    · obtain ⟨g1, g2, g3, g4, g5, g6⟩ := sc_go h hi h5
      have := bw_B h g2 (g4 hj)
      rw [tS_go h5] at h3
      omega
theorem c_X3_costFromBottom {y : bg_Y} {g : bg_E} {q : Nat} {P : bm_P} (hq : bg_mat q) (hP : paiR g q P) (hok : okP P) (hT : tabOK g q) : bg_Si y 4 mX3_costFromBottom [.inr (q + 1)] g (fun r g' => r = bw P 0 0 ∧ tabOK g' q ∧ (∀ x z, x ≤ (pA P).length → z ≤ (pB P).length → tb g' q x z = bw P x z) ∧ frR (q + 9) (q + 10) g g') := by
  obtain ⟨s1, s2, s3, s4, s5, s6, s7, s8, s9, s10, s11, s12, s13, s14, s15, s16, s17, s18, s19⟩ := id hq
  have na := hok.1.2
  have nb := hok.2.1.2
  refine bg_enter pnX3 (Nat.le_of_ble_eq_true rfl) (fun κ X hR hg => ?_)
  have X1 : bg_X κ y cX3_costFromBottom RX3 4 0 0 := X.1
  have hg : ∀ a k, R32 (g a k) := hg
  show bg_g κ y 0 [some (.inr (q + 1)), none, none, none, none] [] g
  have inner : ∀ (n k i j : Nat) (a b : Int) (g1 : bg_E), k + n = 4 → a = (k : Int) + 1 → b = bI (mnS P (bw P) i j k) → i ≤ (pA P).length → j ≤ (pB P).length → paiR g1 q P → tabOK g1 q → (∀ x z, (i < x ∨ (i = x ∧ j < z)) → x ≤ (pA P).length → z ≤ (pB P).length → tb g1 q x z = bw P x z) → (bg_g κ y 90 [some (.inr (q + 1)), some (.inl (i : Int)), some (.inl (j : Int)), some (.inl (bw P i j)), some (.inl 5)] [] g1) → bg_g κ y 56 [some (.inr (q + 1)), some (.inl (i : Int)), some (.inl (j : Int)), some (.inl b), some (.inl a)] [] g1 := by
    intro n
    induction n with
    | zero =>
      intro k i j a b g1 hk ha hb hi hj hP1 hT1 hI hkk
      obtain rfl : k = 4 := by omega
      have e1 : bI (mnS P (bw P) i j 4) = bw P i j := by rw [← bw_eq hok hi hj]; unfold bI; rw [if_neg (by have := bw_B hok hi hj; omega)]
      obtain rfl : b = bw P i j := by rw [hb, e1]
      obtain rfl : a = 5 := by omega
      refine bg_iload4 (pc := 56) X1 dX3_costFromBottom_56 ?_
      refine bg_iconst (pc := 58) X1 dX3_costFromBottom_58 (by decide) ?_
      refine bg_icmp_gt (pc := 59) X1 (tgt := 90) dX3_costFromBottom_59 (by decide) (fun u59 => ?_) (fun u59 => ?_)
      · exact hkk
      · exfalso; omega
    | succ n ih =>
      intro k i j a b g1 hk ha hb hi hj hP1 hT1 hI hkk
      have hm0 := mnS_R hok hi hj k
      refine bg_iload4 (pc := 56) X1 dX3_costFromBottom_56 ?_
      refine bg_iconst (pc := 58) X1 dX3_costFromBottom_58 (by decide) ?_
      refine bg_icmp_gt (pc := 59) X1 (tgt := 90) dX3_costFromBottom_59 (by decide) (fun u59 => ?_) (fun u59 => ?_)
      · exfalso; omega
      · refine bg_iload3 (pc := 62) X1 dX3_costFromBottom_62 ?_
        refine bg_aload0 (pc := 63) X1 dX3_costFromBottom_63 ?_
        refine bg_iload4 (pc := 64) X1 dX3_costFromBottom_64 ?_
        refine bg_iload1 (pc := 66) X1 dX3_costFromBottom_66 ?_
        refine bg_iload2 (pc := 67) X1 dX3_costFromBottom_67 ?_
        refine bo_V3i (pc := 68) X1 (c_X3_stepCost hq hP1 hok (by omega) hi hj) vX3_stepCost lX3_98 rfl (by first | assumption | rfl) (by decide) dX3_costFromBottom_68 (by exact Nat.le_of_ble_eq_true rfl) ?_
        rintro _ _ ⟨h9, h8⟩
        obtain rfl := h9.symm
        obtain rfl := h8.symm
        clear h9 h8
        refine bg_aload0 (pc := 71) X1 dX3_costFromBottom_71 ?_
        refine bg_iload4 (pc := 72) X1 dX3_costFromBottom_72 ?_
        refine bg_iload1 (pc := 74) X1 dX3_costFromBottom_74 ?_
        refine bg_iload2 (pc := 75) X1 dX3_costFromBottom_75 ?_
        refine bo_V3i (pc := 76) X1 (c_X3_leastAfter hq (by omega) (by omega)) vX3_leastAfter lX3_102 rfl (by first | assumption | rfl) (by decide) dX3_costFromBottom_76 (by exact Nat.le_of_ble_eq_true rfl) ?_
        rintro _ _ ⟨h9, h8⟩
        obtain rfl := h9.symm
        obtain rfl := h8.symm
        clear h9 h8
        have e1 : ∃ S, bI (sc P a i j) + (if ni a i < 25 ∧ nj a j < 25 then g1 (q + 9) (25 * ni a i + nj a j) else 1000000) = S ∧ R32 S ∧ ((tS P (bw P) i j a < 0 ∧ 1000000 ≤ S) ∨ (0 ≤ tS P (bw P) i j a ∧ S = tS P (bw P) i j a ∧ tS P (bw P) i j a ≤ 1000000)) := by
          refine ⟨_, rfl, ?_⟩
          rcases Int.lt_or_le (sc P a i j) 0 with h5 | h5
          · rw [tS_ne h5]
            have h6 : bI (sc P a i j) = 1000000 := if_pos h5
            rw [h6]
            split
            · rename_i h7
              have := hT1 (25 * ni a i + nj a j) (by omega)
              omega
            · omega
          · obtain ⟨z1, z2, z3, z4, z5, z6, z7⟩ := sc_go hok hi h5
            have z8 := hI (ni a i) (nj a j) z7 z2 (z4 hj)
            have z9 := bw_B hok z2 (z4 hj)
            have h6 : bI (sc P a i j) = sc P a i j := if_neg (by omega)
            rw [tS_go h5, h6, if_pos ⟨by omega, by have := z4 hj; omega⟩]
            unfold tb at z8
            rw [z8]
            omega
        obtain ⟨S, e2, e3, e4⟩ := e1
        refine bg_iadd (pc := 79) X1 dX3_costFromBottom_79 (by rw [e2]; exact e3) ?_
        rw [e2]
        refine bo_min (pc := 80) X1 lX3_105 (by decide) dX3_costFromBottom_80 (by exact Nat.le_of_ble_eq_true rfl) ?_
        refine bg_istore3 (pc := 83) X1 dX3_costFromBottom_83 ?_
        refine bg_iinc4 (pc := 84) X1 dX3_costFromBottom_84 (by omega) ?_
        refine bg_goto (pc := 87) X1 (tgt := 56) dX3_costFromBottom_87 (by decide) ?_
        refine ih (k + 1) i j _ _ g1 (by omega) (by omega) ?_ hi hj hP1 hT1 hI hkk
        rw [hb, min_bI (by omega) e4, ha]
        rfl
  have mid : ∀ (n i : Nat) (b : Int) (l3 l4 : Option bg_V) (g1 : bg_E), b = (n : Int) - 1 → n ≤ (pB P).length + 1 → i ≤ (pA P).length → paiR g1 q P → tabOK g1 q → frR (q + 9) (q + 10) g g1 → (∀ x z, (i < x ∨ (i = x ∧ n ≤ z)) → x ≤ (pA P).length → z ≤ (pB P).length → tb g1 q x z = bw P x z) → (∀ (l2 l3 l4 : Option bg_V) (g2 : bg_E), paiR g2 q P → tabOK g2 q → frR (q + 9) (q + 10) g g2 → (∀ x z, i ≤ x → x ≤ (pA P).length → z ≤ (pB P).length → tb g2 q x z = bw P x z) → bg_g κ y 103 [some (.inr (q + 1)), some (.inl (i : Int)), l2, l3, l4] [] g2) → bg_g κ y 20 [some (.inr (q + 1)), some (.inl (i : Int)), some (.inl b), l3, l4] [] g1 := by
    intro n
    induction n with
    | zero =>
      intro i b l3 l4 g1 hb hn hi hP1 hT1 hF hI hkk
      refine bg_iload2 (pc := 20) X1 dX3_costFromBottom_20 ?_
      refine bg_if_lt (pc := 21) X1 (tgt := 103) dX3_costFromBottom_21 (by decide) (fun u21 => ?_) (fun u21 => ?_)
      · exact hkk _ _ _ g1 hP1 hT1 hF (fun x z hx => hI x z (by omega))
      · exfalso; omega
    | succ n ih =>
      intro i b l3 l4 g1 hb hn hi hP1 hT1 hF hI hkk
      obtain rfl : b = (n : Int) := by omega
      have h1 := hP1.1.1
      have h2 := hP1.2.1.1
      have hin : ∀ b0, b0 = bI (mnS P (bw P) i n 0) → bg_g κ y 56 [some (.inr (q + 1)), some (.inl (i : Int)), some (.inl (n : Int)), some (.inl b0), some (.inl 1)] [] g1 := by
        intro b0 hb0
        refine inner 4 0 i n 1 b0 g1 rfl rfl hb0 hi (by omega) hP1 hT1 (fun x z hx hx2 hz => hI x z (by omega) hx2 hz) ?_
        have hbw := bw_B hok hi (show n ≤ (pB P).length by omega)
        refine bg_aload0 (pc := 90) X1 dX3_costFromBottom_90 ?_
        refine bg_iload1 (pc := 91) X1 dX3_costFromBottom_91 ?_
        refine bg_iload2 (pc := 92) X1 dX3_costFromBottom_92 ?_
        refine bg_iload3 (pc := 93) X1 dX3_costFromBottom_93 ?_
        refine bo_V3v (pc := 94) X1 (c_X3_putLeast hq (by omega) (by omega)) vX3_putLeast lX3_108 rfl (by first | assumption | rfl) (by decide) dX3_costFromBottom_94 (by exact Nat.le_of_ble_eq_true rfl) ?_
        rintro _ h8
        obtain rfl := h8.symm
        clear h8
        refine bg_iinc2 (pc := 97) X1 dX3_costFromBottom_97 (by omega) ?_
        refine bg_goto (pc := 100) X1 (tgt := 20) dX3_costFromBottom_100 (by decide) ?_
        refine ih i _ _ _ _ (by omega) (by omega) hi (hP1.fr (frR.rf.up (Nat.le_refl _) (Nat.lt_succ_self _)) (by omega)) (fun k hk => ?_) (hF.up (Nat.le_refl _) (Nat.lt_succ_self _)) (fun x z hx hx2 hz => ?_) hkk
        · unfold bg_up
          split
          · omega
          · exact hT1 k hk
        · show bg_up g1 (q + 9) (25 * i + n) (bw P i n) (q + 9) (25 * x + z) = bw P x z
          by_cases hxz : x = i ∧ z = n
          · obtain ⟨rfl, rfl⟩ := hxz
            exact up_eq
          · rw [up_k (by omega)]
            exact hI x z (by omega) hx2 hz
      refine bg_iload2 (pc := 20) X1 dX3_costFromBottom_20 ?_
      refine bg_if_lt (pc := 21) X1 (tgt := 103) dX3_costFromBottom_21 (by decide) (fun u21 => ?_) (fun u21 => ?_)
      · exfalso; omega
      · refine bg_iload1 (pc := 24) X1 dX3_costFromBottom_24 ?_
        refine bg_aload0 (pc := 25) X1 dX3_costFromBottom_25 ?_
        refine bo_getR (pc := 26) X1 dX3_costFromBottom_26 fX3_12 (by first | assumption | rfl) rfl (by first | assumption | rfl) ?_
        refine bo_V0i (pc := 29) X1 (c_X0_size s12) vX0_size lX3_94 rfl s12.1 (by decide) dX3_costFromBottom_29 (by exact Nat.le_of_ble_eq_true rfl) ?_
        rintro _ _ ⟨h9, h8⟩
        obtain rfl := h9.symm
        obtain rfl := h8.symm
        clear h9 h8
        refine bg_icmp_ne (pc := 32) X1 (tgt := 50) dX3_costFromBottom_32 (by decide) (fun u32 => ?_) (fun u32 => ?_)
        · refine bg_ldc (pc := 50) X1 dX3_costFromBottom_50 kX3_67 (by decide) ?_
          refine bg_istore3 (pc := 52) X1 dX3_costFromBottom_52 ?_
          refine bg_iconst (pc := 53) X1 dX3_costFromBottom_53 (by decide) ?_
          refine bg_istore4 (pc := 54) X1 dX3_costFromBottom_54 ?_
          refine hin _ ?_
          unfold bI mnS
          first
          | (rw [if_pos (show i = (pA P).length ∧ n = (pB P).length by omega)]; rfl)
          | (rw [if_neg (show ¬ (i = (pA P).length ∧ n = (pB P).length) by omega)]; rfl)
        · refine bg_iload2 (pc := 35) X1 dX3_costFromBottom_35 ?_
          refine bg_aload0 (pc := 36) X1 dX3_costFromBottom_36 ?_
          refine bo_getR (pc := 37) X1 dX3_costFromBottom_37 fX3_18 (by first | assumption | rfl) rfl (by first | assumption | rfl) ?_
          refine bo_V0i (pc := 40) X1 (c_X0_size s13) vX0_size lX3_94 rfl s13.1 (by decide) dX3_costFromBottom_40 (by exact Nat.le_of_ble_eq_true rfl) ?_
          rintro _ _ ⟨h9, h8⟩
          obtain rfl := h9.symm
          obtain rfl := h8.symm
          clear h9 h8
          refine bg_icmp_ne (pc := 43) X1 (tgt := 50) dX3_costFromBottom_43 (by decide) (fun u43 => ?_) (fun u43 => ?_)
          · refine bg_ldc (pc := 50) X1 dX3_costFromBottom_50 kX3_67 (by decide) ?_
            refine bg_istore3 (pc := 52) X1 dX3_costFromBottom_52 ?_
            refine bg_iconst (pc := 53) X1 dX3_costFromBottom_53 (by decide) ?_
            refine bg_istore4 (pc := 54) X1 dX3_costFromBottom_54 ?_
            refine hin _ ?_
            unfold bI mnS
            first
            | (rw [if_pos (show i = (pA P).length ∧ n = (pB P).length by omega)]; rfl)
            | (rw [if_neg (show ¬ (i = (pA P).length ∧ n = (pB P).length) by omega)]; rfl)
          · refine bg_iconst (pc := 46) X1 dX3_costFromBottom_46 (by decide) ?_
            refine bg_goto (pc := 47) X1 (tgt := 52) dX3_costFromBottom_47 (by decide) ?_
            refine bg_istore3 (pc := 52) X1 dX3_costFromBottom_52 ?_
            refine bg_iconst (pc := 53) X1 dX3_costFromBottom_53 (by decide) ?_
            refine bg_istore4 (pc := 54) X1 dX3_costFromBottom_54 ?_
            refine hin _ ?_
            unfold bI mnS
            first
            | (rw [if_pos (show i = (pA P).length ∧ n = (pB P).length by omega)]; rfl)
            | (rw [if_neg (show ¬ (i = (pA P).length ∧ n = (pB P).length) by omega)]; rfl)
  have outer : ∀ (n : Nat) (a : Int) (l2 l3 l4 : Option bg_V) (g1 : bg_E), a = (n : Int) - 1 → n ≤ (pA P).length + 1 → paiR g1 q P → tabOK g1 q → frR (q + 9) (q + 10) g g1 → (∀ x z, n ≤ x → x ≤ (pA P).length → z ≤ (pB P).length → tb g1 q x z = bw P x z) → bg_g κ y 8 [some (.inr (q + 1)), some (.inl a), l2, l3, l4] [] g1 := by
    intro n
    induction n with
    | zero =>
      intro a l2 l3 l4 g1 ha hn hP1 hT1 hF hI
      refine bg_iload1 (pc := 8) X1 dX3_costFromBottom_8 ?_
      refine bg_if_lt (pc := 9) X1 (tgt := 109) dX3_costFromBottom_9 (by decide) (fun u9 => ?_) (fun u9 => ?_)
      · refine bg_aload0 (pc := 109) X1 dX3_costFromBottom_109 ?_
        refine bg_iconst (pc := 110) X1 dX3_costFromBottom_110 (by decide) ?_
        refine bg_iconst (pc := 111) X1 dX3_costFromBottom_111 (by decide) ?_
        refine bo_V2i (pc := 112) X1 (c_X3_leastAt (i := 0) (j := 0) hq) vX3_leastAt lX3_91 rfl (by first | assumption | rfl) (by decide) dX3_costFromBottom_112 (by exact Nat.le_of_ble_eq_true rfl) ?_
        rintro _ _ ⟨h9, h8⟩
        obtain rfl := h9.symm
        obtain rfl := h8.symm
        clear h9 h8
        exact bo_iret (pc := 115) X rfl dX3_costFromBottom_115 (fun hi => ⟨by rw [if_pos (by decide)]; exact hI 0 0 (Nat.le_refl _) (Nat.zero_le _) (Nat.zero_le _), hT1, fun x z hx hz => hI x z (Nat.zero_le _) hx hz, hF⟩)
      · exfalso; omega
    | succ n ih =>
      intro a l2 l3 l4 g1 ha hn hP1 hT1 hF hI
      obtain rfl : a = (n : Int) := by omega
      have h2 := hP1.2.1.1
      refine bg_iload1 (pc := 8) X1 dX3_costFromBottom_8 ?_
      refine bg_if_lt (pc := 9) X1 (tgt := 109) dX3_costFromBottom_9 (by decide) (fun u9 => ?_) (fun u9 => ?_)
      · exfalso; omega
      · refine bg_aload0 (pc := 12) X1 dX3_costFromBottom_12 ?_
        refine bo_getR (pc := 13) X1 dX3_costFromBottom_13 fX3_18 (by first | assumption | rfl) rfl (by first | assumption | rfl) ?_
        refine bo_V0i (pc := 16) X1 (c_X0_size s13) vX0_size lX3_94 rfl s13.1 (by decide) dX3_costFromBottom_16 (by exact Nat.le_of_ble_eq_true rfl) ?_
        rintro _ _ ⟨h9, h8⟩
        obtain rfl := h9.symm
        obtain rfl := h8.symm
        clear h9 h8
        refine bg_istore2 (pc := 19) X1 dX3_costFromBottom_19 ?_
        refine mid ((pB P).length + 1) n _ _ _ g1 (by omega) (Nat.le_refl _) (by omega) hP1 hT1 hF (fun x z hx hx2 hz => hI x z (by omega) hx2 hz) ?_
        intro l2 l3 l4 g2 k1 k2 k3 k4
        refine bg_iinc1 (pc := 103) X1 dX3_costFromBottom_103 (by omega) ?_
        refine bg_goto (pc := 106) X1 (tgt := 8) dX3_costFromBottom_106 (by decide) ?_
        exact ih _ _ _ _ g2 (by omega) (by omega) k1 k2 k3 k4
  have h1 := hP.1.1
  refine bg_aload0 (pc := 0) X1 dX3_costFromBottom_0 ?_
  refine bo_getR (pc := 1) X1 dX3_costFromBottom_1 fX3_12 (by first | assumption | rfl) rfl (by first | assumption | rfl) ?_
  refine bo_V0i (pc := 4) X1 (c_X0_size s12) vX0_size lX3_94 rfl s12.1 (by decide) dX3_costFromBottom_4 (by exact Nat.le_of_ble_eq_true rfl) ?_
  rintro _ _ ⟨h9, h8⟩
  obtain rfl := h9.symm
  obtain rfl := h8.symm
  clear h9 h8
  refine bg_istore1 (pc := 7) X1 dX3_costFromBottom_7 ?_
  exact outer ((pA P).length + 1) _ _ _ _ g (by omega) (Nat.le_refl _) hP hT frR.rf (fun x z hx hx2 hz => by omega)
