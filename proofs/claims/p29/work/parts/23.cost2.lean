/-! the table from the top; the first best step; what a pair takes -/
def scI (P : bm_P) (s : Int) (i j : Nat) : Int := bI (sc P s i j)
/-- a cell that can still lead to the least cost -/
def wit (g : bg_E) (q : Nat) (P : bm_P) (x z : Nat) : Prop := x ≤ (pA P).length ∧ z ≤ (pB P).length ∧ tb g q x z + bw P x z ≤ bw P 0 0
/-- no cell is too cheap -/
def lowOK (g : bg_E) (q : Nat) (P : bm_P) : Prop := ∀ x z, x ≤ (pA P).length → z ≤ (pB P).length → bw P 0 0 ≤ tb g q x z + bw P x z
theorem c_X3_costFromTop {y : bg_Y} {g : bg_E} {q : Nat} {P : bm_P} (hq : bg_mat q) (hP : paiR g q P) (hok : okP P) : bg_Si y 4 mX3_costFromTop [.inr (q + 1)] g (fun r g' => r = bw P 0 0 ∧ tabOK g' q ∧ frR (q + 9) (q + 10) g g') := by
  obtain ⟨s1, s2, s3, s4, s5, s6, s7, s8, s9, s10, s11, s12, s13, s14, s15, s16, s17, s18, s19⟩ := id hq
  have na := hok.1.2
  have nb := hok.2.1.2
  have b00 := bw_B hok (Nat.zero_le _) (Nat.zero_le _)
  refine bg_enter pnX3 (Nat.le_of_ble_eq_true rfl) (fun κ X hR hg => ?_)
  have X1 : bg_X κ y cX3_costFromTop RX3 4 0 0 := X.1
  have hg : ∀ a k, R32 (g a k) := hg
  show bg_g κ y 0 [some (.inr (q + 1)), none, none, none, none] [] g
  have inner : ∀ (n i j : Nat) (a : Int) (l4 : Option bg_V) (g1 : bg_E), a + n = 5 → 1 ≤ a → i ≤ (pA P).length → j ≤ (pB P).length → paiR g1 q P → tabOK g1 q → frR (q + 9) (q + 10) g g1 → lowOK g1 q P →
      ((∃ x z, (i < x ∨ (i = x ∧ j < z)) ∧ wit g1 q P x z) ∨ (wit g1 q P i j ∧ ((i = (pA P).length ∧ j = (pB P).length) ∨ ∃ s : Int, a ≤ s ∧ s ≤ 4 ∧ 0 ≤ sc P s i j ∧ bw P i j = sc P s i j + bw P (ni s i) (nj s j)))) →
      (∀ (l3 l4 : Option bg_V) (g2 : bg_E), paiR g2 q P → tabOK g2 q → frR (q + 9) (q + 10) g g2 → lowOK g2 q P → ((∃ x z, (i < x ∨ (i = x ∧ j < z)) ∧ wit g2 q P x z) ∨ (wit g2 q P i j ∧ i = (pA P).length ∧ j = (pB P).length)) → bg_g κ y 113 [some (.inr (q + 1)), some (.inl (i : Int)), some (.inl (j : Int)), l3, l4] [] g2) →
      bg_g κ y 58 [some (.inr (q + 1)), some (.inl (i : Int)), some (.inl (j : Int)), some (.inl a), l4] [] g1 := by
    intro n
    induction n with
    | zero =>
      intro i j a l4 g1 hn ha hi hj hP1 hT1 hF hlo hw hkk
      refine bg_iload3 (pc := 58) X1 dX3_costFromTop_58 ?_
      refine bg_iconst (pc := 59) X1 dX3_costFromTop_59 (by decide) ?_
      refine bg_icmp_gt (pc := 60) X1 (tgt := 113) dX3_costFromTop_60 (by decide) (fun u60 => ?_) (fun u60 => ?_)
      · refine hkk _ _ g1 hP1 hT1 hF hlo ?_
        rcases hw with h | ⟨h, h2 | ⟨s, h3, h4, h5⟩⟩
        · exact Or.inl h
        · exact Or.inr ⟨h, h2⟩
        · omega
      · exfalso; omega
    | succ n ih =>
      intro i j a l4 g1 hn ha hi hj hP1 hT1 hF hlo hw hkk
      have hc := hT1 (25 * i + j) (by omega)
      have hsI : 0 ≤ bI (sc P a i j) ∧ bI (sc P a i j) ≤ 1000000 ∧ (sc P a i j < 0 → bI (sc P a i j) = 1000000) ∧ (0 ≤ sc P a i j → bI (sc P a i j) = sc P a i j) := by
        rcases Int.lt_or_le (sc P a i j) 0 with h5 | h5
        · have h6 : bI (sc P a i j) = 1000000 := if_pos h5
          omega
        · have h6 : bI (sc P a i j) = sc P a i j := if_neg (by omega)
          have := (sc_go hok hi h5).2.2.2.2.2.1
          omega
      obtain ⟨w, hw2⟩ : ∃ w, w = (if ni a i < 25 ∧ nj a j < 25 then g1 (q + 9) (25 * ni a i + nj a j) else 1000000) := ⟨_, rfl⟩
      have hw3 : 0 ≤ w ∧ w ≤ 1000000 := by
        rw [hw2]
        split
        · exact hT1 _ (by omega)
        · omega
      refine bg_iload3 (pc := 58) X1 dX3_costFromTop_58 ?_
      refine bg_iconst (pc := 59) X1 dX3_costFromTop_59 (by decide) ?_
      refine bg_icmp_gt (pc := 60) X1 (tgt := 113) dX3_costFromTop_60 (by decide) (fun u60 => ?_) (fun u60 => ?_)
      · exfalso; omega
      · refine bg_aload0 (pc := 63) X1 dX3_costFromTop_63 ?_
        refine bg_iload1 (pc := 64) X1 dX3_costFromTop_64 ?_
        refine bg_iload2 (pc := 65) X1 dX3_costFromTop_65 ?_
        refine bo_V2i (pc := 66) X1 (c_X3_leastAt hq) vX3_leastAt lX3_91 rfl (by first | assumption | rfl) (by decide) dX3_costFromTop_66 (by exact Nat.le_of_ble_eq_true rfl) ?_
        rintro _ _ ⟨h9, h8⟩
        obtain rfl := h9.symm
        obtain rfl := h8.symm
        clear h9 h8
        rw [if_pos (⟨by omega, by omega⟩ : i < 25 ∧ j < 25)]
        refine bg_aload0 (pc := 69) X1 dX3_costFromTop_69 ?_
        refine bg_iload3 (pc := 70) X1 dX3_costFromTop_70 ?_
        refine bg_iload1 (pc := 71) X1 dX3_costFromTop_71 ?_
        refine bg_iload2 (pc := 72) X1 dX3_costFromTop_72 ?_
        refine bo_V3i (pc := 73) X1 (c_X3_stepCost hq hP1 hok (by omega) hi hj) vX3_stepCost lX3_98 rfl (by first | assumption | rfl) (by decide) dX3_costFromTop_73 (by exact Nat.le_of_ble_eq_true rfl) ?_
        rintro _ _ ⟨h9, h8⟩
        obtain rfl := h9.symm
        obtain rfl := h8.symm
        clear h9 h8
        refine bg_iadd (pc := 76) X1 dX3_costFromTop_76 (by omega) ?_
        refine bg_istore4 (pc := 77) X1 dX3_costFromTop_77 ?_
        refine bg_iload4 (pc := 79) X1 dX3_costFromTop_79 ?_
        refine bg_aload0 (pc := 81) X1 dX3_costFromTop_81 ?_
        refine bg_iload3 (pc := 82) X1 dX3_costFromTop_82 ?_
        refine bg_iload1 (pc := 83) X1 dX3_costFromTop_83 ?_
        refine bg_iload2 (pc := 84) X1 dX3_costFromTop_84 ?_
        refine bo_V3i (pc := 85) X1 (c_X3_leastAfter hq (by omega) (by omega)) vX3_leastAfter lX3_102 rfl (by first | assumption | rfl) (by decide) dX3_costFromTop_85 (by exact Nat.le_of_ble_eq_true rfl) ?_
        rintro _ _ ⟨h9, h8⟩
        obtain rfl := h9.symm
        obtain rfl := h8.symm
        clear h9 h8
        rw [← hw2]
        refine bg_icmp_ge (pc := 88) X1 (tgt := 107) dX3_costFromTop_88 (by decide) (fun u88 => ?_) (fun u88 => ?_)
        · refine bg_iinc3 (pc := 107) X1 dX3_costFromTop_107 (by omega) ?_
          refine bg_goto (pc := 110) X1 (tgt := 58) dX3_costFromTop_110 (by decide) ?_
          refine ih i j _ _ g1 (by omega) (by omega) hi hj hP1 hT1 hF hlo ?_ hkk
          rcases hw with h | ⟨h, h2 | ⟨s, h3, h4, h5, h6⟩⟩
          · exact Or.inl h
          · exact Or.inr ⟨h, Or.inl h2⟩
          · by_cases hsa : s = a
            · subst hsa
              obtain ⟨z1, z2, z3, z4, z5, z6, z7⟩ := sc_go hok hi h5
              have z8 := z4 hj
              rw [if_pos (⟨by omega, by omega⟩ : ni s i < 25 ∧ nj s j < 25)] at hw2
              refine Or.inl ⟨ni s i, nj s j, z7, z2, z8, ?_⟩
              have h7 := h.2.2
              show tb g1 q (ni s i) (nj s j) + _ ≤ _
              unfold tb at h7 ⊢
              omega
            · exact Or.inr ⟨h, Or.inr ⟨s, by omega, h4, h5, h6⟩⟩
        · have hgo : 0 ≤ sc P a i j := by
            rcases Int.lt_or_le (sc P a i j) 0 with h5 | h5
            · have := hsI.2.2.1 h5; omega
            · exact h5
          obtain ⟨z1, z2, z3, z4, z5, z6, z7⟩ := sc_go hok hi hgo
          have z8 := z4 hj
          rw [if_pos (⟨by omega, by omega⟩ : ni a i < 25 ∧ nj a j < 25)] at hw2
          refine bg_aload0 (pc := 91) X1 dX3_costFromTop_91 ?_
          refine bg_iload3 (pc := 92) X1 dX3_costFromTop_92 ?_
          refine bg_iload1 (pc := 93) X1 dX3_costFromTop_93 ?_
          refine bo_S2i (pc := 94) X1 (c_X3_nextOfA (by omega)) sX3_nextOfA lX3_85 rfl (by decide) dX3_costFromTop_94 (by exact Nat.le_of_ble_eq_true rfl) ?_
          rintro _ _ ⟨h9, h8⟩
          obtain rfl := h9.symm
          obtain rfl := h8.symm
          clear h9 h8
          refine bg_iload3 (pc := 97) X1 dX3_costFromTop_97 ?_
          refine bg_iload2 (pc := 98) X1 dX3_costFromTop_98 ?_
          refine bo_S2i (pc := 99) X1 (c_X3_nextOfB (by omega)) sX3_nextOfB lX3_88 rfl (by decide) dX3_costFromTop_99 (by exact Nat.le_of_ble_eq_true rfl) ?_
          rintro _ _ ⟨h9, h8⟩
          obtain rfl := h9.symm
          obtain rfl := h8.symm
          clear h9 h8
          refine bg_iload4 (pc := 102) X1 dX3_costFromTop_102 ?_
          refine bo_V3v (pc := 104) X1 (c_X3_putLeast hq (by omega) (by omega)) vX3_putLeast lX3_108 rfl (by first | assumption | rfl) (by decide) dX3_costFromTop_104 (by exact Nat.le_of_ble_eq_true rfl) ?_
          rintro _ h8
          obtain rfl := h8.symm
          clear h8
          refine bg_iinc3 (pc := 107) X1 dX3_costFromTop_107 (by omega) ?_
          refine bg_goto (pc := 110) X1 (tgt := 58) dX3_costFromTop_110 (by decide) ?_
          have e0 := hsI.2.2.2 hgo
          have dec : ∀ x z, x ≤ (pA P).length → z ≤ (pB P).length → tb (bg_up g1 (q + 9) (25 * ni a i + nj a j) (g1 (q + 9) (25 * i + j) + bI (sc P a i j))) q x z ≤ tb g1 q x z := fun x z hx hz => by
            unfold tb bg_up
            split
            · rename_i h8; rw [← h8.2] at hw2; omega
            · omega
          refine ih i j _ _ _ (by omega) (by omega) hi hj (hP1.fr (frR.rf.up (Nat.le_refl _) (Nat.lt_succ_self _)) (by omega)) (fun k hk => ?_) (hF.up (Nat.le_refl _) (Nat.lt_succ_self _)) (fun x z hx hz => ?_) ?_ hkk
          · unfold bg_up
            split
            · omega
            · exact hT1 k hk
          · unfold tb bg_up
            split
            · rename_i h8
              have e1 : x = ni a i ∧ z = nj a j := by omega
              obtain ⟨rfl, rfl⟩ := e1
              have h9 := hlo i j hi hj
              have h10 := bw_le hok hi hj hgo
              unfold tb at h9
              omega
            · exact hlo x z hx hz
          · rcases hw with ⟨x, z, h, h1, h2, h3⟩ | ⟨h, h2 | ⟨s, h3, h4, h5, h6⟩⟩
            · exact Or.inl ⟨x, z, h, h1, h2, Int.le_trans (Int.add_le_add_right (dec x z h1 h2) _) h3⟩
            · obtain ⟨rfl, rfl⟩ := h2
              exact absurd hgo (by have := sc_end (P := P) (s := a); omega)
            · by_cases hsa : s = a
              · subst hsa
                refine Or.inl ⟨ni s i, nj s j, z7, z2, z8, ?_⟩
                have h7 := h.2.2
                unfold tb at h7 ⊢
                rw [up_eq]
                omega
              · exact Or.inr ⟨⟨h.1, h.2.1, Int.le_trans (Int.add_le_add_right (dec i j hi hj) _) h.2.2⟩, Or.inr ⟨s, by omega, h4, h5, h6⟩⟩
  have mid : ∀ (n i j : Nat) (l3 l4 : Option bg_V) (g1 : bg_E), j + n = (pB P).length + 1 → i ≤ (pA P).length → paiR g1 q P → tabOK g1 q → frR (q + 9) (q + 10) g g1 → lowOK g1 q P →
      ((∃ x z, (i < x ∨ (i = x ∧ j ≤ z)) ∧ wit g1 q P x z) ∨ (n = 0 ∧ wit g1 q P (pA P).length (pB P).length)) →
      (∀ (l2 l3 l4 : Option bg_V) (g2 : bg_E), paiR g2 q P → tabOK g2 q → frR (q + 9) (q + 10) g g2 → lowOK g2 q P → ((∃ x z, i < x ∧ wit g2 q P x z) ∨ wit g2 q P (pA P).length (pB P).length) → bg_g κ y 119 [some (.inr (q + 1)), some (.inl (i : Int)), l2, l3, l4] [] g2) →
      bg_g κ y 45 [some (.inr (q + 1)), some (.inl (i : Int)), some (.inl (j : Int)), l3, l4] [] g1 := by
    intro n
    induction n with
    | zero =>
      intro i j l3 l4 g1 hn hi hP1 hT1 hF hlo hw hkk
      have h2 := hP1.2.1.1
      refine bg_iload2 (pc := 45) X1 dX3_costFromTop_45 ?_
      refine bg_aload0 (pc := 46) X1 dX3_costFromTop_46 ?_
      refine bo_getR (pc := 47) X1 dX3_costFromTop_47 fX3_18 (by first | assumption | rfl) rfl (by first | assumption | rfl) ?_
      refine bo_V0i (pc := 50) X1 (c_X0_size s13) vX0_size lX3_94 rfl s13.1 (by decide) dX3_costFromTop_50 (by exact Nat.le_of_ble_eq_true rfl) ?_
      rintro _ _ ⟨h9, h8⟩
      obtain rfl := h9.symm
      obtain rfl := h8.symm
      clear h9 h8
      refine bg_icmp_gt (pc := 53) X1 (tgt := 119) dX3_costFromTop_53 (by decide) (fun u53 => ?_) (fun u53 => ?_)
      · refine hkk _ _ _ g1 hP1 hT1 hF hlo ?_
        rcases hw with ⟨x, z, h, h1⟩ | h
        · exact Or.inl ⟨x, z, by have := h1.2.1; omega, h1⟩
        · exact Or.inr h.2
      · exfalso; omega
    | succ n ih =>
      intro i j l3 l4 g1 hn hi hP1 hT1 hF hlo hw hkk
      have h2 := hP1.2.1.1
      refine bg_iload2 (pc := 45) X1 dX3_costFromTop_45 ?_
      refine bg_aload0 (pc := 46) X1 dX3_costFromTop_46 ?_
      refine bo_getR (pc := 47) X1 dX3_costFromTop_47 fX3_18 (by first | assumption | rfl) rfl (by first | assumption | rfl) ?_
      refine bo_V0i (pc := 50) X1 (c_X0_size s13) vX0_size lX3_94 rfl s13.1 (by decide) dX3_costFromTop_50 (by exact Nat.le_of_ble_eq_true rfl) ?_
      rintro _ _ ⟨h9, h8⟩
      obtain rfl := h9.symm
      obtain rfl := h8.symm
      clear h9 h8
      refine bg_icmp_gt (pc := 53) X1 (tgt := 119) dX3_costFromTop_53 (by decide) (fun u53 => ?_) (fun u53 => ?_)
      · exfalso; omega
      · refine bg_iconst (pc := 56) X1 dX3_costFromTop_56 (by decide) ?_
        refine bg_istore3 (pc := 57) X1 dX3_costFromTop_57 ?_
        refine inner 4 i j _ _ g1 (by omega) (by decide) hi (by omega) hP1 hT1 hF hlo ?_ ?_
        · rcases hw with ⟨x, z, h, h1⟩ | h
          · by_cases hxz : i = x ∧ j = z
            · obtain ⟨rfl, rfl⟩ := hxz
              refine Or.inr ⟨h1, ?_⟩
              rcases bw_at hok h1.1 h1.2.1 with h3 | ⟨s, h3, h4, h5⟩
              · exact Or.inl h3
              · exact Or.inr ⟨s, h3.1, h3.2, h4, h5⟩
            · exact Or.inl ⟨x, z, by omega, h1⟩
          · exact absurd h.1 (by omega)
        · intro l3 l4 g2 k1 k2 k3 k4 k5
          refine bg_iinc2 (pc := 113) X1 dX3_costFromTop_113 (by omega) ?_
          refine bg_goto (pc := 116) X1 (tgt := 45) dX3_costFromTop_116 (by decide) ?_
          refine ih i (j + 1) _ _ g2 (by omega) hi k1 k2 k3 k4 ?_ hkk
          rcases k5 with ⟨x, z, h, h1⟩ | ⟨h, rfl, rfl⟩
          · exact Or.inl ⟨x, z, by omega, h1⟩
          · exact Or.inr ⟨by omega, h⟩
  have outer : ∀ (n i : Nat) (l2 l3 l4 : Option bg_V) (g1 : bg_E), i + n = (pA P).length + 1 → paiR g1 q P → tabOK g1 q → frR (q + 9) (q + 10) g g1 → lowOK g1 q P → ((∃ x z, i ≤ x ∧ wit g1 q P x z) ∨ (n = 0 ∧ wit g1 q P (pA P).length (pB P).length)) → bg_g κ y 32 [some (.inr (q + 1)), some (.inl (i : Int)), l2, l3, l4] [] g1 := by
    intro n
    induction n with
    | zero =>
      intro i l2 l3 l4 g1 hn hP1 hT1 hF hlo hw
      have h1 := hP1.1.1
      have h2 := hP1.2.1.1
      have fin : g1 (q + 9) (25 * (pA P).length + (pB P).length) = bw P 0 0 := by
        have h3 := hlo _ _ (Nat.le_refl _) (Nat.le_refl _)
        rw [bw_end hok] at h3
        unfold tb at h3
        rcases hw with ⟨x, z, h, h4⟩ | h
        · have := h4.1; omega
        · have h5 := h.2.2.2
          rw [bw_end hok] at h5
          unfold tb at h5
          omega
      refine bg_iload1 (pc := 32) X1 dX3_costFromTop_32 ?_
      refine bg_aload0 (pc := 33) X1 dX3_costFromTop_33 ?_
      refine bo_getR (pc := 34) X1 dX3_costFromTop_34 fX3_12 (by first | assumption | rfl) rfl (by first | assumption | rfl) ?_
      refine bo_V0i (pc := 37) X1 (c_X0_size s12) vX0_size lX3_94 rfl s12.1 (by decide) dX3_costFromTop_37 (by exact Nat.le_of_ble_eq_true rfl) ?_
      rintro _ _ ⟨h9, h8⟩
      obtain rfl := h9.symm
      obtain rfl := h8.symm
      clear h9 h8
      refine bg_icmp_gt (pc := 40) X1 (tgt := 125) dX3_costFromTop_40 (by decide) (fun u40 => ?_) (fun u40 => ?_)
      · refine bg_aload0 (pc := 125) X1 dX3_costFromTop_125 ?_
        refine bg_aload0 (pc := 126) X1 dX3_costFromTop_126 ?_
        refine bo_getR (pc := 127) X1 dX3_costFromTop_127 fX3_12 (by first | assumption | rfl) rfl (by first | assumption | rfl) ?_
        refine bo_V0i (pc := 130) X1 (c_X0_size s12) vX0_size lX3_94 rfl s12.1 (by decide) dX3_costFromTop_130 (by exact Nat.le_of_ble_eq_true rfl) ?_
        rintro _ _ ⟨h9, h8⟩
        obtain rfl := h9.symm
        obtain rfl := h8.symm
        clear h9 h8
        refine bg_aload0 (pc := 133) X1 dX3_costFromTop_133 ?_
        refine bo_getR (pc := 134) X1 dX3_costFromTop_134 fX3_18 (by first | assumption | rfl) rfl (by first | assumption | rfl) ?_
        refine bo_V0i (pc := 137) X1 (c_X0_size s13) vX0_size lX3_94 rfl s13.1 (by decide) dX3_costFromTop_137 (by exact Nat.le_of_ble_eq_true rfl) ?_
        rintro _ _ ⟨h9, h8⟩
        obtain rfl := h9.symm
        obtain rfl := h8.symm
        clear h9 h8
        rw [h1, h2]
        refine bo_V2i (pc := 140) X1 (c_X3_leastAt hq) vX3_leastAt lX3_91 rfl (by first | assumption | rfl) (by decide) dX3_costFromTop_140 (by exact Nat.le_of_ble_eq_true rfl) ?_
        rintro _ _ ⟨h9, h8⟩
        obtain rfl := h9.symm
        obtain rfl := h8.symm
        clear h9 h8
        exact bo_iret (pc := 143) X rfl dX3_costFromTop_143 (fun hi => ⟨by rw [if_pos ⟨by omega, by omega⟩]; exact fin, hT1, hF⟩)
      · exfalso; omega
    | succ n ih =>
      intro i l2 l3 l4 g1 hn hP1 hT1 hF hlo hw
      have h1 := hP1.1.1
      refine bg_iload1 (pc := 32) X1 dX3_costFromTop_32 ?_
      refine bg_aload0 (pc := 33) X1 dX3_costFromTop_33 ?_
      refine bo_getR (pc := 34) X1 dX3_costFromTop_34 fX3_12 (by first | assumption | rfl) rfl (by first | assumption | rfl) ?_
      refine bo_V0i (pc := 37) X1 (c_X0_size s12) vX0_size lX3_94 rfl s12.1 (by decide) dX3_costFromTop_37 (by exact Nat.le_of_ble_eq_true rfl) ?_
      rintro _ _ ⟨h9, h8⟩
      obtain rfl := h9.symm
      obtain rfl := h8.symm
      clear h9 h8
      refine bg_icmp_gt (pc := 40) X1 (tgt := 125) dX3_costFromTop_40 (by decide) (fun u40 => ?_) (fun u40 => ?_)
      · exfalso; omega
      · refine bg_iconst (pc := 43) X1 dX3_costFromTop_43 (by decide) ?_
        refine bg_istore2 (pc := 44) X1 dX3_costFromTop_44 ?_
        refine mid ((pB P).length + 1) i 0 _ _ g1 (by omega) (by omega) hP1 hT1 hF hlo ?_ ?_
        · rcases hw with ⟨x, z, h, h3⟩ | h
          · exact Or.inl ⟨x, z, by omega, h3⟩
          · exact absurd h.1 (by omega)
        · intro l2 l3 l4 g2 k1 k2 k3 k4 k5
          refine bg_iinc1 (pc := 119) X1 dX3_costFromTop_119 (by omega) ?_
          refine bg_goto (pc := 122) X1 (tgt := 32) dX3_costFromTop_122 (by decide) ?_
          refine ih (i + 1) _ _ _ g2 (by omega) k1 k2 k3 k4 ?_
          rcases k5 with ⟨x, z, h, h1⟩ | h
          · exact Or.inl ⟨x, z, h, h1⟩
          · by_cases hn0 : n = 0
            · exact Or.inr ⟨hn0, h⟩
            · exact Or.inl ⟨_, _, by omega, h⟩
  have fill : ∀ (n k : Nat) (l2 l3 l4 : Option bg_V) (g1 : bg_E), k + n = 625 → paiR g1 q P → frR (q + 9) (q + 10) g g1 → (∀ x, x < k → g1 (q + 9) x = 1000000) → bg_g κ y 2 [some (.inr (q + 1)), some (.inl (k : Int)), l2, l3, l4] [] g1 := by
    intro n
    induction n with
    | zero =>
      intro k l2 l3 l4 g1 hn hP1 hF hI
      refine bg_iload1 (pc := 2) X1 dX3_costFromTop_2 ?_
      refine bg_sipush (pc := 3) X1 dX3_costFromTop_3 rfl (by decide) ?_
      refine bg_icmp_ge (pc := 6) X1 (tgt := 23) dX3_costFromTop_6 (by decide) (fun u6 => ?_) (fun u6 => ?_)
      · refine bg_aload0 (pc := 23) X1 dX3_costFromTop_23 ?_
        refine bg_iconst (pc := 24) X1 dX3_costFromTop_24 (by decide) ?_
        refine bg_iconst (pc := 25) X1 dX3_costFromTop_25 (by decide) ?_
        refine bg_iconst (pc := 26) X1 dX3_costFromTop_26 (by decide) ?_
        refine bo_V3v (pc := 27) X1 (c_X3_putLeast (i := 0) (j := 0) hq (by decide) (by decide)) vX3_putLeast lX3_108 rfl (by first | assumption | rfl) (by decide) dX3_costFromTop_27 (by exact Nat.le_of_ble_eq_true rfl) ?_
        rintro _ h8
        obtain rfl := h8.symm
        clear h8
        refine bg_iconst (pc := 30) X1 dX3_costFromTop_30 (by decide) ?_
        refine bg_istore1 (pc := 31) X1 dX3_costFromTop_31 ?_
        have hv : ∀ x, x < 625 → x ≠ 0 → bg_up g1 (q + 9) (25 * 0 + 0) 0 (q + 9) x = 1000000 := fun x hx h0 => by rw [up_k (by omega)]; exact hI x (by omega)
        refine outer ((pA P).length + 1) 0 _ _ _ _ (by omega) (hP1.fr (frR.rf.up (Nat.le_refl _) (Nat.lt_succ_self _)) (by omega)) (fun x hx => ?_) (hF.up (Nat.le_refl _) (Nat.lt_succ_self _)) (fun x z hx hz => ?_) (Or.inl ⟨0, 0, Nat.le_refl _, Nat.zero_le _, Nat.zero_le _, ?_⟩)
        · by_cases h0 : x = 0
          · subst h0; rw [show (25 * 0 + 0 : Nat) = 0 from rfl, up_eq]; omega
          · rw [hv x hx h0]; omega
        · by_cases h0 : x = 0 ∧ z = 0
          · obtain ⟨rfl, rfl⟩ := h0
            unfold tb
            rw [up_eq]; omega
          · unfold tb
            rw [hv _ (by omega) (by omega)]
            have := bw_B hok hx hz
            omega
        · unfold tb
          rw [up_eq]; omega
      · exfalso; omega
    | succ n ih =>
      intro k l2 l3 l4 g1 hn hP1 hF hI
      refine bg_iload1 (pc := 2) X1 dX3_costFromTop_2 ?_
      refine bg_sipush (pc := 3) X1 dX3_costFromTop_3 rfl (by decide) ?_
      refine bg_icmp_ge (pc := 6) X1 (tgt := 23) dX3_costFromTop_6 (by decide) (fun u6 => ?_) (fun u6 => ?_)
      · exfalso; omega
      · refine bg_aload0 (pc := 9) X1 dX3_costFromTop_9 ?_
        refine bo_getR (pc := 10) X1 dX3_costFromTop_10 fX3_35 (by first | assumption | rfl) rfl (by first | assumption | rfl) ?_
        refine bg_iload1 (pc := 13) X1 dX3_costFromTop_13 ?_
        refine bg_ldc (pc := 14) X1 dX3_costFromTop_14 kX3_67 (by decide) ?_
        refine bo_iastore (pc := 16) X1 dX3_costFromTop_16 (by first | assumption | rfl) (by omega) ?_
        refine bg_iinc1 (pc := 17) X1 dX3_costFromTop_17 (by omega) ?_
        refine bg_goto (pc := 20) X1 (tgt := 2) dX3_costFromTop_20 (by decide) ?_
        refine ih (k + 1) _ _ _ _ (by omega) (hP1.fr (frR.rf.up (Nat.le_refl _) (Nat.lt_succ_self _)) (by omega)) (hF.up (Nat.le_refl _) (Nat.lt_succ_self _)) (fun x hx => ?_)
        rw [Int.toNat_natCast]
        by_cases hxk : x = k
        · subst hxk; exact up_eq
        · rw [up_k hxk]; exact hI x (by omega)
  refine bg_iconst (pc := 0) X1 dX3_costFromTop_0 (by decide) ?_
  refine bg_istore1 (pc := 1) X1 dX3_costFromTop_1 ?_
  exact fill 625 0 _ _ _ g rfl hP frR.rf (fun x hx => by omega)
theorem c_X3_firstBestStep {y : bg_Y} {g : bg_E} {q i j : Nat} {P : bm_P} (hq : bg_mat q) (hP : paiR g q P) (hok : okP P) (hT : tabOK g q) (hI : ∀ x z, x ≤ (pA P).length → z ≤ (pB P).length → tb g q x z = bw P x z) (hi : i ≤ (pA P).length) (hj : j ≤ (pB P).length) : bg_Si y 4 mX3_firstBestStep [.inr (q + 1), .inl (i : Int), .inl (j : Int)] g (fun r g' => r = fbs P i j ∧ g' = g) := by
  obtain ⟨s1, s2, s3, s4, s5, s6, s7, s8, s9, s10, s11, s12, s13, s14, s15, s16, s17, s18, s19⟩ := id hq
  have na := hok.1.2
  have nb := hok.2.1.2
  have key : ∀ a : Int, R32 (bI (sc P a i j) + (if ni a i < 25 ∧ nj a j < 25 then g (q + 9) (25 * ni a i + nj a j) else 1000000)) ∧ ((bI (sc P a i j) + (if ni a i < 25 ∧ nj a j < 25 then g (q + 9) (25 * ni a i + nj a j) else 1000000) = (if i < 25 ∧ j < 25 then g (q + 9) (25 * i + j) else 1000000)) ↔ best P a i j) := by
    intro a
    have h0 := hI i j hi hj
    have hb := bw_B hok hi hj
    unfold tb at h0
    rw [if_pos (⟨by omega, by omega⟩ : i < 25 ∧ j < 25), h0]
    rcases Int.lt_or_le (sc P a i j) 0 with h5 | h5
    · have h6 : bI (sc P a i j) = 1000000 := if_pos h5
      rw [h6]
      have hw3 : 0 ≤ (if ni a i < 25 ∧ nj a j < 25 then g (q + 9) (25 * ni a i + nj a j) else 1000000) ∧ (if ni a i < 25 ∧ nj a j < 25 then g (q + 9) (25 * ni a i + nj a j) else 1000000) ≤ 1000000 := by
        split
        · exact hT _ (by omega)
        · omega
      exact ⟨by omega, fun h => by omega, fun h => by have := h.1; omega⟩
    · obtain ⟨z1, z2, z3, z4, z5, z6, z7⟩ := sc_go hok hi h5
      have z8 := z4 hj
      have h6 : bI (sc P a i j) = sc P a i j := if_neg (by omega)
      have h7 := hI _ _ z2 z8
      have h8 := bw_B hok z2 z8
      unfold tb at h7
      rw [if_pos (⟨by omega, by omega⟩ : ni a i < 25 ∧ nj a j < 25), h6, h7]
      exact ⟨by omega, fun h => ⟨h5, h⟩, fun h => h.2⟩
  refine bg_enter pnX3 (Nat.le_of_ble_eq_true rfl) (fun κ X hR hg => ?_)
  have X1 : bg_X κ y cX3_firstBestStep RX3 4 0 0 := X.1
  have hg : ∀ a k, R32 (g a k) := hg
  show bg_g κ y 0 [some (.inr (q + 1)), some (.inl (i : Int)), some (.inl (j : Int)), none] [] g
  have loop : ∀ (n : Nat) (a : Int), a + n = 5 → 1 ≤ a → (∀ b : Int, 1 ≤ b → b < a → ¬ best P b i j) → bg_g κ y 2 [some (.inr (q + 1)), some (.inl (i : Int)), some (.inl (j : Int)), some (.inl a)] [] g := by
    intro n
    induction n with
    | zero =>
      intro a hn ha hb
      refine bg_iload3 (pc := 2) X1 dX3_firstBestStep_2 ?_
      refine bg_iconst (pc := 3) X1 dX3_firstBestStep_3 (by decide) ?_
      refine bg_icmp_gt (pc := 4) X1 (tgt := 39) dX3_firstBestStep_4 (by decide) (fun u4 => ?_) (fun u4 => ?_)
      · refine bg_iconst (pc := 39) X1 dX3_firstBestStep_39 (by decide) ?_
        exact bo_iret (pc := 40) X rfl dX3_firstBestStep_40 (fun hi => ⟨by unfold fbs; rw [if_neg (hb 1 (by omega) (by omega)), if_neg (hb 2 (by omega) (by omega)), if_neg (hb 3 (by omega) (by omega)), if_neg (hb 4 (by omega) (by omega))], rfl⟩)
      · exfalso; omega
    | succ n ih =>
      intro a hn ha hb
      obtain ⟨k1, k2⟩ := key a
      refine bg_iload3 (pc := 2) X1 dX3_firstBestStep_2 ?_
      refine bg_iconst (pc := 3) X1 dX3_firstBestStep_3 (by decide) ?_
      refine bg_icmp_gt (pc := 4) X1 (tgt := 39) dX3_firstBestStep_4 (by decide) (fun u4 => ?_) (fun u4 => ?_)
      · exfalso; omega
      · refine bg_aload0 (pc := 7) X1 dX3_firstBestStep_7 ?_
        refine bg_iload3 (pc := 8) X1 dX3_firstBestStep_8 ?_
        refine bg_iload1 (pc := 9) X1 dX3_firstBestStep_9 ?_
        refine bg_iload2 (pc := 10) X1 dX3_firstBestStep_10 ?_
        refine bo_V3i (pc := 11) X1 (c_X3_stepCost hq hP hok (by omega) hi hj) vX3_stepCost lX3_98 rfl (by first | assumption | rfl) (by decide) dX3_firstBestStep_11 (by exact Nat.le_of_ble_eq_true rfl) ?_
        rintro _ _ ⟨h9, h8⟩
        obtain rfl := h9.symm
        obtain rfl := h8.symm
        clear h9 h8
        refine bg_aload0 (pc := 14) X1 dX3_firstBestStep_14 ?_
        refine bg_iload3 (pc := 15) X1 dX3_firstBestStep_15 ?_
        refine bg_iload1 (pc := 16) X1 dX3_firstBestStep_16 ?_
        refine bg_iload2 (pc := 17) X1 dX3_firstBestStep_17 ?_
        refine bo_V3i (pc := 18) X1 (c_X3_leastAfter hq (by omega) (by omega)) vX3_leastAfter lX3_102 rfl (by first | assumption | rfl) (by decide) dX3_firstBestStep_18 (by exact Nat.le_of_ble_eq_true rfl) ?_
        rintro _ _ ⟨h9, h8⟩
        obtain rfl := h9.symm
        obtain rfl := h8.symm
        clear h9 h8
        refine bg_iadd (pc := 21) X1 dX3_firstBestStep_21 (k1) ?_
        refine bg_aload0 (pc := 22) X1 dX3_firstBestStep_22 ?_
        refine bg_iload1 (pc := 23) X1 dX3_firstBestStep_23 ?_
        refine bg_iload2 (pc := 24) X1 dX3_firstBestStep_24 ?_
        refine bo_V2i (pc := 25) X1 (c_X3_leastAt hq) vX3_leastAt lX3_91 rfl (by first | assumption | rfl) (by decide) dX3_firstBestStep_25 (by exact Nat.le_of_ble_eq_true rfl) ?_
        rintro _ _ ⟨h9, h8⟩
        obtain rfl := h9.symm
        obtain rfl := h8.symm
        clear h9 h8
        refine bg_icmp_ne (pc := 28) X1 (tgt := 33) dX3_firstBestStep_28 (by decide) (fun u28 => ?_) (fun u28 => ?_)
        · rw [k2] at u28
          refine bg_iinc3 (pc := 33) X1 dX3_firstBestStep_33 (by omega) ?_
          refine bg_goto (pc := 36) X1 (tgt := 2) dX3_firstBestStep_36 (by decide) ?_
          refine ih _ (by omega) (by omega) (fun b h1 h2 => ?_)
          by_cases hba : b = a
          · subst hba; exact u28
          · exact hb b h1 (by omega)
        · rw [k2] at u28
          refine bg_iload3 (pc := 31) X1 dX3_firstBestStep_31 ?_
          exact bo_iret (pc := 32) X rfl dX3_firstBestStep_32 (fun hi => by
              refine ⟨?_, rfl⟩
              have h4 : a = 1 ∨ a = 2 ∨ a = 3 ∨ a = 4 := by omega
              unfold fbs
              rcases h4 with rfl | rfl | rfl | rfl
              · rw [if_pos u28]
              · rw [if_neg (hb 1 (by omega) (by omega)), if_pos u28]
              · rw [if_neg (hb 1 (by omega) (by omega)), if_neg (hb 2 (by omega) (by omega)), if_pos u28]
              · rw [if_neg (hb 1 (by omega) (by omega)), if_neg (hb 2 (by omega) (by omega)), if_neg (hb 3 (by omega) (by omega)), if_pos u28])
  refine bg_iconst (pc := 0) X1 dX3_firstBestStep_0 (by decide) ?_
  refine bg_istore3 (pc := 1) X1 dX3_firstBestStep_1 ?_
  exact loop 4 _ rfl (by decide) (fun b h1 h2 => by omega)
/-- what the document's numbers make of two columns of a state -/
def mkP (S : bm_S) (a b : Nat) : bm_P := (S.2.2.2.1 a, S.2.2.2.1 b, fun m => if ¬ kb S.2.1 (m : Int) = 0 then 3 * S.1 0 else S.1 0, S.1 1, S.1 2, S.1 3)
theorem mkP_ok {S : bm_S} (h : staOK S) {a b : Nat} (ha : a < 4) (hb : b < 4) : okP (mkP S a b) := by
  obtain ⟨h1, h2, h3, h4, h5, h6, h7, h8⟩ := h
  refine ⟨h8 a ha, h8 b hb, fun m hm => ?_, h2, h3, h4⟩
  show 1 ≤ (if ¬ kb S.2.1 ((m.toNat : Nat) : Int) = 0 then 3 * S.1 0 else S.1 0) ∧ (if ¬ kb S.2.1 ((m.toNat : Nat) : Int) = 0 then 3 * S.1 0 else S.1 0) ≤ (297 : Int)
  split <;> omega
/-- the collars that a pair holds are within their bounds -/
def colE (g : bg_E) (q : Nat) : Prop := (-9999 ≤ g (q + 2) 0 ∧ g (q + 2) 0 ≤ 9999) ∧ -9999 ≤ g (q + 5) 0 ∧ g (q + 5) 0 ≤ 9999
theorem colE.fr {g g' : bg_E} {q lo hi : Nat} (h : colE g q) (hf : frR lo hi g g') (hx : q + 5 < lo ∨ hi ≤ q + 2) : colE g' q := by
  unfold colE
  rw [hf (q + 2) (by omega), hf (q + 5) (by omega)]
  exact h
theorem c_X3_take {y : bg_Y} {g : bg_E} {q : Nat} {a c : Int} {S : bm_S} (hq : bg_mat q) (hq2 : 16 < q) (hS : staR g 1 S) (hok : staOK S) (ha : isHo a) (hc : isHo c) : bg_Sv y 4 mX3_take [.inr (q + 1), .inr 1, .inl a, .inl c] g (fun g' => paiR g' q (mkP S a.toNat c.toNat) ∧ frR (q + 1) (q + 9) g g' ∧ colE g' q) := by
  obtain ⟨s1, s2, s3, s4, s5, s6, s7, s8, s9, s10, s11, s12, s13, s14, s15, s16, s17, s18, s19⟩ := id hq
  have b1 : bg_sta 1 := bg_stas 1 (by simp)
  obtain ⟨t1, t2, t3, t4, t5, t6, t7, t8, t9⟩ := id b1
  have k0 := hok.1
  refine bg_enter pnX3 (Nat.le_of_ble_eq_true rfl) (fun κ X hR hg => ?_)
  have X1 : bg_X κ y cX3_take RX3 4 0 0 := X.1
  have hg : ∀ a k, R32 (g a k) := hg
  show bg_g κ y 0 [some (.inr (q + 1)), some (.inr 1), some (.inl a), some (.inl c), none, none] [] g
  have loop : ∀ (n k : Nat) (g1 : bg_E), k + n = 26 → colR g1 (q + 2) (S.2.2.2.1 a.toNat) → colR g1 (q + 5) (S.2.2.2.1 c.toNat) → frR (q + 1) (q + 9) g g1 → colE g1 q → (∀ m, m < k → g1 (q + 8) m = (mkP S a.toNat c.toNat).2.2.1 m) → bg_g κ y 34 [some (.inr (q + 1)), some (.inr 1), some (.inl a), some (.inl c), some (.inl (S.1 0)), some (.inl (k : Int))] [] g1 := by
    intro n
    induction n with
    | zero =>
      intro k g1 hn h1 h2 hF hE hI
      have hS1 : staR g1 1 S := hS.fr hF (by omega)
      refine bg_iload5 (pc := 34) X1 dX3_take_34 ?_
      refine bg_bipush (pc := 36) X1 dX3_take_36 rfl (by decide) ?_
      refine bg_icmp_ge (pc := 38) X1 (tgt := 72) dX3_take_38 (by decide) (fun u38 => ?_) (fun u38 => ?_)
      · refine bg_aload0 (pc := 72) X1 dX3_take_72 ?_
        refine bg_aload1 (pc := 73) X1 dX3_take_73 ?_
        refine bg_iconst (pc := 74) X1 dX3_take_74 (by decide) ?_
        refine bo_V1i (pc := 75) X1 (c_X4_numberOf b1 hS1 (by omega)) vX4_numberOf lX3_48 rfl (by first | assumption | rfl) (by decide) dX3_take_75 (by exact Nat.le_of_ble_eq_true rfl) ?_
        rintro _ _ ⟨h9, h8⟩
        obtain rfl := h9.symm
        obtain rfl := h8.symm
        clear h9 h8
        refine bo_putI (pc := 78) X1 dX3_take_78 fX3_25 (by first | assumption | rfl) rfl ?_
        refine bg_aload0 (pc := 81) X1 dX3_take_81 ?_
        refine bg_aload1 (pc := 82) X1 dX3_take_82 ?_
        refine bg_iconst (pc := 83) X1 dX3_take_83 (by decide) ?_
        refine bo_V1i (pc := 84) X1 (c_X4_numberOf (S := S) b1 (hS1.fr (lo := q + 1) (hi := q + 9) (frR.rf.up (by omega) (by omega)) (by omega)) (by omega)) vX4_numberOf lX3_48 rfl (by first | assumption | rfl) (by decide) dX3_take_84 (by exact Nat.le_of_ble_eq_true rfl) ?_
        rintro _ _ ⟨h9, h8⟩
        obtain rfl := h9.symm
        obtain rfl := h8.symm
        clear h9 h8
        refine bo_putI (pc := 87) X1 dX3_take_87 fX3_29 (by first | assumption | rfl) rfl ?_
        refine bg_aload0 (pc := 90) X1 dX3_take_90 ?_
        refine bg_aload1 (pc := 91) X1 dX3_take_91 ?_
        refine bg_iconst (pc := 92) X1 dX3_take_92 (by decide) ?_
        refine bo_V1i (pc := 93) X1 (c_X4_numberOf (S := S) b1 (hS1.fr (lo := q + 1) (hi := q + 9) ((frR.rf.up (by omega) (by omega)).up (by omega) (by omega)) (by omega)) (by omega)) vX4_numberOf lX3_48 rfl (by first | assumption | rfl) (by decide) dX3_take_93 (by exact Nat.le_of_ble_eq_true rfl) ?_
        rintro _ _ ⟨h9, h8⟩
        obtain rfl := h9.symm
        obtain rfl := h8.symm
        clear h9 h8
        refine bo_putI (pc := 96) X1 dX3_take_96 fX3_32 (by first | assumption | rfl) rfl ?_
        exact bo_vret (pc := 99) X rfl dX3_take_99 (fun hg9 => by
            have f3 : frR (q + 1) (q + 2) g1 (bg_up (bg_up (bg_up g1 (q + 1) 3 (S.1 (1 : Int).toNat)) (q + 1) 4 (S.1 (2 : Int).toNat)) (q + 1) 5 (S.1 (3 : Int).toNat)) := ((frR.rf.up (by omega) (by omega)).up (by omega) (by omega)).up (by omega) (by omega)
            refine ⟨⟨h1.fr f3 (by omega), h2.fr f3 (by omega), fun m hm => by rw [f3 (q + 8) (by omega)]; exact hI m (by omega), ?_, ?_, up_eq⟩, hF.tr (f3.wide (by omega) (by omega)), hE.fr f3 (by omega)⟩
            · rw [up_k (by decide), up_k (by decide), up_eq]; rfl
            · rw [up_k (by decide), up_eq]; rfl)
      · exfalso; omega
    | succ n ih =>
      intro k g1 hn h1 h2 hF hE hI
      have hS1 : staR g1 1 S := hS.fr hF (by omega)
      have hk1 : g1 1 1 = S.2.1 := hS1.2.1
      have fin : ∀ v : Int, v = (mkP S a.toNat c.toNat).2.2.1 k → bg_g κ y 65 [some (.inr (q + 1)), some (.inr 1), some (.inl a), some (.inl c), some (.inl (S.1 0)), some (.inl (k : Int))] [.inl v, .inl (k : Int), .inr (q + 8)] g1 := by
        intro v hv
        have f1 : frR (q + 8) (q + 9) g1 (bg_up g1 (q + 8) (k : Int).toNat v) := frR.rf.up (by omega) (by omega)
        refine bo_iastore (pc := 65) X1 dX3_take_65 (by first | assumption | rfl) (by omega) ?_
        refine bg_iinc5 (pc := 66) X1 dX3_take_66 (by omega) ?_
        refine bg_goto (pc := 69) X1 (tgt := 34) dX3_take_69 (by decide) ?_
        refine ih (k + 1) _ (by omega) (h1.fr f1 (by omega)) (h2.fr f1 (by omega)) (hF.tr (f1.wide (by omega) (by omega))) (hE.fr f1 (by omega)) (fun m hm => ?_)
        rw [Int.toNat_natCast]
        by_cases hmk : m = k
        · subst hmk; rw [up_eq]; exact hv
        · rw [up_k hmk]; exact hI m (by omega)
      refine bg_iload5 (pc := 34) X1 dX3_take_34 ?_
      refine bg_bipush (pc := 36) X1 dX3_take_36 rfl (by decide) ?_
      refine bg_icmp_ge (pc := 38) X1 (tgt := 72) dX3_take_38 (by decide) (fun u38 => ?_) (fun u38 => ?_)
      · exfalso; omega
      · refine bg_aload0 (pc := 41) X1 dX3_take_41 ?_
        refine bo_getR (pc := 42) X1 dX3_take_42 fX3_21 (by first | assumption | rfl) rfl (by first | assumption | rfl) ?_
        refine bg_iload5 (pc := 45) X1 dX3_take_45 ?_
        refine bg_aload1 (pc := 47) X1 dX3_take_47 ?_
        refine bg_iload5 (pc := 48) X1 dX3_take_48 ?_
        refine bo_V1i (pc := 50) X1 (c_X4_isKey b1 (by rw [hk1]; exact hok.2.2.2.2.2.1) ⟨by omega, by omega⟩) vX4_isKey lX3_52 rfl (by first | assumption | rfl) (by decide) dX3_take_50 (by exact Nat.le_of_ble_eq_true rfl) ?_
        rintro _ _ ⟨h9, h8⟩
        obtain rfl := h9.symm
        obtain rfl := h8.symm
        clear h9 h8
        rw [hk1]
        refine bo_ifeq_b (pc := 53) X1 (tgt := 63) dX3_take_53 (by decide) (fun u53 => ?_) (fun u53 => ?_)
        · refine bg_iload4 (pc := 63) X1 dX3_take_63 ?_
          refine fin _ ?_
          show _ = if ¬ kb S.2.1 (k : Int) = 0 then 3 * S.1 0 else S.1 0
          first | rw [if_pos u53] | rw [if_neg u53]
        · refine bg_iconst (pc := 56) X1 dX3_take_56 (by decide) ?_
          refine bg_iload4 (pc := 57) X1 dX3_take_57 ?_
          refine bg_imul (pc := 59) X1 dX3_take_59 (by omega) ?_
          refine bg_goto (pc := 60) X1 (tgt := 65) dX3_take_60 (by decide) ?_
          refine fin _ ?_
          show _ = if ¬ kb S.2.1 (k : Int) = 0 then 3 * S.1 0 else S.1 0
          first | rw [if_pos u53] | rw [if_neg u53]
  refine bg_aload0 (pc := 0) X1 dX3_take_0 ?_
  refine bo_getR (pc := 1) X1 dX3_take_1 fX3_12 (by first | assumption | rfl) rfl (by first | assumption | rfl) ?_
  refine bg_aload1 (pc := 4) X1 dX3_take_4 ?_
  refine bg_iload2 (pc := 5) X1 dX3_take_5 ?_
  refine bo_V1r (pc := 6) X1 (c_X4_columnOf b1 ha) vX4_columnOf lX3_38 rfl (by first | assumption | rfl) (by decide) dX3_take_6 (by exact Nat.le_of_ble_eq_true rfl) ?_
  rintro _ _ ⟨h9, h8⟩
  obtain rfl := h9.symm
  obtain rfl := h8.symm
  clear h9 h8
  refine bo_V1v (pc := 9) X1 (c_X0_copyFrom s12 (t9 a.toNat (by omega)) (by omega) (hS.2.2.1 a.toNat (by omega)).2) vX0_copyFrom lX3_44 rfl s12.1 (by decide) dX3_take_9 (by exact Nat.le_of_ble_eq_true rfl) ?_
  rintro g1 ⟨x1, x2, xa⟩
  have hS1 := hS.fr x2 (by omega)
  refine bg_aload0 (pc := 12) X1 dX3_take_12 ?_
  refine bo_getR (pc := 13) X1 dX3_take_13 fX3_18 (by first | assumption | rfl) rfl (by first | assumption | rfl) ?_
  refine bg_aload1 (pc := 16) X1 dX3_take_16 ?_
  refine bg_iload3 (pc := 17) X1 dX3_take_17 ?_
  refine bo_V1r (pc := 18) X1 (c_X4_columnOf b1 hc) vX4_columnOf lX3_38 rfl (by first | assumption | rfl) (by decide) dX3_take_18 (by exact Nat.le_of_ble_eq_true rfl) ?_
  rintro _ _ ⟨h9, h8⟩
  obtain rfl := h9.symm
  obtain rfl := h8.symm
  clear h9 h8
  refine bo_V1v (pc := 21) X1 (c_X0_copyFrom s13 (t9 c.toNat (by omega)) (by omega) (hS1.2.2.1 c.toNat (by omega)).2) vX0_copyFrom lX3_44 rfl s13.1 (by decide) dX3_take_21 (by exact Nat.le_of_ble_eq_true rfl) ?_
  rintro g2 ⟨x3, x4, xb⟩
  have hS2 := hS1.fr x4 (by omega)
  refine bg_aload1 (pc := 24) X1 dX3_take_24 ?_
  refine bg_iconst (pc := 25) X1 dX3_take_25 (by decide) ?_
  refine bo_V1i (pc := 26) X1 (c_X4_numberOf b1 hS2 (by omega)) vX4_numberOf lX3_48 rfl (by first | assumption | rfl) (by decide) dX3_take_26 (by exact Nat.le_of_ble_eq_true rfl) ?_
  rintro _ _ ⟨h9, h8⟩
  obtain rfl := h9.symm
  obtain rfl := h8.symm
  clear h9 h8
  refine bg_istore4 (pc := 29) X1 dX3_take_29 ?_
  refine bg_iconst (pc := 31) X1 dX3_take_31 (by decide) ?_
  refine bg_istore5 (pc := 32) X1 dX3_take_32 ?_
  exact loop 26 0 g2 rfl (x1.fr x4 (by omega)) x3 ((x2.wide (by omega) (by omega)).tr (x4.wide (by omega) (by omega))) ⟨by rw [x4 (q + 2) (by omega), xa, (hS.2.2.1 a.toNat (by omega)).1]; exact hok.2.2.2.2.2.2.1 _ (by omega), by rw [xb, (hS1.2.2.1 c.toNat (by omega)).1]; exact hok.2.2.2.2.2.2.1 _ (by omega)⟩ (fun m hm => by omega)
