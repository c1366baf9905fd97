/-! the model: the table of least costs, and the first best step -/
def tabM (g : bg_E) (P : bm_P) : Prop := ∀ x z : Nat, x ≤ (pA P).length → z ≤ (pB P).length → g 206 (25 * x + z) = bw P x z
theorem tS_best {P : bm_P} {i j : Nat} {s : Int} (h : 0 ≤ bw P i j) : tS P (bw P) i j s = bw P i j ↔ best P s i j := by
  rcases Int.lt_or_le (sc P s i j) 0 with h1 | h1
  · rw [tS_ne h1]
    exact ⟨fun h2 => by omega, fun h2 => by have := h2.1; omega⟩
  · rw [tS_go h1]
    exact ⟨fun h2 => ⟨h1, h2⟩, fun h2 => h2.2⟩
theorem fbs_lt {P : bm_P} {i j : Nat} {s : Int} (h1 : 1 ≤ s) (h2 : s < fbs P i j) : ¬ best P s i j := by
  unfold fbs at h2
  have hb : s = 1 ∨ s = 2 ∨ s = 3 ∨ 4 ≤ s := by omega
  by_cases b1 : best P 1 i j
  · rw [if_pos b1] at h2; omega
  · rw [if_neg b1] at h2
    by_cases b2 : best P 2 i j
    · rw [if_pos b2] at h2
      rcases hb with rfl | rfl | rfl | hb
      · exact b1
      · omega
      · omega
      · omega
    · rw [if_neg b2] at h2
      by_cases b3 : best P 3 i j
      · rw [if_pos b3] at h2
        rcases hb with rfl | rfl | rfl | hb
        · exact b1
        · exact b2
        · omega
        · omega
      · rw [if_neg b3] at h2
        rcases hb with rfl | rfl | rfl | hb
        · exact b1
        · exact b2
        · exact b3
        · split at h2 <;> omega
theorem tab_go {g : bg_E} {P : bm_P} (okP1 : okP P) (hT : tabM g P) {i j : Nat} (hi : i ≤ (pA P).length) (hj : j ≤ (pB P).length) : ∀ s : Int, 0 ≤ sc P s i j → g 206 (25 * ni s i + nj s j) = bw P (ni s i) (nj s j) := fun s h => by
  obtain ⟨h1, h2, h3, h4⟩ := sc_go okP1 (j := j) hi h
  exact hT _ _ h2 (h4.1 hj)
theorem c_X7_thingAt {y : bg_Y} {g : bg_E} {a b i j : Int} {S : bm_S} (hS : rowR (g 199) S) (ok : staOK S) (ha : isHo a) (hb : isHo b) (hi : 0 ≤ i ∧ i ≤ ((sq S a).length : Int)) (hj : 0 ≤ j ∧ j ≤ ((sq S b).length : Int)) (hT : tabM g (mq S a b)) (hn : ¬ fbs (mq S a b) i.toNat j.toNat = 0) : bg_Si y 4 mX7_thingAt [.inr 198, .inl a, .inl i, .inl b, .inl j] g (fun r g' => r = fbs (mq S a b) i.toNat j.toNat ∧ g' = g) := by
  have okP1 := mq_ok ok ha hb
  have lA := (sq_OK ok ha).2
  have lB := (sq_OK ok hb).2
  have eA : (pA (mq S a b)) = sq S a := rfl
  have eB : (pB (mq S a b)) = sq S b := rfl
  have hb0 := bw_B okP1 (i := i.toNat) (j := j.toNat) (by rw [eA]; omega) (by rw [eB]; omega)
  have hT0 := hT i.toNat j.toNat (by rw [eA]; omega) (by rw [eB]; omega)
  have hTg := tab_go okP1 hT (i := i.toNat) (j := j.toNat) (by rw [eA]; omega) (by rw [eB]; omega)
  obtain ⟨hf1, hf2⟩ : (1 ≤ fbs (mq S a b) i.toNat j.toNat ∧ fbs (mq S a b) i.toNat j.toNat ≤ 4) ∧ best (mq S a b) (fbs (mq S a b) i.toNat j.toNat) i.toNat j.toNat := by
    rcases fbs_or (P := mq S a b) (i := i.toNat) (j := j.toNat) with h | h
    · exact absurd h.1 hn
    · exact h
  refine bg_enter pnX7 (Nat.le_of_ble_eq_true rfl) (fun κ X hR hg => ?_)
  have X1 : bg_X κ y cX7_thingAt RX7 4 0 0 := X.1
  have hg : ∀ a k, R32 (g a k) := hg
  show bg_g κ y 0 [some (.inr 198), some (.inl a), some (.inl i), some (.inl b), some (.inl j), none] [] g
  have loop : ∀ (n : Nat) (s : Int), 1 ≤ s → s + n = fbs (mq S a b) i.toNat j.toNat → bg_g κ y 3 [some (.inr 198), some (.inl a), some (.inl i), some (.inl b), some (.inl j), some (.inl s)] [] g := by
    intro n
    induction n with
    | zero =>
      intro s h1 h2
      refine bg_aload0 (pc := 3) X1 dX7_thingAt_3 ?_
      refine bg_iload1 (pc := 4) X1 dX7_thingAt_4 ?_
      refine bg_iload2 (pc := 5) X1 dX7_thingAt_5 ?_
      refine bg_iload3 (pc := 6) X1 dX7_thingAt_6 ?_
      refine bg_iload4 (pc := 7) X1 dX7_thingAt_7 ?_
      refine bg_iload5 (pc := 9) X1 dX7_thingAt_9 ?_
      refine bo_V5i (pc := 11) X1 (c_X7_costOf hS ok ha hb hi hj (by omega) hTg) vX7_costOf lX7_159 rfl (by first | assumption | rfl) (by decide) dX7_thingAt_11 (by exact Nat.le_of_ble_eq_true rfl) ?_
      rintro _ _ ⟨h9, h8⟩
      obtain rfl := h9.symm
      obtain rfl := h8.symm
      clear h9 h8
      refine bg_aload0 (pc := 14) X1 dX7_thingAt_14 ?_
      refine bo_getR (pc := 15) X1 dX7_thingAt_15 fX7_31 (by first | assumption | rfl) rfl (by first | assumption | rfl) ?_
      refine bg_bipush (pc := 18) X1 dX7_thingAt_18 rfl (by decide) ?_
      refine bg_iload2 (pc := 20) X1 dX7_thingAt_20 ?_
      refine bg_imul (pc := 21) X1 dX7_thingAt_21 (by omega) ?_
      refine bg_iload4 (pc := 22) X1 dX7_thingAt_22 ?_
      refine bg_iadd (pc := 24) X1 dX7_thingAt_24 (by omega) ?_
      refine bo_iaload (pc := 25) X1 dX7_thingAt_25 (by first | assumption | rfl) (by omega) ?_
      rw [show (25 * i + j).toNat = 25 * i.toNat + j.toNat by omega, hT0, (tS_best hb0.1).mpr (by rw [show s = fbs (mq S a b) i.toNat j.toNat by omega]; exact hf2)]
      refine bg_icmp_eq (pc := 26) X1 (tgt := 35) dX7_thingAt_26 (by decide) (fun u26 => ?_) (fun u26 => ?_)
      · refine bg_iload5 (pc := 35) X1 dX7_thingAt_35 ?_
        exact bo_iret (pc := 37) X rfl dX7_thingAt_37 (fun hi => ⟨by omega, rfl⟩)
      · exact absurd rfl u26
    | succ n ih =>
      intro s h1 h2
      refine bg_aload0 (pc := 3) X1 dX7_thingAt_3 ?_
      refine bg_iload1 (pc := 4) X1 dX7_thingAt_4 ?_
      refine bg_iload2 (pc := 5) X1 dX7_thingAt_5 ?_
      refine bg_iload3 (pc := 6) X1 dX7_thingAt_6 ?_
      refine bg_iload4 (pc := 7) X1 dX7_thingAt_7 ?_
      refine bg_iload5 (pc := 9) X1 dX7_thingAt_9 ?_
      refine bo_V5i (pc := 11) X1 (c_X7_costOf hS ok ha hb hi hj (by omega) hTg) vX7_costOf lX7_159 rfl (by first | assumption | rfl) (by decide) dX7_thingAt_11 (by exact Nat.le_of_ble_eq_true rfl) ?_
      rintro _ _ ⟨h9, h8⟩
      obtain rfl := h9.symm
      obtain rfl := h8.symm
      clear h9 h8
      refine bg_aload0 (pc := 14) X1 dX7_thingAt_14 ?_
      refine bo_getR (pc := 15) X1 dX7_thingAt_15 fX7_31 (by first | assumption | rfl) rfl (by first | assumption | rfl) ?_
      refine bg_bipush (pc := 18) X1 dX7_thingAt_18 rfl (by decide) ?_
      refine bg_iload2 (pc := 20) X1 dX7_thingAt_20 ?_
      refine bg_imul (pc := 21) X1 dX7_thingAt_21 (by omega) ?_
      refine bg_iload4 (pc := 22) X1 dX7_thingAt_22 ?_
      refine bg_iadd (pc := 24) X1 dX7_thingAt_24 (by omega) ?_
      refine bo_iaload (pc := 25) X1 dX7_thingAt_25 (by first | assumption | rfl) (by omega) ?_
      rw [show (25 * i + j).toNat = 25 * i.toNat + j.toNat by omega, hT0]
      refine bg_icmp_eq (pc := 26) X1 (tgt := 35) dX7_thingAt_26 (by decide) (fun u26 => ?_) (fun u26 => ?_)
      · exact absurd ((tS_best hb0.1).mp u26) (fbs_lt h1 (by omega))
      · refine bg_iinc5 (pc := 29) X1 dX7_thingAt_29 (by omega) ?_
        refine bg_goto (pc := 32) X1 (tgt := 3) dX7_thingAt_32 (by decide) ?_
        exact ih (s + 1) (by omega) (by omega)
  refine bg_iconst (pc := 0) X1 dX7_thingAt_0 (by decide) ?_
  refine bg_istore5 (pc := 1) X1 dX7_thingAt_1 ?_
  exact loop (fbs (mq S a b) i.toNat j.toNat - 1).toNat 1 (by omega) (by omega)
theorem c_X7_fills {y : bg_Y} {g : bg_E} {a b : Int} {S : bm_S} (hS : rowR (g 199) S) (ok : staOK S) (ha : isHo a) (hb : isHo b) : bg_Si y 4 mX7_fills [.inr 198, .inl a, .inl b] g (fun r g' => r = bw (mq S a b) 0 0 ∧ tabM g' (mq S a b) ∧ frR 206 207 g g') := by
  have okP1 := mq_ok ok ha hb
  have lA := (sq_OK ok ha).2
  have lB := (sq_OK ok hb).2
  have eA : (pA (mq S a b)) = sq S a := rfl
  have eB : (pB (mq S a b)) = sq S b := rfl
  refine bg_enter pnX7 (Nat.le_of_ble_eq_true rfl) (fun κ X hR hg => ?_)
  have X1 : bg_X κ y cX7_fills RX7 4 0 0 := X.1
  have hg : ∀ a k, R32 (g a k) := hg
  show bg_g κ y 0 [some (.inr 198), some (.inl a), some (.inl b), none, none, none, none, none] [] g
  have inner : ∀ (n : Nat) (k : Nat) (i j : Nat) (l7 : Option bg_V) (g1 : bg_E), k + n = 4 → i ≤ (sq S a).length → j ≤ (sq S b).length → frR 206 207 g g1 → (∀ s : Int, 0 ≤ sc (mq S a b) s i j → g1 206 (25 * ni s i + nj s j) = bw (mq S a b) (ni s i) (nj s j)) → (∀ l6 l7 : Option bg_V, bg_g κ y 118 [some (.inr 198), some (.inl a), some (.inl b), some (.inl (i : Int)), some (.inl (j : Int)), some (.inl (bw (mq S a b) i j)), l6, l7] [] g1) → bg_g κ y 67 [some (.inr 198), some (.inl a), some (.inl b), some (.inl (i : Int)), some (.inl (j : Int)), some (.inl (mnS (mq S a b) (bw (mq S a b)) i j k)), some (.inl ((k : Int) + 1)), l7] [] g1 := by
    intro n
    induction n with
    | zero =>
      intro k i j l7 g1 hk hi hj hF hT kk
      obtain rfl : k = 4 := by omega
      rw [← bw_eq okP1 (by rw [eA]; exact hi) (by rw [eB]; exact hj)]
      refine bg_iload6 (pc := 67) X1 dX7_fills_67 ?_
      refine bg_iconst (pc := 69) X1 dX7_fills_69 (by decide) ?_
      refine bg_icmp_ge (pc := 70) X1 (tgt := 118) dX7_fills_70 (by decide) (fun u70 => ?_) (fun u70 => ?_)
      · exact kk _ _
      · exfalso; omega
    | succ n ih =>
      intro k i j l7 g1 hk hi hj hF hT kk
      have hS1 : rowR (g1 199) S := by rw [hF 199 (by omega)]; exact hS
      have em : mnS (mq S a b) (bw (mq S a b)) i j (k + 1) = mn (mnS (mq S a b) (bw (mq S a b)) i j k) (tS (mq S a b) (bw (mq S a b)) i j ((k : Int) + 1)) := rfl
      unfold mn at em
      refine bg_iload6 (pc := 67) X1 dX7_fills_67 ?_
      refine bg_iconst (pc := 69) X1 dX7_fills_69 (by decide) ?_
      refine bg_icmp_ge (pc := 70) X1 (tgt := 118) dX7_fills_70 (by decide) (fun u70 => ?_) (fun u70 => ?_)
      · exfalso; omega
      · refine bg_aload0 (pc := 73) X1 dX7_fills_73 ?_
        refine bg_iload1 (pc := 74) X1 dX7_fills_74 ?_
        refine bg_iload3 (pc := 75) X1 dX7_fills_75 ?_
        refine bg_iload2 (pc := 76) X1 dX7_fills_76 ?_
        refine bg_iload4 (pc := 77) X1 dX7_fills_77 ?_
        refine bg_iload6 (pc := 79) X1 dX7_fills_79 ?_
        refine bo_V5i (pc := 81) X1 (c_X7_costOf hS1 ok ha hb (⟨by omega, by omega⟩ : 0 ≤ (i : Int) ∧ (i : Int) ≤ _) (⟨by omega, by omega⟩ : 0 ≤ (j : Int) ∧ (j : Int) ≤ _) (by omega) (by rw [Int.toNat_natCast, Int.toNat_natCast]; exact hT)) vX7_costOf lX7_159 rfl (by first | assumption | rfl) (by decide) dX7_fills_81 (by exact Nat.le_of_ble_eq_true rfl) ?_
        rintro _ _ ⟨h9, h8⟩
        obtain rfl := h9.symm
        obtain rfl := h8.symm
        clear h9 h8
        rw [Int.toNat_natCast, Int.toNat_natCast]
        refine bg_istore7 (pc := 84) X1 dX7_fills_84 ?_
        refine bg_iload7 (pc := 86) X1 dX7_fills_86 ?_
        refine bg_if_lt (pc := 88) X1 (tgt := 108) dX7_fills_88 (by decide) (fun u88 => ?_) (fun u88 => ?_)
        · refine bg_iload5 (pc := 108) X1 dX7_fills_108 ?_
          refine bg_istore5 (pc := 110) X1 dX7_fills_110 ?_
          refine bg_iinc6 (pc := 112) X1 dX7_fills_112 (by omega) ?_
          refine bg_goto (pc := 115) X1 (tgt := 67) dX7_fills_115 (by decide) ?_
          have := ih (k + 1) i j (some (.inl (tS (mq S a b) (bw (mq S a b)) i j ((k : Int) + 1)))) g1 (by omega) hi hj hF hT kk
          rw [em] at this
          first
          | rw [if_pos (by omega)] at this
          | rw [if_neg (by omega)] at this
          exact this
        · refine bg_iload5 (pc := 91) X1 dX7_fills_91 ?_
          refine bg_if_lt (pc := 93) X1 (tgt := 103) dX7_fills_93 (by decide) (fun u93 => ?_) (fun u93 => ?_)
          · refine bg_iload7 (pc := 103) X1 dX7_fills_103 ?_
            refine bg_goto (pc := 105) X1 (tgt := 110) dX7_fills_105 (by decide) ?_
            refine bg_istore5 (pc := 110) X1 dX7_fills_110 ?_
            refine bg_iinc6 (pc := 112) X1 dX7_fills_112 (by omega) ?_
            refine bg_goto (pc := 115) X1 (tgt := 67) dX7_fills_115 (by decide) ?_
            have := ih (k + 1) i j (some (.inl (tS (mq S a b) (bw (mq S a b)) i j ((k : Int) + 1)))) g1 (by omega) hi hj hF hT kk
            rw [em] at this
            first
            | rw [if_pos (by omega)] at this
            | rw [if_neg (by omega)] at this
            exact this
          · refine bg_iload7 (pc := 96) X1 dX7_fills_96 ?_
            refine bg_iload5 (pc := 98) X1 dX7_fills_98 ?_
            refine bg_icmp_ge (pc := 100) X1 (tgt := 108) dX7_fills_100 (by decide) (fun u100 => ?_) (fun u100 => ?_)
            · refine bg_iload5 (pc := 108) X1 dX7_fills_108 ?_
              refine bg_istore5 (pc := 110) X1 dX7_fills_110 ?_
              refine bg_iinc6 (pc := 112) X1 dX7_fills_112 (by omega) ?_
              refine bg_goto (pc := 115) X1 (tgt := 67) dX7_fills_115 (by decide) ?_
              have := ih (k + 1) i j (some (.inl (tS (mq S a b) (bw (mq S a b)) i j ((k : Int) + 1)))) g1 (by omega) hi hj hF hT kk
              rw [em] at this
              first
              | rw [if_pos (by omega)] at this
              | rw [if_neg (by omega)] at this
              exact this
            · refine bg_iload7 (pc := 103) X1 dX7_fills_103 ?_
              refine bg_goto (pc := 105) X1 (tgt := 110) dX7_fills_105 (by decide) ?_
              refine bg_istore5 (pc := 110) X1 dX7_fills_110 ?_
              refine bg_iinc6 (pc := 112) X1 dX7_fills_112 (by omega) ?_
              refine bg_goto (pc := 115) X1 (tgt := 67) dX7_fills_115 (by decide) ?_
              have := ih (k + 1) i j (some (.inl (tS (mq S a b) (bw (mq S a b)) i j ((k : Int) + 1)))) g1 (by omega) hi hj hF hT kk
              rw [em] at this
              first
              | rw [if_pos (by omega)] at this
              | rw [if_neg (by omega)] at this
              exact this
  have outer : ∀ (n m : Nat) (l5 l6 l7 : Option bg_V) (i j : Int) (g1 : bg_E), i + 1 = n → j + 1 = m → i ≤ ((sq S a).length : Int) → j ≤ ((sq S b).length : Int) → frR 206 207 g g1 → (∀ x z : Nat, x ≤ (sq S a).length → z ≤ (sq S b).length → (i < x ∨ ((x : Int) = i ∧ j < z)) → g1 206 (25 * x + z) = bw (mq S a b) x z) → 0 ≤ i → bg_g κ y 25 [some (.inr 198), some (.inl a), some (.inl b), some (.inl i), some (.inl j), l5, l6, l7] [] g1 := by
    intro n
    induction n with
    | zero => intro m l5 l6 l7 i j g1 hn hm hi hj hF hT h0; omega
    | succ n ihn =>
      intro m
      induction m with
      | zero =>
        intro l5 l6 l7 i j g1 hn hm hi hj hF hT h0
        have hS1 : rowR (g1 199) S := by rw [hF 199 (by omega)]; exact hS
        refine bg_iload4 (pc := 25) X1 dX7_fills_25 ?_
        refine bg_if_lt (pc := 27) X1 (tgt := 138) dX7_fills_27 (by decide) (fun u27 => ?_) (fun u27 => ?_)
        · refine bg_iinc3 (pc := 138) X1 dX7_fills_138 (by omega) ?_
          refine bg_goto (pc := 141) X1 (tgt := 10) dX7_fills_141 (by decide) ?_
          refine bg_iload3 (pc := 10) X1 dX7_fills_10 ?_
          refine bg_if_lt (pc := 11) X1 (tgt := 144) dX7_fills_11 (by decide) (fun u11 => ?_) (fun u11 => ?_)
          · refine bg_aload0 (pc := 144) X1 dX7_fills_144 ?_
            refine bo_getR (pc := 145) X1 dX7_fills_145 fX7_31 (by first | assumption | rfl) rfl (by first | assumption | rfl) ?_
            refine bg_iconst (pc := 148) X1 dX7_fills_148 (by decide) ?_
            refine bo_iaload (pc := 149) X1 dX7_fills_149 (by first | assumption | rfl) (by omega) ?_
            exact bo_iret (pc := 150) X rfl dX7_fills_150 (fun hi => ⟨hT 0 0 (by omega) (by omega) (by omega), fun x z hx hz => hT x z hx hz (by rw [eA] at hx; omega), hF⟩)
          · refine bg_aload0 (pc := 14) X1 dX7_fills_14 ?_
            refine bo_getR (pc := 15) X1 dX7_fills_15 fX7_7 (by first | assumption | rfl) rfl (by first | assumption | rfl) ?_
            refine bg_bipush (pc := 18) X1 dX7_fills_18 rfl (by decide) ?_
            refine bg_iload2 (pc := 20) X1 dX7_fills_20 ?_
            refine bg_iadd (pc := 21) X1 dX7_fills_21 (by omega) ?_
            refine bo_iaload (pc := 22) X1 dX7_fills_22 (by first | assumption | rfl) (by omega) ?_
            rw [row_len hS1 hb]
            refine bg_istore4 (pc := 23) X1 dX7_fills_23 ?_
            exact ihn ((sq S b).length + 1) _ _ _ _ _ g1 (by omega) (by omega) (by omega) (by omega) hF (fun x z hx hz h => hT x z hx hz (by omega)) (by omega)
        · exfalso; omega
      | succ m ihm =>
        intro l5 l6 l7 i j g1 hn hm hi hj hF hT h0
        have hS1 : rowR (g1 199) S := by rw [hF 199 (by omega)]; exact hS
        obtain ⟨ii, rfl⟩ : ∃ ii : Nat, i = (ii : Int) := ⟨i.toNat, by omega⟩
        obtain ⟨jj, rfl⟩ : ∃ jj : Nat, j = (jj : Int) := ⟨j.toNat, by omega⟩
        have hTs : ∀ s : Int, 0 ≤ sc (mq S a b) s ii jj → g1 206 (25 * ni s ii + nj s jj) = bw (mq S a b) (ni s ii) (nj s jj) := fun s h => by
          obtain ⟨h1, h2, h3, h4⟩ := sc_go okP1 (j := jj) (by rw [eA]; omega) h
          have h5 : nj s jj ≤ (sq S b).length := h4.1 (by rw [eB]; omega)
          refine hT _ _ h2 h5 ?_
          have hc : s = 1 ∨ s = 2 ∨ s = 3 ∨ s = 4 := by omega
          rcases hc with rfl | rfl | rfl | rfl <;> simp [ni, nj] <;> omega
        have kk : ∀ l6 l7 : Option bg_V, bg_g κ y 118 [some (.inr 198), some (.inl a), some (.inl b), some (.inl (ii : Int)), some (.inl (jj : Int)), some (.inl (bw (mq S a b) ii jj)), l6, l7] [] g1 := by
          intro l6 l7
          refine bg_aload0 (pc := 118) X1 dX7_fills_118 ?_
          refine bo_getR (pc := 119) X1 dX7_fills_119 fX7_31 (by first | assumption | rfl) rfl (by first | assumption | rfl) ?_
          refine bg_bipush (pc := 122) X1 dX7_fills_122 rfl (by decide) ?_
          refine bg_iload3 (pc := 124) X1 dX7_fills_124 ?_
          refine bg_imul (pc := 125) X1 dX7_fills_125 (by omega) ?_
          refine bg_iload4 (pc := 126) X1 dX7_fills_126 ?_
          refine bg_iadd (pc := 128) X1 dX7_fills_128 (by omega) ?_
          refine bg_iload5 (pc := 129) X1 dX7_fills_129 ?_
          refine bo_iastore (pc := 131) X1 dX7_fills_131 (by first | assumption | rfl) (by omega) ?_
          rw [show (25 * (ii : Int) + jj).toNat = 25 * ii + jj by omega]
          refine bg_iinc4 (pc := 132) X1 dX7_fills_132 (by omega) ?_
          refine bg_goto (pc := 135) X1 (tgt := 25) dX7_fills_135 (by decide) ?_
          refine ihm _ _ _ _ _ (bg_up g1 206 (25 * ii + jj) (bw (mq S a b) ii jj)) hn (by omega) hi (by omega) (hF.up (by omega) (by omega)) (fun x z hx hz h => ?_) h0
          by_cases e : x = ii ∧ z = jj
          · rw [e.1, e.2, up_eq]
          · rw [up_k (by omega)]
            exact hT x z hx hz (by omega)
        refine bg_iload4 (pc := 25) X1 dX7_fills_25 ?_
        refine bg_if_lt (pc := 27) X1 (tgt := 138) dX7_fills_27 (by decide) (fun u27 => ?_) (fun u27 => ?_)
        · exfalso; omega
        · refine bg_iload3 (pc := 30) X1 dX7_fills_30 ?_
          refine bg_aload0 (pc := 31) X1 dX7_fills_31 ?_
          refine bo_getR (pc := 32) X1 dX7_fills_32 fX7_7 (by first | assumption | rfl) rfl (by first | assumption | rfl) ?_
          refine bg_bipush (pc := 35) X1 dX7_fills_35 rfl (by decide) ?_
          refine bg_iload1 (pc := 37) X1 dX7_fills_37 ?_
          refine bg_iadd (pc := 38) X1 dX7_fills_38 (by omega) ?_
          refine bo_iaload (pc := 39) X1 dX7_fills_39 (by first | assumption | rfl) (by omega) ?_
          rw [row_len hS1 ha]
          refine bg_icmp_ne (pc := 40) X1 (tgt := 61) dX7_fills_40 (by decide) (fun u40 => ?_) (fun u40 => ?_)
          · have e0 : mnS (mq S a b) (bw (mq S a b)) ii jj 0 = -1 := if_neg (fun h => u40 (by have := h.1; rw [eA] at this; omega))
            refine bg_iconst (pc := 61) X1 dX7_fills_61 (by decide) ?_
            refine bg_istore5 (pc := 62) X1 dX7_fills_62 ?_
            refine bg_iconst (pc := 64) X1 dX7_fills_64 (by decide) ?_
            refine bg_istore6 (pc := 65) X1 dX7_fills_65 ?_
            have := inner 4 0 ii jj l7 g1 rfl (by omega) (by omega) hF hTs kk
            rw [e0] at this
            exact this
          · refine bg_iload4 (pc := 43) X1 dX7_fills_43 ?_
            refine bg_aload0 (pc := 45) X1 dX7_fills_45 ?_
            refine bo_getR (pc := 46) X1 dX7_fills_46 fX7_7 (by first | assumption | rfl) rfl (by first | assumption | rfl) ?_
            refine bg_bipush (pc := 49) X1 dX7_fills_49 rfl (by decide) ?_
            refine bg_iload2 (pc := 51) X1 dX7_fills_51 ?_
            refine bg_iadd (pc := 52) X1 dX7_fills_52 (by omega) ?_
            refine bo_iaload (pc := 53) X1 dX7_fills_53 (by first | assumption | rfl) (by omega) ?_
            rw [row_len hS1 hb]
            refine bg_icmp_ne (pc := 54) X1 (tgt := 61) dX7_fills_54 (by decide) (fun u54 => ?_) (fun u54 => ?_)
            · have e0 : mnS (mq S a b) (bw (mq S a b)) ii jj 0 = -1 := if_neg (fun h => u54 (by have := h.2; rw [eB] at this; omega))
              refine bg_iconst (pc := 61) X1 dX7_fills_61 (by decide) ?_
              refine bg_istore5 (pc := 62) X1 dX7_fills_62 ?_
              refine bg_iconst (pc := 64) X1 dX7_fills_64 (by decide) ?_
              refine bg_istore6 (pc := 65) X1 dX7_fills_65 ?_
              have := inner 4 0 ii jj l7 g1 rfl (by omega) (by omega) hF hTs kk
              rw [e0] at this
              exact this
            · have e0 : mnS (mq S a b) (bw (mq S a b)) ii jj 0 = 0 := if_pos ⟨by rw [eA]; omega, by rw [eB]; omega⟩
              refine bg_iconst (pc := 57) X1 dX7_fills_57 (by decide) ?_
              refine bg_goto (pc := 58) X1 (tgt := 62) dX7_fills_58 (by decide) ?_
              refine bg_istore5 (pc := 62) X1 dX7_fills_62 ?_
              refine bg_iconst (pc := 64) X1 dX7_fills_64 (by decide) ?_
              refine bg_istore6 (pc := 65) X1 dX7_fills_65 ?_
              have := inner 4 0 ii jj l7 g1 rfl (by omega) (by omega) hF hTs kk
              rw [e0] at this
              exact this
  refine bg_aload0 (pc := 0) X1 dX7_fills_0 ?_
  refine bo_getR (pc := 1) X1 dX7_fills_1 fX7_7 (by first | assumption | rfl) rfl (by first | assumption | rfl) ?_
  refine bg_bipush (pc := 4) X1 dX7_fills_4 rfl (by decide) ?_
  refine bg_iload1 (pc := 6) X1 dX7_fills_6 ?_
  refine bg_iadd (pc := 7) X1 dX7_fills_7 (by omega) ?_
  refine bo_iaload (pc := 8) X1 dX7_fills_8 (by first | assumption | rfl) (by omega) ?_
  rw [row_len hS ha]
  refine bg_istore3 (pc := 9) X1 dX7_fills_9 ?_
  refine bg_iload3 (pc := 10) X1 dX7_fills_10 ?_
  refine bg_if_lt (pc := 11) X1 (tgt := 144) dX7_fills_11 (by decide) (fun u11 => ?_) (fun u11 => ?_)
  · exfalso; omega
  · refine bg_aload0 (pc := 14) X1 dX7_fills_14 ?_
    refine bo_getR (pc := 15) X1 dX7_fills_15 fX7_7 (by first | assumption | rfl) rfl (by first | assumption | rfl) ?_
    refine bg_bipush (pc := 18) X1 dX7_fills_18 rfl (by decide) ?_
    refine bg_iload2 (pc := 20) X1 dX7_fills_20 ?_
    refine bg_iadd (pc := 21) X1 dX7_fills_21 (by omega) ?_
    refine bo_iaload (pc := 22) X1 dX7_fills_22 (by first | assumption | rfl) (by omega) ?_
    rw [row_len hS hb]
    refine bg_istore4 (pc := 23) X1 dX7_fills_23 ?_
    exact outer ((sq S a).length + 1) ((sq S b).length + 1) _ _ _ _ _ g (by omega) (by omega) (by omega) (by omega) frR.rf (fun x z hx hz h => by omega) (by omega)
