/-! the law: the table of least costs -/
def inf (x : Int) : Int := if x < 0 then 1000000 else x
theorem inf_mn {a b : Int} (ha : a < 1000000) (hb : b < 1000000) : inf (mn a b) = if inf b < inf a then inf b else inf a := by
  unfold inf mn
  by_cases h : 0 ≤ b ∧ (a < 0 ∨ b < a)
  · rw [if_pos h, if_neg (by omega)]
    by_cases h2 : a < 0
    · rw [if_pos h2, if_pos (by omega)]
    · rw [if_neg h2, if_pos (by omega)]
  · rw [if_neg h]
    by_cases h2 : a < 0
    · rw [if_pos h2]
      by_cases h3 : b < 0
      · rw [if_pos h3, if_neg (by omega)]
      · omega
    · rw [if_neg h2]
      by_cases h3 : b < 0
      · rw [if_pos h3, if_neg (by omega)]
      · rw [if_neg h3, if_neg (by omega)]
theorem tS_B {P : bm_P} (h : okP P) {i j : Nat} (hi : i ≤ (pA P).length) (hj : j ≤ (pB P).length) (s : Int) : tS P (bw P) i j s ≤ 20000 := by
  rcases Int.lt_or_le (sc P s i j) 0 with h1 | h1
  · rw [tS_ne h1]; decide
  · have h2 := sc_go h (j := j) hi h1
    have h3 := bw_B h h2.2.1 (h2.2.2.2.1 hj)
    rw [tS_go h1]
    omega
theorem mnS_B {P : bm_P} (h : okP P) {i j : Nat} (hi : i ≤ (pA P).length) (hj : j ≤ (pB P).length) (k : Nat) : mnS P (bw P) i j k ≤ 20000 := by
  rcases mnS_or (P := P) (T := bw P) (i := i) (j := j) k with h1 | h1 | ⟨s, h1, h2, h3, h4⟩
  · rw [h1]; decide
  · rw [h1.2.2]; decide
  · rw [h3]; exact tS_B h hi hj s
theorem c_L_least {y : bg_Y} {g : bg_E} {a b : Int} {S : bm_S} (hS : rwR g S) (ok : staOK S) (h6 : len6 S) (ha : isHo a) (hb : isHo b) : bg_Si y 2 mL_least [.inr 198, .inr 199, .inl a, .inl b, .inr 200] g (fun r g' => r = bw (mq S a b) 0 0 ∧ (∀ x z : Nat, x ≤ (sq S a).length → z ≤ (sq S b).length → g' 200 (7 * x + z) = bw (mq S a b) x z) ∧ frR 200 201 g g') := by
  have lA := sq_6 h6 ha
  have lB := sq_6 h6 hb
  have okP1 := mq_ok ok ha hb
  obtain ⟨P, hP⟩ : ∃ P, P = mq S a b := ⟨_, rfl⟩
  have eA : pA P = sq S a := by rw [hP]; rfl
  have eB : pB P = sq S b := by rw [hP]; rfl
  rw [← hP] at okP1
  rw [← hP]
  obtain ⟨m, hm⟩ : ∃ m, m = (sq S a).length := ⟨_, rfl⟩
  obtain ⟨nn, hn⟩ : ∃ nn, nn = (sq S b).length := ⟨_, rfl⟩
  rw [← hm, ← hn]
  refine bg_enter pnL (Nat.le_of_ble_eq_true rfl) (fun κ X hR hg => ?_)
  have X1 : bg_X κ y cL_least RL 2 0 0 := X.1
  have hg : ∀ a k, R32 (g a k) := hg
  show bg_g κ y 0 [some (.inr 198), some (.inr 199), some (.inl a), some (.inl b), some (.inr 200), none, none, none, none, none, none, none, none] [] g
  have inner : ∀ (n k i j : Nat) (w be su : Int) (l12 : Option bg_V) (g1 : bg_E), k + n = 4 → w = (k : Int) + 1 → be = inf (mnS P (bw P) i j k) → i ≤ m → j ≤ nn → frR 200 201 g g1 → (∀ x z : Nat, x ≤ m → z ≤ nn → i + j < x + z → g1 200 (7 * x + z) = bw P x z) → (∀ l11 l12 : Option bg_V, bg_g κ y 174 [some (.inr 198), some (.inr 199), some (.inl a), some (.inl b), some (.inr 200), some (.inl (m : Int)), some (.inl (nn : Int)), some (.inl su), some (.inl (i : Int)), some (.inl (j : Int)), some (.inl (bw P i j)), l11, l12] [] g1) → bg_g κ y 80 [some (.inr 198), some (.inr 199), some (.inl a), some (.inl b), some (.inr 200), some (.inl (m : Int)), some (.inl (nn : Int)), some (.inl su), some (.inl (i : Int)), some (.inl (j : Int)), some (.inl be), some (.inl w), l12] [] g1 := by
    intro n
    induction n with
    | zero =>
      intro k i j w be su l12 g1 hk hw hbe hi hj hF hT kk
      have h4 : be = bw P i j := by
        have hb0 := bw_B okP1 (i := i) (j := j) (by rw [eA]; omega) (by rw [eB]; omega)
        rw [hbe, show k = 4 by omega, ← bw_eq okP1 (by rw [eA]; omega) (by rw [eB]; omega)]
        exact if_neg (by omega)
      rw [h4]
      refine bg_iload11 (pc := 80) X1 dL_least_80 ?_
      refine bg_iconst (pc := 82) X1 dL_least_82 (by decide) ?_
      refine bg_icmp_ge (pc := 83) X1 (tgt := 174) dL_least_83 (by decide) (fun u83 => ?_) (fun u83 => ?_)
      · exact kk _ _
      · exfalso; omega
    | succ n ih =>
      intro k i j w be su l12 g1 hk hw hbe hi hj hF hT kk
      subst hw
      have hS1 : rwR g1 S := hS.cg (hF 198 (by omega)) (hF 199 (by omega))
      have iA : i ≤ (pA P).length := by rw [eA]; omega
      have jB : j ≤ (pB P).length := by rw [eB]; omega
      have hB1 := mnS_B okP1 iA jB k
      have hB2 := tS_B okP1 iA jB ((k : Int) + 1)
      have hstep : inf (mnS P (bw P) i j (k + 1)) = if inf (tS P (bw P) i j ((k : Int) + 1)) < inf (mnS P (bw P) i j k) then inf (tS P (bw P) i j ((k : Int) + 1)) else inf (mnS P (bw P) i j k) := inf_mn (by omega) (by omega)
      rw [← hbe] at hstep
      have hR := scv_R okP1 (s := (k : Int) + 1) (j := j) iA
      have hgo : 0 ≤ sc P ((k : Int) + 1) i j → (0 ≤ bw P (ni ((k : Int) + 1) i) (nj ((k : Int) + 1) j) ∧ bw P (ni ((k : Int) + 1) i) (nj ((k : Int) + 1) j) ≤ 14256) ∧ inf (tS P (bw P) i j ((k : Int) + 1)) = scv P ((k : Int) + 1) i j + bw P (ni ((k : Int) + 1) i) (nj ((k : Int) + 1) j) ∧ g1 200 (7 * ni ((k : Int) + 1) i + nj ((k : Int) + 1) j) = bw P (ni ((k : Int) + 1) i) (nj ((k : Int) + 1) j) ∧ ni ((k : Int) + 1) i ≤ m ∧ nj ((k : Int) + 1) j ≤ nn := fun h => by
        have h2 := sc_go okP1 (j := j) iA h
        have h3 := bw_B okP1 h2.2.1 (h2.2.2.2.1 jB)
        have h4 := h2.2.1
        have h5 := h2.2.2.2.1 jB
        have h7 := h2.2.2.2.2.1
        unfold rst at h7
        rw [eA] at h4 h7
        rw [eB] at h5 h7
        refine ⟨h3, ?_, hT _ _ (by omega) (by omega) (by omega), by omega, by omega⟩
        rw [tS_go h, scv_go h]
        exact if_neg (by omega)
      have hno : sc P ((k : Int) + 1) i j < 0 → inf (tS P (bw P) i j ((k : Int) + 1)) = 1000000 := fun h => by rw [tS_ne h]; rfl
      have n12 : (k : Int) + 1 < 3 → ni ((k : Int) + 1) i = i + 1 := fun h => if_pos (by omega)
      have n34 : 3 ≤ (k : Int) + 1 → ni ((k : Int) + 1) i = i := fun h => if_neg (by omega)
      have n2 : (k : Int) + 1 = 2 → nj ((k : Int) + 1) j = j := fun h => if_pos h
      have n134 : ¬ (k : Int) + 1 = 2 → nj ((k : Int) + 1) j = j + 1 := fun h => if_neg h
      have ei : ((i : Nat) : Int).toNat = i := Int.toNat_natCast _
      have ej : ((j : Nat) : Int).toNat = j := Int.toNat_natCast _
      have ih2 := fun (be : Int) (l12 : Option bg_V) (hbe : be = inf (mnS P (bw P) i j (k + 1))) => ih (k + 1) i j ((k : Int) + 1 + 1) be su l12 g1 (by omega) (by omega) hbe hi hj hF hT kk
      generalize sc P ((k : Int) + 1) i j = sv at *
      generalize ni ((k : Int) + 1) i = x at *
      generalize nj ((k : Int) + 1) j = z at *
      generalize inf (tS P (bw P) i j ((k : Int) + 1)) = tv at *
      refine bg_iload11 (pc := 80) X1 dL_least_80 ?_
      refine bg_iconst (pc := 82) X1 dL_least_82 (by decide) ?_
      refine bg_icmp_ge (pc := 83) X1 (tgt := 174) dL_least_83 (by decide) (fun u83 => ?_) (fun u83 => ?_)
      · exfalso; omega
      · refine bg_aload0 (pc := 86) X1 dL_least_86 ?_
        refine bg_aload1 (pc := 87) X1 dL_least_87 ?_
        refine bg_iload2 (pc := 88) X1 dL_least_88 ?_
        refine bg_iload8 (pc := 89) X1 dL_least_89 ?_
        refine bg_iload3 (pc := 91) X1 dL_least_91 ?_
        refine bg_iload9 (pc := 92) X1 dL_least_92 ?_
        refine bg_iload11 (pc := 94) X1 dL_least_94 ?_
        refine bq_S7i (pc := 96) X1 (c_L_added hS1 ok h6 ha hb (⟨by omega, by omega⟩ : 0 ≤ (i : Int) ∧ (i : Int) ≤ _) (⟨by omega, by omega⟩ : 0 ≤ (j : Int) ∧ (j : Int) ≤ _) (by omega)) sL_added lL_24 rfl (by decide) dL_least_96 (by exact Nat.le_of_ble_eq_true rfl) (by decide) ?_
        rintro _ _ ⟨h9, h8⟩
        obtain rfl := h9.symm
        obtain rfl := h8.symm
        clear h9 h8
        rw [ei, ej, ← hP]
        refine bg_istore12 (pc := 99) X1 dL_least_99 ?_
        refine bg_iload12 (pc := 101) X1 dL_least_101 ?_
        refine bg_iload12 (pc := 103) X1 dL_least_103 ?_
        refine bg_ldc (pc := 105) X1 dL_least_105 kL_15 (by decide) ?_
        refine bg_icmp_ge (pc := 107) X1 (tgt := 148) dL_least_107 (by decide) (fun u107 => ?_) (fun u107 => ?_)
        · have h0 := hno (by omega)
          refine bg_iconst (pc := 148) X1 dL_least_148 (by decide) ?_
          refine bg_iadd (pc := 149) X1 dL_least_149 (by omega) ?_
          refine bg_istore12 (pc := 150) X1 dL_least_150 ?_
          refine bg_iload12 (pc := 152) X1 dL_least_152 ?_
          refine bg_iload10 (pc := 154) X1 dL_least_154 ?_
          refine bg_icmp_ge (pc := 156) X1 (tgt := 164) dL_least_156 (by decide) (fun u156 => ?_) (fun u156 => ?_)
          · refine bg_iload10 (pc := 164) X1 dL_least_164 ?_
            refine bg_istore10 (pc := 166) X1 dL_least_166 ?_
            refine bg_iinc11 (pc := 168) X1 dL_least_168 (by omega) ?_
            refine bg_goto (pc := 171) X1 (tgt := 80) dL_least_171 (by decide) ?_
            exact ih2 _ _ (by first | (rw [hstep, if_pos (by omega)]; omega) | (rw [hstep, if_neg (by omega)]))
          · refine bg_iload12 (pc := 159) X1 dL_least_159 ?_
            refine bg_goto (pc := 161) X1 (tgt := 166) dL_least_161 (by decide) ?_
            refine bg_istore10 (pc := 166) X1 dL_least_166 ?_
            refine bg_iinc11 (pc := 168) X1 dL_least_168 (by omega) ?_
            refine bg_goto (pc := 171) X1 (tgt := 80) dL_least_171 (by decide) ?_
            exact ih2 _ _ (by first | (rw [hstep, if_pos (by omega)]; omega) | (rw [hstep, if_neg (by omega)]))
        · obtain ⟨h1, h2, h3, h4, h5⟩ := hgo (by omega)
          refine bg_aload4 (pc := 110) X1 dL_least_110 ?_
          refine bg_bipush (pc := 112) X1 dL_least_112 rfl (by decide) ?_
          refine bg_iload8 (pc := 114) X1 dL_least_114 ?_
          refine bg_iload11 (pc := 116) X1 dL_least_116 ?_
          refine bg_iconst (pc := 118) X1 dL_least_118 (by decide) ?_
          refine bg_icmp_ge (pc := 119) X1 (tgt := 126) dL_least_119 (by decide) (fun u119 => ?_) (fun u119 => ?_)
          · refine bg_iconst (pc := 126) X1 dL_least_126 (by decide) ?_
            refine bg_iadd (pc := 127) X1 dL_least_127 (by omega) ?_
            refine bg_imul (pc := 128) X1 dL_least_128 (by omega) ?_
            refine bg_iload9 (pc := 129) X1 dL_least_129 ?_
            refine bg_iadd (pc := 131) X1 dL_least_131 (by omega) ?_
            refine bg_iload11 (pc := 132) X1 dL_least_132 ?_
            refine bg_iconst (pc := 134) X1 dL_least_134 (by decide) ?_
            refine bg_icmp_ne (pc := 135) X1 (tgt := 142) dL_least_135 (by decide) (fun u135 => ?_) (fun u135 => ?_)
            · refine bg_iconst (pc := 142) X1 dL_least_142 (by decide) ?_
              refine bg_iadd (pc := 143) X1 dL_least_143 (by omega) ?_
              refine bq_iaload (pc := 144) X1 dL_least_144 (by first | assumption | rfl) (by omega) ?_
              first
              | rw [show (7 * ((i : Int) + 1) + (j : Int) + 1).toNat = 7 * x + z by omega, h3]
              | rw [show (7 * ((i : Int) + 1) + (j : Int) + 0).toNat = 7 * x + z by omega, h3]
              | rw [show (7 * ((i : Int) + 0) + (j : Int) + 1).toNat = 7 * x + z by omega, h3]
              | rw [show (7 * ((i : Int) + 0) + (j : Int) + 0).toNat = 7 * x + z by omega, h3]
              refine bg_goto (pc := 145) X1 (tgt := 149) dL_least_145 (by decide) ?_
              refine bg_iadd (pc := 149) X1 dL_least_149 (by omega) ?_
              refine bg_istore12 (pc := 150) X1 dL_least_150 ?_
              refine bg_iload12 (pc := 152) X1 dL_least_152 ?_
              refine bg_iload10 (pc := 154) X1 dL_least_154 ?_
              refine bg_icmp_ge (pc := 156) X1 (tgt := 164) dL_least_156 (by decide) (fun u156 => ?_) (fun u156 => ?_)
              · refine bg_iload10 (pc := 164) X1 dL_least_164 ?_
                refine bg_istore10 (pc := 166) X1 dL_least_166 ?_
                refine bg_iinc11 (pc := 168) X1 dL_least_168 (by omega) ?_
                refine bg_goto (pc := 171) X1 (tgt := 80) dL_least_171 (by decide) ?_
                exact ih2 _ _ (by first | (rw [hstep, if_pos (by omega)]; omega) | (rw [hstep, if_neg (by omega)]))
              · refine bg_iload12 (pc := 159) X1 dL_least_159 ?_
                refine bg_goto (pc := 161) X1 (tgt := 166) dL_least_161 (by decide) ?_
                refine bg_istore10 (pc := 166) X1 dL_least_166 ?_
                refine bg_iinc11 (pc := 168) X1 dL_least_168 (by omega) ?_
                refine bg_goto (pc := 171) X1 (tgt := 80) dL_least_171 (by decide) ?_
                exact ih2 _ _ (by first | (rw [hstep, if_pos (by omega)]; omega) | (rw [hstep, if_neg (by omega)]))
            · refine bg_iconst (pc := 138) X1 dL_least_138 (by decide) ?_
              refine bg_goto (pc := 139) X1 (tgt := 143) dL_least_139 (by decide) ?_
              refine bg_iadd (pc := 143) X1 dL_least_143 (by omega) ?_
              refine bq_iaload (pc := 144) X1 dL_least_144 (by first | assumption | rfl) (by omega) ?_
              first
              | rw [show (7 * ((i : Int) + 1) + (j : Int) + 1).toNat = 7 * x + z by omega, h3]
              | rw [show (7 * ((i : Int) + 1) + (j : Int) + 0).toNat = 7 * x + z by omega, h3]
              | rw [show (7 * ((i : Int) + 0) + (j : Int) + 1).toNat = 7 * x + z by omega, h3]
              | rw [show (7 * ((i : Int) + 0) + (j : Int) + 0).toNat = 7 * x + z by omega, h3]
              refine bg_goto (pc := 145) X1 (tgt := 149) dL_least_145 (by decide) ?_
              refine bg_iadd (pc := 149) X1 dL_least_149 (by omega) ?_
              refine bg_istore12 (pc := 150) X1 dL_least_150 ?_
              refine bg_iload12 (pc := 152) X1 dL_least_152 ?_
              refine bg_iload10 (pc := 154) X1 dL_least_154 ?_
              refine bg_icmp_ge (pc := 156) X1 (tgt := 164) dL_least_156 (by decide) (fun u156 => ?_) (fun u156 => ?_)
              · refine bg_iload10 (pc := 164) X1 dL_least_164 ?_
                refine bg_istore10 (pc := 166) X1 dL_least_166 ?_
                refine bg_iinc11 (pc := 168) X1 dL_least_168 (by omega) ?_
                refine bg_goto (pc := 171) X1 (tgt := 80) dL_least_171 (by decide) ?_
                exact ih2 _ _ (by first | (rw [hstep, if_pos (by omega)]; omega) | (rw [hstep, if_neg (by omega)]))
              · refine bg_iload12 (pc := 159) X1 dL_least_159 ?_
                refine bg_goto (pc := 161) X1 (tgt := 166) dL_least_161 (by decide) ?_
                refine bg_istore10 (pc := 166) X1 dL_least_166 ?_
                refine bg_iinc11 (pc := 168) X1 dL_least_168 (by omega) ?_
                refine bg_goto (pc := 171) X1 (tgt := 80) dL_least_171 (by decide) ?_
                exact ih2 _ _ (by first | (rw [hstep, if_pos (by omega)]; omega) | (rw [hstep, if_neg (by omega)]))
          · refine bg_iconst (pc := 122) X1 dL_least_122 (by decide) ?_
            refine bg_goto (pc := 123) X1 (tgt := 127) dL_least_123 (by decide) ?_
            refine bg_iadd (pc := 127) X1 dL_least_127 (by omega) ?_
            refine bg_imul (pc := 128) X1 dL_least_128 (by omega) ?_
            refine bg_iload9 (pc := 129) X1 dL_least_129 ?_
            refine bg_iadd (pc := 131) X1 dL_least_131 (by omega) ?_
            refine bg_iload11 (pc := 132) X1 dL_least_132 ?_
            refine bg_iconst (pc := 134) X1 dL_least_134 (by decide) ?_
            refine bg_icmp_ne (pc := 135) X1 (tgt := 142) dL_least_135 (by decide) (fun u135 => ?_) (fun u135 => ?_)
            · refine bg_iconst (pc := 142) X1 dL_least_142 (by decide) ?_
              refine bg_iadd (pc := 143) X1 dL_least_143 (by omega) ?_
              refine bq_iaload (pc := 144) X1 dL_least_144 (by first | assumption | rfl) (by omega) ?_
              first
              | rw [show (7 * ((i : Int) + 1) + (j : Int) + 1).toNat = 7 * x + z by omega, h3]
              | rw [show (7 * ((i : Int) + 1) + (j : Int) + 0).toNat = 7 * x + z by omega, h3]
              | rw [show (7 * ((i : Int) + 0) + (j : Int) + 1).toNat = 7 * x + z by omega, h3]
              | rw [show (7 * ((i : Int) + 0) + (j : Int) + 0).toNat = 7 * x + z by omega, h3]
              refine bg_goto (pc := 145) X1 (tgt := 149) dL_least_145 (by decide) ?_
              refine bg_iadd (pc := 149) X1 dL_least_149 (by omega) ?_
              refine bg_istore12 (pc := 150) X1 dL_least_150 ?_
              refine bg_iload12 (pc := 152) X1 dL_least_152 ?_
              refine bg_iload10 (pc := 154) X1 dL_least_154 ?_
              refine bg_icmp_ge (pc := 156) X1 (tgt := 164) dL_least_156 (by decide) (fun u156 => ?_) (fun u156 => ?_)
              · refine bg_iload10 (pc := 164) X1 dL_least_164 ?_
                refine bg_istore10 (pc := 166) X1 dL_least_166 ?_
                refine bg_iinc11 (pc := 168) X1 dL_least_168 (by omega) ?_
                refine bg_goto (pc := 171) X1 (tgt := 80) dL_least_171 (by decide) ?_
                exact ih2 _ _ (by first | (rw [hstep, if_pos (by omega)]; omega) | (rw [hstep, if_neg (by omega)]))
              · refine bg_iload12 (pc := 159) X1 dL_least_159 ?_
                refine bg_goto (pc := 161) X1 (tgt := 166) dL_least_161 (by decide) ?_
                refine bg_istore10 (pc := 166) X1 dL_least_166 ?_
                refine bg_iinc11 (pc := 168) X1 dL_least_168 (by omega) ?_
                refine bg_goto (pc := 171) X1 (tgt := 80) dL_least_171 (by decide) ?_
                exact ih2 _ _ (by first | (rw [hstep, if_pos (by omega)]; omega) | (rw [hstep, if_neg (by omega)]))
            · refine bg_iconst (pc := 138) X1 dL_least_138 (by decide) ?_
              refine bg_goto (pc := 139) X1 (tgt := 143) dL_least_139 (by decide) ?_
              refine bg_iadd (pc := 143) X1 dL_least_143 (by omega) ?_
              refine bq_iaload (pc := 144) X1 dL_least_144 (by first | assumption | rfl) (by omega) ?_
              first
              | rw [show (7 * ((i : Int) + 1) + (j : Int) + 1).toNat = 7 * x + z by omega, h3]
              | rw [show (7 * ((i : Int) + 1) + (j : Int) + 0).toNat = 7 * x + z by omega, h3]
              | rw [show (7 * ((i : Int) + 0) + (j : Int) + 1).toNat = 7 * x + z by omega, h3]
              | rw [show (7 * ((i : Int) + 0) + (j : Int) + 0).toNat = 7 * x + z by omega, h3]
              refine bg_goto (pc := 145) X1 (tgt := 149) dL_least_145 (by decide) ?_
              refine bg_iadd (pc := 149) X1 dL_least_149 (by omega) ?_
              refine bg_istore12 (pc := 150) X1 dL_least_150 ?_
              refine bg_iload12 (pc := 152) X1 dL_least_152 ?_
              refine bg_iload10 (pc := 154) X1 dL_least_154 ?_
              refine bg_icmp_ge (pc := 156) X1 (tgt := 164) dL_least_156 (by decide) (fun u156 => ?_) (fun u156 => ?_)
              · refine bg_iload10 (pc := 164) X1 dL_least_164 ?_
                refine bg_istore10 (pc := 166) X1 dL_least_166 ?_
                refine bg_iinc11 (pc := 168) X1 dL_least_168 (by omega) ?_
                refine bg_goto (pc := 171) X1 (tgt := 80) dL_least_171 (by decide) ?_
                exact ih2 _ _ (by first | (rw [hstep, if_pos (by omega)]; omega) | (rw [hstep, if_neg (by omega)]))
              · refine bg_iload12 (pc := 159) X1 dL_least_159 ?_
                refine bg_goto (pc := 161) X1 (tgt := 166) dL_least_161 (by decide) ?_
                refine bg_istore10 (pc := 166) X1 dL_least_166 ?_
                refine bg_iinc11 (pc := 168) X1 dL_least_168 (by omega) ?_
                refine bg_goto (pc := 171) X1 (tgt := 80) dL_least_171 (by decide) ?_
                exact ih2 _ _ (by first | (rw [hstep, if_pos (by omega)]; omega) | (rw [hstep, if_neg (by omega)]))
  have middle : ∀ (r i sn : Nat) (su : Int) (l9 l10 l11 l12 : Option bg_V) (g1 : bg_E), su = (sn : Int) → i + r = m + 1 → sn ≤ m + nn → frR 200 201 g g1 → (∀ x z : Nat, x ≤ m → z ≤ nn → (sn < x + z ∨ (x + z = sn ∧ x < i)) → g1 200 (7 * x + z) = bw P x z) → (∀ (l8 l9 l10 l11 l12 : Option bg_V) (g1 : bg_E), frR 200 201 g g1 → (∀ x z : Nat, x ≤ m → z ≤ nn → sn ≤ x + z → g1 200 (7 * x + z) = bw P x z) → bg_g κ y 23 [some (.inr 198), some (.inr 199), some (.inl a), some (.inl b), some (.inr 200), some (.inl (m : Int)), some (.inl (nn : Int)), some (.inl (su + -1)), l8, l9, l10, l11, l12] [] g1) → bg_g κ y 31 [some (.inr 198), some (.inr 199), some (.inl a), some (.inl b), some (.inr 200), some (.inl (m : Int)), some (.inl (nn : Int)), some (.inl su), some (.inl (i : Int)), l9, l10, l11, l12] [] g1 := by
    intro r
    induction r with
    | zero =>
      intro i sn su l9 l10 l11 l12 g1 hsu hr hs hF hT kk
      refine bg_iload8 (pc := 31) X1 dL_least_31 ?_
      refine bg_iload5 (pc := 33) X1 dL_least_33 ?_
      refine bg_icmp_gt (pc := 35) X1 (tgt := 193) dL_least_35 (by decide) (fun u35 => ?_) (fun u35 => ?_)
      · refine bg_iinc7 (pc := 193) X1 dL_least_193 (by omega) ?_
        refine bg_goto (pc := 196) X1 (tgt := 23) dL_least_196 (by decide) ?_
        exact kk _ _ _ _ _ _ hF (fun x z hx hz h => hT x z hx hz (by omega))
      · exfalso; omega
    | succ r ih =>
      intro i sn su l9 l10 l11 l12 g1 hsu hr hs hF hT kk
      by_cases hin : i ≤ sn ∧ sn - i ≤ nn
      · have hj : su - (i : Int) = ((sn - i : Nat) : Int) := by omega
        have e0 : (i + (sn - i) = m + nn → mnS P (bw P) i (sn - i) 0 = 0) ∧ (¬ i + (sn - i) = m + nn → mnS P (bw P) i (sn - i) 0 = -1) := ⟨fun h => if_pos ⟨by rw [eA]; omega, by rw [eB]; omega⟩, fun h => if_neg (fun q => by rw [eA, eB] at q; omega)⟩
        have hb0 := bw_B okP1 (i := i) (j := sn - i) (by rw [eA]; omega) (by rw [eB]; omega)
        have aft : ∀ l11 l12 : Option bg_V, bg_g κ y 174 [some (.inr 198), some (.inr 199), some (.inl a), some (.inl b), some (.inr 200), some (.inl (m : Int)), some (.inl (nn : Int)), some (.inl su), some (.inl (i : Int)), some (.inl ((sn - i : Nat) : Int)), some (.inl (bw P i (sn - i))), l11, l12] [] g1 := by
          intro l11 l12
          refine bg_aload4 (pc := 174) X1 dL_least_174 ?_
          refine bg_bipush (pc := 176) X1 dL_least_176 rfl (by decide) ?_
          refine bg_iload8 (pc := 178) X1 dL_least_178 ?_
          refine bg_imul (pc := 180) X1 dL_least_180 (by omega) ?_
          refine bg_iload9 (pc := 181) X1 dL_least_181 ?_
          refine bg_iadd (pc := 183) X1 dL_least_183 (by omega) ?_
          refine bg_iload10 (pc := 184) X1 dL_least_184 ?_
          refine bq_iastore (pc := 186) X1 dL_least_186 (by first | assumption | rfl) (by omega) ?_
          refine bg_iinc8 (pc := 187) X1 dL_least_187 (by omega) ?_
          refine bg_goto (pc := 190) X1 (tgt := 31) dL_least_190 (by decide) ?_
          refine ih (i + 1) sn su _ _ _ _ _ hsu (by omega) hs (hF.up (by omega) (by omega)) (fun x z hx hz h => ?_) kk
          rw [show (7 * (i : Int) + ((sn - i : Nat) : Int)).toNat = 7 * i + (sn - i) by omega]
          by_cases e : x = i ∧ z = sn - i
          · rw [e.1, e.2, up_eq]
          · rw [up_k (by omega)]
            exact hT x z hx hz (by omega)
        have inn := fun (be : Int) (l12 : Option bg_V) (hbe : be = inf (mnS P (bw P) i (sn - i) 0)) => inner 4 0 i (sn - i) 1 be su l12 g1 rfl rfl hbe (by omega) (by omega) hF (fun x z hx hz h => hT x z hx hz (Or.inl (by omega))) aft
        refine bg_iload8 (pc := 31) X1 dL_least_31 ?_
        refine bg_iload5 (pc := 33) X1 dL_least_33 ?_
        refine bg_icmp_gt (pc := 35) X1 (tgt := 193) dL_least_35 (by decide) (fun u35 => ?_) (fun u35 => ?_)
        · exfalso; omega
        · refine bg_iload8 (pc := 38) X1 dL_least_38 ?_
          refine bg_iload7 (pc := 40) X1 dL_least_40 ?_
          refine bg_icmp_gt (pc := 42) X1 (tgt := 193) dL_least_42 (by decide) (fun u42 => ?_) (fun u42 => ?_)
          · exfalso; omega
          · refine bg_iload7 (pc := 45) X1 dL_least_45 ?_
            refine bg_iload8 (pc := 47) X1 dL_least_47 ?_
            refine bg_isub (pc := 49) X1 dL_least_49 (by omega) ?_
            rw [hj]
            refine bg_istore9 (pc := 50) X1 dL_least_50 ?_
            refine bg_iload9 (pc := 52) X1 dL_least_52 ?_
            refine bg_iload6 (pc := 54) X1 dL_least_54 ?_
            refine bg_icmp_gt (pc := 56) X1 (tgt := 187) dL_least_56 (by decide) (fun u56 => ?_) (fun u56 => ?_)
            · exfalso; omega
            · refine bg_iload7 (pc := 59) X1 dL_least_59 ?_
              refine bg_iload5 (pc := 61) X1 dL_least_61 ?_
              refine bg_iload6 (pc := 63) X1 dL_least_63 ?_
              refine bg_iadd (pc := 65) X1 dL_least_65 (by omega) ?_
              refine bg_icmp_ne (pc := 66) X1 (tgt := 73) dL_least_66 (by decide) (fun u66 => ?_) (fun u66 => ?_)
              · refine bg_ldc (pc := 73) X1 dL_least_73 kL_15 (by decide) ?_
                refine bg_istore10 (pc := 75) X1 dL_least_75 ?_
                refine bg_iconst (pc := 77) X1 dL_least_77 (by decide) ?_
                refine bg_istore11 (pc := 78) X1 dL_least_78 ?_
                exact inn _ _ (by first | (rw [e0.1 (by omega)]; rfl) | (rw [e0.2 (by omega)]; rfl))
              · refine bg_iconst (pc := 69) X1 dL_least_69 (by decide) ?_
                refine bg_goto (pc := 70) X1 (tgt := 75) dL_least_70 (by decide) ?_
                refine bg_istore10 (pc := 75) X1 dL_least_75 ?_
                refine bg_iconst (pc := 77) X1 dL_least_77 (by decide) ?_
                refine bg_istore11 (pc := 78) X1 dL_least_78 ?_
                exact inn _ _ (by first | (rw [e0.1 (by omega)]; rfl) | (rw [e0.2 (by omega)]; rfl))
      · by_cases hi2 : i ≤ sn
        · skip
          refine bg_iload8 (pc := 31) X1 dL_least_31 ?_
          refine bg_iload5 (pc := 33) X1 dL_least_33 ?_
          refine bg_icmp_gt (pc := 35) X1 (tgt := 193) dL_least_35 (by decide) (fun u35 => ?_) (fun u35 => ?_)
          · exfalso; omega
          · refine bg_iload8 (pc := 38) X1 dL_least_38 ?_
            refine bg_iload7 (pc := 40) X1 dL_least_40 ?_
            refine bg_icmp_gt (pc := 42) X1 (tgt := 193) dL_least_42 (by decide) (fun u42 => ?_) (fun u42 => ?_)
            · exfalso; omega
            · refine bg_iload7 (pc := 45) X1 dL_least_45 ?_
              refine bg_iload8 (pc := 47) X1 dL_least_47 ?_
              refine bg_isub (pc := 49) X1 dL_least_49 (by omega) ?_
              refine bg_istore9 (pc := 50) X1 dL_least_50 ?_
              refine bg_iload9 (pc := 52) X1 dL_least_52 ?_
              refine bg_iload6 (pc := 54) X1 dL_least_54 ?_
              refine bg_icmp_gt (pc := 56) X1 (tgt := 187) dL_least_56 (by decide) (fun u56 => ?_) (fun u56 => ?_)
              · refine bg_iinc8 (pc := 187) X1 dL_least_187 (by omega) ?_
                refine bg_goto (pc := 190) X1 (tgt := 31) dL_least_190 (by decide) ?_
                refine ih (i + 1) sn su _ _ _ _ _ hsu (by omega) hs hF (fun x z hx hz h => hT x z hx hz (by omega)) kk
              · exfalso; omega
        · skip
          refine bg_iload8 (pc := 31) X1 dL_least_31 ?_
          refine bg_iload5 (pc := 33) X1 dL_least_33 ?_
          refine bg_icmp_gt (pc := 35) X1 (tgt := 193) dL_least_35 (by decide) (fun u35 => ?_) (fun u35 => ?_)
          · exfalso; omega
          · refine bg_iload8 (pc := 38) X1 dL_least_38 ?_
            refine bg_iload7 (pc := 40) X1 dL_least_40 ?_
            refine bg_icmp_gt (pc := 42) X1 (tgt := 193) dL_least_42 (by decide) (fun u42 => ?_) (fun u42 => ?_)
            · refine bg_iinc7 (pc := 193) X1 dL_least_193 (by omega) ?_
              refine bg_goto (pc := 196) X1 (tgt := 23) dL_least_196 (by decide) ?_
              exact kk _ _ _ _ _ _ hF (fun x z hx hz h => hT x z hx hz (by omega))
            · exfalso; omega
  have outer : ∀ (n : Nat) (l8 l9 l10 l11 l12 : Option bg_V) (g1 : bg_E), n ≤ m + nn + 1 → frR 200 201 g g1 → (∀ x z : Nat, x ≤ m → z ≤ nn → n ≤ x + z → g1 200 (7 * x + z) = bw P x z) → ∀ su : Int, su = (n : Int) - 1 → bg_g κ y 23 [some (.inr 198), some (.inr 199), some (.inl a), some (.inl b), some (.inr 200), some (.inl (m : Int)), some (.inl (nn : Int)), some (.inl su), l8, l9, l10, l11, l12] [] g1 := by
    intro n
    induction n with
    | zero =>
      intro l8 l9 l10 l11 l12 g1 hn1 hF hT su hsu
      have e0 : g1 200 0 = bw P 0 0 := hT 0 0 (Nat.zero_le _) (Nat.zero_le _) (Nat.zero_le _)
      refine bg_iload7 (pc := 23) X1 dL_least_23 ?_
      refine bg_if_lt (pc := 25) X1 (tgt := 199) dL_least_25 (by decide) (fun u25 => ?_) (fun u25 => ?_)
      · refine bg_aload4 (pc := 199) X1 dL_least_199 ?_
        refine bg_iconst (pc := 201) X1 dL_least_201 (by decide) ?_
        refine bq_iaload (pc := 202) X1 dL_least_202 (by first | assumption | rfl) (by omega) ?_
        exact bo_iret (pc := 203) X rfl dL_least_203 (fun hi => ⟨e0, fun x z hx hz => hT x z hx hz (Nat.zero_le _), hF⟩)
      · exfalso; omega
    | succ n ih =>
      intro l8 l9 l10 l11 l12 g1 hn1 hF hT su hsu
      refine bg_iload7 (pc := 23) X1 dL_least_23 ?_
      refine bg_if_lt (pc := 25) X1 (tgt := 199) dL_least_25 (by decide) (fun u25 => ?_) (fun u25 => ?_)
      · exfalso; omega
      · refine bg_iconst (pc := 28) X1 dL_least_28 (by decide) ?_
        refine bg_istore8 (pc := 29) X1 dL_least_29 ?_
        exact middle (m + 1) 0 n su _ _ _ _ g1 (by omega) (by omega) (by omega) hF (fun x z hx hz h => hT x z hx hz (by omega)) (fun l8 l9 l10 l11 l12 g2 hF2 hT2 => ih l8 l9 l10 l11 l12 g2 (by omega) hF2 hT2 _ (by omega))
  refine bg_aload0 (pc := 0) X1 dL_least_0 ?_
  refine bg_bipush (pc := 1) X1 dL_least_1 rfl (by decide) ?_
  refine bg_iload2 (pc := 3) X1 dL_least_3 ?_
  refine bg_iadd (pc := 4) X1 dL_least_4 (by omega) ?_
  refine bq_iaload (pc := 5) X1 dL_least_5 (by first | assumption | rfl) (by omega) ?_
  rw [rw_len hS ha, ← hm]
  refine bg_istore5 (pc := 6) X1 dL_least_6 ?_
  refine bg_aload0 (pc := 8) X1 dL_least_8 ?_
  refine bg_bipush (pc := 9) X1 dL_least_9 rfl (by decide) ?_
  refine bg_iload3 (pc := 11) X1 dL_least_11 ?_
  refine bg_iadd (pc := 12) X1 dL_least_12 (by omega) ?_
  refine bq_iaload (pc := 13) X1 dL_least_13 (by first | assumption | rfl) (by omega) ?_
  rw [rw_len hS hb, ← hn]
  refine bg_istore6 (pc := 14) X1 dL_least_14 ?_
  refine bg_iload5 (pc := 16) X1 dL_least_16 ?_
  refine bg_iload6 (pc := 18) X1 dL_least_18 ?_
  refine bg_iadd (pc := 20) X1 dL_least_20 (by omega) ?_
  refine bg_istore7 (pc := 21) X1 dL_least_21 ?_
  exact outer (m + nn + 1) _ _ _ _ _ g (Nat.le_refl _) frR.rf (fun x z hx hz h => by omega) _ (by omega)
