/-! the model: what steps cost -/
abbrev mq (S : bm_S) (a b : Int) : bm_P := mkP S a.toNat b.toNat
theorem mq_ok {S : bm_S} (ok : staOK S) {a b : Int} (ha : isHo a) (hb : isHo b) : okP (mq S a b) := mkP_ok ok (by omega) (by omega)
theorem c_X7_differ {y : bg_Y} {g : bg_E} {a b i j : Int} {S : bm_S} (hS : rowR (g 199) S) (ok : staOK S) (ha : isHo a) (hb : isHo b) (hi : 0 ≤ i ∧ i < ((sq S a).length : Int)) (hj : 0 ≤ j ∧ j < ((sq S b).length : Int)) : bg_Si y 2 mX7_differ [.inr 198, .inl a, .inl i, .inl b, .inl j] g (fun r g' => r = dif (mq S a b) i.toNat j.toNat ∧ g' = g) := by
  have h1 := thOK (sq_OK ok ha).1 (k := i.toNat) (by omega)
  have h2 := thOK (sq_OK ok hb).1 (k := j.toNat) (by omega)
  have e2 : g 199 (2 : Int).toNat = S.1 2 := hS.1 2 (by omega)
  have hU := ok.2.2.1
  have hD : dif (mq S a b) i.toNat j.toNat = S.1 2 * ((th (sq S a) i.toNat - th (sq S b) j.toNat).natAbs : Int) := rfl
  have hm : ∀ d : Int, 0 ≤ d → d ≤ 98 → R32 (S.1 2 * d) := fun d h3 h4 => by
    have h6 : S.1 2 * d ≤ 9 * d := Int.mul_le_mul_of_nonneg_right hU.2 h3
    have h7 : 0 ≤ S.1 2 * d := Int.mul_nonneg hU.1 h3
    constructor <;> omega
  refine bg_enter pnX7 (Nat.le_of_ble_eq_true rfl) (fun κ X hR hg => ?_)
  have X1 : bg_X κ y cX7_differ RX7 2 0 0 := X.1
  have hg : ∀ a k, R32 (g a k) := hg
  show bg_g κ y 0 [some (.inr 198), some (.inl a), some (.inl i), some (.inl b), some (.inl j), none] [] g
  refine bg_aload0 (pc := 0) X1 dX7_differ_0 ?_
  refine bg_iload1 (pc := 1) X1 dX7_differ_1 ?_
  refine bg_iload2 (pc := 2) X1 dX7_differ_2 ?_
  refine bo_V2i (pc := 3) X1 (c_X7_thick hS ok ha hi) vX7_thick lX7_71 rfl (by first | assumption | rfl) (by decide) dX7_differ_3 (by exact Nat.le_of_ble_eq_true rfl) ?_
  rintro _ _ ⟨h9, h8⟩
  obtain rfl := h9.symm
  obtain rfl := h8.symm
  clear h9 h8
  refine bg_aload0 (pc := 6) X1 dX7_differ_6 ?_
  refine bg_iload3 (pc := 7) X1 dX7_differ_7 ?_
  refine bg_iload4 (pc := 8) X1 dX7_differ_8 ?_
  refine bo_V2i (pc := 10) X1 (c_X7_thick hS ok hb hj) vX7_thick lX7_71 rfl (by first | assumption | rfl) (by decide) dX7_differ_10 (by exact Nat.le_of_ble_eq_true rfl) ?_
  rintro _ _ ⟨h9, h8⟩
  obtain rfl := h9.symm
  obtain rfl := h8.symm
  clear h9 h8
  refine bg_isub (pc := 13) X1 dX7_differ_13 (by omega) ?_
  refine bg_istore5 (pc := 14) X1 dX7_differ_14 ?_
  refine bg_aload0 (pc := 16) X1 dX7_differ_16 ?_
  refine bo_getR (pc := 17) X1 dX7_differ_17 fX7_7 (by first | assumption | rfl) rfl (by first | assumption | rfl) ?_
  refine bg_iconst (pc := 20) X1 dX7_differ_20 (by decide) ?_
  refine bo_iaload (pc := 21) X1 dX7_differ_21 (by first | assumption | rfl) (by omega) ?_
  rw [e2]
  refine bg_iload5 (pc := 22) X1 dX7_differ_22 ?_
  refine bg_if_ge (pc := 24) X1 (tgt := 33) dX7_differ_24 (by decide) (fun u24 => ?_) (fun u24 => ?_)
  · refine bg_iload5 (pc := 33) X1 dX7_differ_33 ?_
    refine bg_imul (pc := 35) X1 dX7_differ_35 (hm _ (by omega) (by omega)) ?_
    exact bo_iret (pc := 36) X rfl dX7_differ_36 (fun hi => ⟨by rw [hD]; congr 1; omega, rfl⟩)
  · refine bg_iload5 (pc := 27) X1 dX7_differ_27 ?_
    refine bg_ineg (pc := 29) X1 dX7_differ_29 (by omega) ?_
    refine bg_goto (pc := 30) X1 (tgt := 35) dX7_differ_30 (by decide) ?_
    refine bg_imul (pc := 35) X1 dX7_differ_35 (hm _ (by omega) (by omega)) ?_
    exact bo_iret (pc := 36) X rfl dX7_differ_36 (fun hi => ⟨by rw [hD]; congr 1; omega, rfl⟩)
theorem c_X7_repeated {y : bg_Y} {g : bg_E} {a b i j : Int} {S : bm_S} (hS : rowR (g 199) S) (ok : staOK S) (ha : isHo a) (hb : isHo b) (hi : 0 ≤ i ∧ i ≤ ((sq S a).length : Int)) (hj : 0 ≤ j ∧ j < ((sq S b).length : Int)) : bg_Si y 2 mX7_repeated [.inr 198, .inl a, .inl i, .inl b, .inl j] g (fun r g' => r = rep (mq S a b) i.toNat j.toNat ∧ g' = g) := by
  have e3 : g 199 (3 : Int).toNat = S.1 3 := hS.1 3 (by omega)
  have hW := ok.2.2.2.1
  have hl := (sq_OK ok ha).2
  have hrep : rep (mq S a b) i.toNat j.toNat = rp (sq S a) (mrk (sq S b) j.toNat) (S.1 3).toNat i.toNat := rfl
  refine bg_enter pnX7 (Nat.le_of_ble_eq_true rfl) (fun κ X hR hg => ?_)
  have X1 : bg_X κ y cX7_repeated RX7 2 0 0 := X.1
  have hg : ∀ a k, R32 (g a k) := hg
  show bg_g κ y 0 [some (.inr 198), some (.inl a), some (.inl i), some (.inl b), some (.inl j), none] [] g
  have loop : ∀ (k n : Nat), (k : Int) + S.1 3 = i + n → (k : Int) ≤ i → rep (mq S a b) i.toNat j.toNat = rp (sq S a) (mrk (sq S b) j.toNat) n k → bg_g κ y 5 [some (.inr 198), some (.inl a), some (.inl i), some (.inl b), some (.inl j), some (.inl ((k : Int) - 1))] [] g := by
    intro k
    induction k with
    | zero =>
      intro n hn hk hr
      refine bg_iload5 (pc := 5) X1 dX7_repeated_5 ?_
      refine bg_if_lt (pc := 7) X1 (tgt := 49) dX7_repeated_7 (by decide) (fun u7 => ?_) (fun u7 => ?_)
      · refine bg_iconst (pc := 49) X1 dX7_repeated_49 (by decide) ?_
        exact bo_iret (pc := 50) X rfl dX7_repeated_50 (fun hi => ⟨by rw [hr]; cases n <;> rfl, rfl⟩)
      · exfalso; omega
    | succ k ih =>
      intro n hn hk hr
      have ek : ((k + 1 : Nat) : Int) - 1 = (k : Int) := by omega
      rw [ek]
      cases n with
      | zero =>
        refine bg_iload5 (pc := 5) X1 dX7_repeated_5 ?_
        refine bg_if_lt (pc := 7) X1 (tgt := 49) dX7_repeated_7 (by decide) (fun u7 => ?_) (fun u7 => ?_)
        · exfalso; omega
        · refine bg_iload5 (pc := 10) X1 dX7_repeated_10 ?_
          refine bg_iload2 (pc := 12) X1 dX7_repeated_12 ?_
          refine bg_aload0 (pc := 13) X1 dX7_repeated_13 ?_
          refine bo_getR (pc := 14) X1 dX7_repeated_14 fX7_7 (by first | assumption | rfl) rfl (by first | assumption | rfl) ?_
          refine bg_iconst (pc := 17) X1 dX7_repeated_17 (by decide) ?_
          refine bo_iaload (pc := 18) X1 dX7_repeated_18 (by first | assumption | rfl) (by omega) ?_
          rw [e3]
          refine bg_isub (pc := 19) X1 dX7_repeated_19 (by omega) ?_
          refine bg_icmp_lt (pc := 20) X1 (tgt := 49) dX7_repeated_20 (by decide) (fun u20 => ?_) (fun u20 => ?_)
          · refine bg_iconst (pc := 49) X1 dX7_repeated_49 (by decide) ?_
            exact bo_iret (pc := 50) X rfl dX7_repeated_50 (fun hi => ⟨by rw [hr]; rfl, rfl⟩)
          · exfalso; omega
      | succ n =>
        refine bg_iload5 (pc := 5) X1 dX7_repeated_5 ?_
        refine bg_if_lt (pc := 7) X1 (tgt := 49) dX7_repeated_7 (by decide) (fun u7 => ?_) (fun u7 => ?_)
        · exfalso; omega
        · refine bg_iload5 (pc := 10) X1 dX7_repeated_10 ?_
          refine bg_iload2 (pc := 12) X1 dX7_repeated_12 ?_
          refine bg_aload0 (pc := 13) X1 dX7_repeated_13 ?_
          refine bo_getR (pc := 14) X1 dX7_repeated_14 fX7_7 (by first | assumption | rfl) rfl (by first | assumption | rfl) ?_
          refine bg_iconst (pc := 17) X1 dX7_repeated_17 (by decide) ?_
          refine bo_iaload (pc := 18) X1 dX7_repeated_18 (by first | assumption | rfl) (by omega) ?_
          rw [e3]
          refine bg_isub (pc := 19) X1 dX7_repeated_19 (by omega) ?_
          refine bg_icmp_lt (pc := 20) X1 (tgt := 49) dX7_repeated_20 (by decide) (fun u20 => ?_) (fun u20 => ?_)
          · exfalso; omega
          · refine bg_aload0 (pc := 23) X1 dX7_repeated_23 ?_
            refine bg_iload1 (pc := 24) X1 dX7_repeated_24 ?_
            refine bg_iload5 (pc := 25) X1 dX7_repeated_25 ?_
            refine bo_V2i (pc := 27) X1 (c_X7_mark hS ok ha (by omega)) vX7_mark lX7_107 rfl (by first | assumption | rfl) (by decide) dX7_repeated_27 (by exact Nat.le_of_ble_eq_true rfl) ?_
            rintro _ _ ⟨h9, h8⟩
            obtain rfl := h9.symm
            obtain rfl := h8.symm
            clear h9 h8
            rw [Int.toNat_natCast]
            refine bg_aload0 (pc := 30) X1 dX7_repeated_30 ?_
            refine bg_iload3 (pc := 31) X1 dX7_repeated_31 ?_
            refine bg_iload4 (pc := 32) X1 dX7_repeated_32 ?_
            refine bo_V2i (pc := 34) X1 (c_X7_mark hS ok hb hj) vX7_mark lX7_107 rfl (by first | assumption | rfl) (by decide) dX7_repeated_34 (by exact Nat.le_of_ble_eq_true rfl) ?_
            rintro _ _ ⟨h9, h8⟩
            obtain rfl := h9.symm
            obtain rfl := h8.symm
            clear h9 h8
            refine bg_icmp_ne (pc := 37) X1 (tgt := 43) dX7_repeated_37 (by decide) (fun u37 => ?_) (fun u37 => ?_)
            · refine bg_iinc5 (pc := 43) X1 dX7_repeated_43 (by omega) ?_
              refine bg_goto (pc := 46) X1 (tgt := 5) dX7_repeated_46 (by decide) ?_
              exact ih n (by omega) (by omega) (by rw [hr, rp, if_neg u37])
            · refine bg_iload5 (pc := 40) X1 dX7_repeated_40 ?_
              exact bo_iret (pc := 42) X rfl dX7_repeated_42 (fun hi => ⟨by rw [hr, rp, if_pos u37], rfl⟩)
  refine bg_iload2 (pc := 0) X1 dX7_repeated_0 ?_
  refine bg_iconst (pc := 1) X1 dX7_repeated_1 (by decide) ?_
  refine bg_isub (pc := 2) X1 dX7_repeated_2 (by omega) ?_
  refine bg_istore5 (pc := 3) X1 dX7_repeated_3 ?_
  have := loop i.toNat (S.1 3).toNat (by omega) (by omega) hrep
  rw [show ((i.toNat : Nat) : Int) = i by omega] at this
  exact this
theorem c_X7_costOf {y : bg_Y} {g : bg_E} {a b i j s : Int} {S : bm_S} (hS : rowR (g 199) S) (ok : staOK S) (ha : isHo a) (hb : isHo b) (hi : 0 ≤ i ∧ i ≤ ((sq S a).length : Int)) (hj : 0 ≤ j ∧ j ≤ ((sq S b).length : Int)) (hs : 1 ≤ s ∧ s ≤ 4) (hT : ∀ s : Int, 0 ≤ sc (mq S a b) s i.toNat j.toNat → g 206 (25 * ni s i.toNat + nj s j.toNat) = bw (mq S a b) (ni s i.toNat) (nj s j.toNat)) : bg_Si y 3 mX7_costOf [.inr 198, .inl a, .inl i, .inl b, .inl j, .inl s] g (fun r g' => r = tS (mq S a b) (bw (mq S a b)) i.toNat j.toNat s ∧ g' = g) := by
  have okP1 := mq_ok ok ha hb
  have hlA := (sq_OK ok ha)
  have hlB := (sq_OK ok hb)
  have e1 : g 199 (1 : Int).toNat = S.1 1 := hS.1 1 (by omega)
  have hR1 := ok.2.1
  have eA : (pA (mq S a b)) = sq S a := rfl
  have eB : (pB (mq S a b)) = sq S b := rfl
  have bB : ∀ x z : Nat, x ≤ (sq S a).length → z ≤ (sq S b).length → 0 ≤ bw (mq S a b) x z ∧ bw (mq S a b) x z ≤ 14256 := fun x z hx hz => bw_B okP1 hx hz
  have hM : ∀ m, isMa m → 1 ≤ pM (mkP S a.toNat b.toNat) m ∧ pM (mkP S a.toNat b.toNat) m ≤ 297 := okP1.2.2.1
  have go : ∀ s : Int, 0 ≤ sc (mq S a b) s i.toNat j.toNat → tS (mq S a b) (bw (mq S a b)) i.toNat j.toNat s = sc (mq S a b) s i.toNat j.toNat + g 206 (25 * ni s i.toNat + nj s j.toNat) := fun s h => by rw [tS_go h, hT s h]
  have s1 : ∀ (_ : (i.toNat < (sq S a).length ∧ j.toNat < (sq S b).length ∧ mrk (sq S a) i.toNat = mrk (sq S b) j.toNat)), sc (mq S a b) 1 i.toNat j.toNat = dif (mq S a b) i.toNat j.toNat := fun h => by rw [sc_1]; exact if_pos h
  refine bg_enter pnX7 (Nat.le_of_ble_eq_true rfl) (fun κ X hR hg => ?_)
  have X1 : bg_X κ y cX7_costOf RX7 3 0 0 := X.1
  have hg : ∀ a k, R32 (g a k) := hg
  show bg_g κ y 0 [some (.inr 198), some (.inl a), some (.inl i), some (.inl b), some (.inl j), some (.inl s), none, none, none] [] g
  refine bg_aload0 (pc := 0) X1 dX7_costOf_0 ?_
  refine bo_getR (pc := 1) X1 dX7_costOf_1 fX7_7 (by first | assumption | rfl) rfl (by first | assumption | rfl) ?_
  refine bg_bipush (pc := 4) X1 dX7_costOf_4 rfl (by decide) ?_
  refine bg_iload1 (pc := 6) X1 dX7_costOf_6 ?_
  refine bg_iadd (pc := 7) X1 dX7_costOf_7 (by omega) ?_
  refine bo_iaload (pc := 8) X1 dX7_costOf_8 (by first | assumption | rfl) (by omega) ?_
  rw [row_len hS ha]
  refine bg_istore6 (pc := 9) X1 dX7_costOf_9 ?_
  refine bg_aload0 (pc := 11) X1 dX7_costOf_11 ?_
  refine bo_getR (pc := 12) X1 dX7_costOf_12 fX7_7 (by first | assumption | rfl) rfl (by first | assumption | rfl) ?_
  refine bg_bipush (pc := 15) X1 dX7_costOf_15 rfl (by decide) ?_
  refine bg_iload3 (pc := 17) X1 dX7_costOf_17 ?_
  refine bg_iadd (pc := 18) X1 dX7_costOf_18 (by omega) ?_
  refine bo_iaload (pc := 19) X1 dX7_costOf_19 (by first | assumption | rfl) (by omega) ?_
  rw [row_len hS hb]
  refine bg_istore7 (pc := 20) X1 dX7_costOf_20 ?_
  refine bg_iload5 (pc := 22) X1 dX7_costOf_22 ?_
  refine bg_iconst (pc := 24) X1 dX7_costOf_24 (by decide) ?_
  refine bg_icmp_ne (pc := 25) X1 (tgt := 88) dX7_costOf_25 (by decide) (fun u25 => ?_) (fun u25 => ?_)
  · refine bg_iload5 (pc := 88) X1 dX7_costOf_88 ?_
    refine bg_iconst (pc := 90) X1 dX7_costOf_90 (by decide) ?_
    refine bg_icmp_ne (pc := 91) X1 (tgt := 130) dX7_costOf_91 (by decide) (fun u91 => ?_) (fun u91 => ?_)
    · refine bg_iload4 (pc := 130) X1 dX7_costOf_130 ?_
      refine bg_iload7 (pc := 132) X1 dX7_costOf_132 ?_
      refine bg_icmp_ne (pc := 134) X1 (tgt := 139) dX7_costOf_134 (by decide) (fun u134 => ?_) (fun u134 => ?_)
      · refine bg_iload5 (pc := 139) X1 dX7_costOf_139 ?_
        refine bg_iconst (pc := 141) X1 dX7_costOf_141 (by decide) ?_
        refine bg_icmp_ne (pc := 142) X1 (tgt := 172) dX7_costOf_142 (by decide) (fun u142 => ?_) (fun u142 => ?_)
        · obtain rfl : s = 3 := by omega
          have hrl := rep_lt (P := mq S a b) (i := i.toNat) (j := j.toNat)
          refine bg_aload0 (pc := 172) X1 dX7_costOf_172 ?_
          refine bg_iload1 (pc := 173) X1 dX7_costOf_173 ?_
          refine bg_iload2 (pc := 174) X1 dX7_costOf_174 ?_
          refine bg_iload3 (pc := 175) X1 dX7_costOf_175 ?_
          refine bg_iload4 (pc := 176) X1 dX7_costOf_176 ?_
          refine bo_V4i (pc := 178) X1 (c_X7_repeated hS ok ha hb hi (by omega)) vX7_repeated lX7_156 rfl (by first | assumption | rfl) (by decide) dX7_costOf_178 (by exact Nat.le_of_ble_eq_true rfl) ?_
          rintro _ _ ⟨h9, h8⟩
          obtain rfl := h9.symm
          obtain rfl := h8.symm
          clear h9 h8
          refine bg_istore8 (pc := 181) X1 dX7_costOf_181 ?_
          refine bg_iload8 (pc := 183) X1 dX7_costOf_183 ?_
          refine bg_if_ge (pc := 185) X1 (tgt := 192) dX7_costOf_185 (by decide) (fun u185 => ?_) (fun u185 => ?_)
          · have hd := dif_R okP1 (i := (rep (mq S a b) i.toNat j.toNat).toNat) (j := j.toNat) (by rw [eA]; omega) (by rw [eB]; omega)
            have hsc : sc (mq S a b) 3 i.toNat j.toNat = S.1 1 + dif (mq S a b) (rep (mq S a b) i.toNat j.toNat).toNat j.toNat := by rw [sc_3, if_pos ⟨by rw [eB]; omega, u185⟩]; rfl
            have hb1 := bB (i.toNat) (j.toNat + 1) (by omega) (by omega)
            have hT1 : g 206 (25 * i.toNat + (j.toNat + 1)) = bw (mq S a b) (i.toNat) (j.toNat + 1) := hT 3 (by omega)
            have hg1 : tS (mq S a b) (bw (mq S a b)) i.toNat j.toNat 3 = sc (mq S a b) 3 i.toNat j.toNat + g 206 (25 * i.toNat + (j.toNat + 1)) := go 3 (by omega)
            refine bg_aload0 (pc := 192) X1 dX7_costOf_192 ?_
            refine bo_getR (pc := 193) X1 dX7_costOf_193 fX7_7 (by first | assumption | rfl) rfl (by first | assumption | rfl) ?_
            refine bg_iconst (pc := 196) X1 dX7_costOf_196 (by decide) ?_
            refine bo_iaload (pc := 197) X1 dX7_costOf_197 (by first | assumption | rfl) (by omega) ?_
            rw [e1]
            refine bg_aload0 (pc := 198) X1 dX7_costOf_198 ?_
            refine bg_iload1 (pc := 199) X1 dX7_costOf_199 ?_
            refine bg_iload8 (pc := 200) X1 dX7_costOf_200 ?_
            refine bg_iload3 (pc := 202) X1 dX7_costOf_202 ?_
            refine bg_iload4 (pc := 203) X1 dX7_costOf_203 ?_
            refine bo_V4i (pc := 205) X1 (c_X7_differ hS ok ha hb (by omega) (by omega)) vX7_differ lX7_149 rfl (by first | assumption | rfl) (by decide) dX7_costOf_205 (by exact Nat.le_of_ble_eq_true rfl) ?_
            rintro _ _ ⟨h9, h8⟩
            obtain rfl := h9.symm
            obtain rfl := h8.symm
            clear h9 h8
            refine bg_iadd (pc := 208) X1 dX7_costOf_208 (by omega) ?_
            refine bg_aload0 (pc := 209) X1 dX7_costOf_209 ?_
            refine bo_getR (pc := 210) X1 dX7_costOf_210 fX7_31 (by first | assumption | rfl) rfl (by first | assumption | rfl) ?_
            refine bg_bipush (pc := 213) X1 dX7_costOf_213 rfl (by decide) ?_
            refine bg_iload2 (pc := 215) X1 dX7_costOf_215 ?_
            refine bg_imul (pc := 216) X1 dX7_costOf_216 (by omega) ?_
            refine bg_iload4 (pc := 217) X1 dX7_costOf_217 ?_
            refine bg_iadd (pc := 219) X1 dX7_costOf_219 (by omega) ?_
            refine bg_iconst (pc := 220) X1 dX7_costOf_220 (by decide) ?_
            refine bg_iadd (pc := 221) X1 dX7_costOf_221 (by omega) ?_
            refine bo_iaload (pc := 222) X1 dX7_costOf_222 (by first | assumption | rfl) (by omega) ?_
            rw [show (25 * i + j + 1).toNat = 25 * i.toNat + (j.toNat + 1) by omega]
            refine bg_iadd (pc := 223) X1 dX7_costOf_223 (by omega) ?_
            exact bo_iret (pc := 224) X rfl dX7_costOf_224 (fun hi => ⟨by first | exact hn.symm | rw [hg1, hsc], rfl⟩)
          · have hn : tS (mq S a b) (bw (mq S a b)) i.toNat j.toNat 3 = -1 := tS_ne (by rw [sc_3, if_neg (fun h9 => by have h8 := h9.2; omega)]; decide)
            refine bg_iconst (pc := 188) X1 dX7_costOf_188 (by decide) ?_
            refine bg_goto (pc := 189) X1 (tgt := 224) dX7_costOf_189 (by decide) ?_
            exact bo_iret (pc := 224) X rfl dX7_costOf_224 (fun hi => ⟨by first | exact hn.symm | rw [hg1, hsc], rfl⟩)
        · have hm := mkOK hlB.1 (k := j.toNat) (by omega)
          have hm1 : isMa (mrk (sq S b) j.toNat) := ⟨hm.1, by omega⟩
          have hm2 := hM _ hm1
          have hsc : sc (mq S a b) 4 i.toNat j.toNat = pM (mkP S a.toNat b.toNat) (mrk (sq S b) j.toNat) := sc_4 (P := mq S a b) (i := i.toNat) (j := j.toNat) (by rw [eB]; omega)
          have hb1 := bB (i.toNat) (j.toNat + 1) (by omega) (by omega)
          have hT1 : g 206 (25 * i.toNat + (j.toNat + 1)) = bw (mq S a b) (i.toNat) (j.toNat + 1) := hT 4 (by omega)
          have hg1 : tS (mq S a b) (bw (mq S a b)) i.toNat j.toNat 4 = sc (mq S a b) 4 i.toNat j.toNat + g 206 (25 * i.toNat + (j.toNat + 1)) := go 4 (by omega)
          refine bg_aload0 (pc := 145) X1 dX7_costOf_145 ?_
          refine bg_aload0 (pc := 146) X1 dX7_costOf_146 ?_
          refine bg_iload3 (pc := 147) X1 dX7_costOf_147 ?_
          refine bg_iload4 (pc := 148) X1 dX7_costOf_148 ?_
          refine bo_V2i (pc := 150) X1 (c_X7_mark hS ok hb (by omega)) vX7_mark lX7_107 rfl (by first | assumption | rfl) (by decide) dX7_costOf_150 (by exact Nat.le_of_ble_eq_true rfl) ?_
          rintro _ _ ⟨h9, h8⟩
          obtain rfl := h9.symm
          obtain rfl := h8.symm
          clear h9 h8
          refine bo_V1i (pc := 153) X1 (c_X7_missing (a := a.toNat) (b := b.toNat) hS ok hm1) vX7_missing lX7_153 rfl (by first | assumption | rfl) (by decide) dX7_costOf_153 (by exact Nat.le_of_ble_eq_true rfl) ?_
          rintro _ _ ⟨h9, h8⟩
          obtain rfl := h9.symm
          obtain rfl := h8.symm
          clear h9 h8
          refine bg_aload0 (pc := 156) X1 dX7_costOf_156 ?_
          refine bo_getR (pc := 157) X1 dX7_costOf_157 fX7_31 (by first | assumption | rfl) rfl (by first | assumption | rfl) ?_
          refine bg_bipush (pc := 160) X1 dX7_costOf_160 rfl (by decide) ?_
          refine bg_iload2 (pc := 162) X1 dX7_costOf_162 ?_
          refine bg_imul (pc := 163) X1 dX7_costOf_163 (by omega) ?_
          refine bg_iload4 (pc := 164) X1 dX7_costOf_164 ?_
          refine bg_iadd (pc := 166) X1 dX7_costOf_166 (by omega) ?_
          refine bg_iconst (pc := 167) X1 dX7_costOf_167 (by decide) ?_
          refine bg_iadd (pc := 168) X1 dX7_costOf_168 (by omega) ?_
          refine bo_iaload (pc := 169) X1 dX7_costOf_169 (by first | assumption | rfl) (by omega) ?_
          rw [show (25 * i + j + 1).toNat = 25 * i.toNat + (j.toNat + 1) by omega]
          refine bg_iadd (pc := 170) X1 dX7_costOf_170 (by omega) ?_
          exact bo_iret (pc := 171) X rfl dX7_costOf_171 (fun hi => ⟨by rw [u142, hg1, hsc], rfl⟩)
      · refine bg_iconst (pc := 137) X1 dX7_costOf_137 (by decide) ?_
        exact bo_iret (pc := 138) X rfl dX7_costOf_138 (fun hi => ⟨by rcases (show s = 3 ∨ s = 4 by omega) with rfl | rfl <;> exact (tS_ne (by first | (rw [sc_3, if_neg (fun h9 => by have h8 := h9.1; rw [eB] at h8; omega)]; decide) | (rw [sc_4n (by rw [eB]; omega)]; decide))).symm, rfl⟩)
    · refine bg_iload2 (pc := 94) X1 dX7_costOf_94 ?_
      refine bg_iload6 (pc := 95) X1 dX7_costOf_95 ?_
      refine bg_icmp_ge (pc := 97) X1 (tgt := 128) dX7_costOf_97 (by decide) (fun u97 => ?_) (fun u97 => ?_)
      · refine bg_iconst (pc := 128) X1 dX7_costOf_128 (by decide) ?_
        exact bo_iret (pc := 129) X rfl dX7_costOf_129 (fun hi => ⟨by rw [u91]; first | exact (hg1.trans (by rw [hsc])).symm | exact (tS_ne (by rw [sc_2n (by rw [eA]; omega)]; decide)).symm, rfl⟩)
      · have hm := mkOK hlA.1 (k := i.toNat) (by omega)
        have hm1 : isMa (mrk (sq S a) i.toNat) := ⟨hm.1, by omega⟩
        have hm2 := hM _ hm1
        have hsc : sc (mq S a b) 2 i.toNat j.toNat = pM (mkP S a.toNat b.toNat) (mrk (sq S a) i.toNat) := sc_2 (P := mq S a b) (i := i.toNat) (j := j.toNat) (by rw [eA]; omega)
        have hb1 := bB (i.toNat + 1) (j.toNat) (by omega) (by omega)
        have hT1 : g 206 (25 * (i.toNat + 1) + j.toNat) = bw (mq S a b) (i.toNat + 1) (j.toNat) := hT 2 (by omega)
        have hg1 : tS (mq S a b) (bw (mq S a b)) i.toNat j.toNat 2 = sc (mq S a b) 2 i.toNat j.toNat + g 206 (25 * (i.toNat + 1) + j.toNat) := go 2 (by omega)
        refine bg_aload0 (pc := 100) X1 dX7_costOf_100 ?_
        refine bg_aload0 (pc := 101) X1 dX7_costOf_101 ?_
        refine bg_iload1 (pc := 102) X1 dX7_costOf_102 ?_
        refine bg_iload2 (pc := 103) X1 dX7_costOf_103 ?_
        refine bo_V2i (pc := 104) X1 (c_X7_mark hS ok ha (by omega)) vX7_mark lX7_107 rfl (by first | assumption | rfl) (by decide) dX7_costOf_104 (by exact Nat.le_of_ble_eq_true rfl) ?_
        rintro _ _ ⟨h9, h8⟩
        obtain rfl := h9.symm
        obtain rfl := h8.symm
        clear h9 h8
        refine bo_V1i (pc := 107) X1 (c_X7_missing (a := a.toNat) (b := b.toNat) hS ok hm1) vX7_missing lX7_153 rfl (by first | assumption | rfl) (by decide) dX7_costOf_107 (by exact Nat.le_of_ble_eq_true rfl) ?_
        rintro _ _ ⟨h9, h8⟩
        obtain rfl := h9.symm
        obtain rfl := h8.symm
        clear h9 h8
        refine bg_aload0 (pc := 110) X1 dX7_costOf_110 ?_
        refine bo_getR (pc := 111) X1 dX7_costOf_111 fX7_31 (by first | assumption | rfl) rfl (by first | assumption | rfl) ?_
        refine bg_bipush (pc := 114) X1 dX7_costOf_114 rfl (by decide) ?_
        refine bg_iload2 (pc := 116) X1 dX7_costOf_116 ?_
        refine bg_iconst (pc := 117) X1 dX7_costOf_117 (by decide) ?_
        refine bg_iadd (pc := 118) X1 dX7_costOf_118 (by omega) ?_
        refine bg_imul (pc := 119) X1 dX7_costOf_119 (by omega) ?_
        refine bg_iload4 (pc := 120) X1 dX7_costOf_120 ?_
        refine bg_iadd (pc := 122) X1 dX7_costOf_122 (by omega) ?_
        refine bo_iaload (pc := 123) X1 dX7_costOf_123 (by first | assumption | rfl) (by omega) ?_
        rw [show (25 * (i + 1) + j).toNat = 25 * (i.toNat + 1) + j.toNat by omega]
        refine bg_iadd (pc := 124) X1 dX7_costOf_124 (by omega) ?_
        refine bg_goto (pc := 125) X1 (tgt := 129) dX7_costOf_125 (by decide) ?_
        exact bo_iret (pc := 129) X rfl dX7_costOf_129 (fun hi => ⟨by rw [u91]; first | exact (hg1.trans (by rw [hsc])).symm | exact (tS_ne (by rw [sc_2n (by rw [eA]; omega)]; decide)).symm, rfl⟩)
  · refine bg_iload2 (pc := 28) X1 dX7_costOf_28 ?_
    refine bg_iload6 (pc := 29) X1 dX7_costOf_29 ?_
    refine bg_icmp_ge (pc := 31) X1 (tgt := 86) dX7_costOf_31 (by decide) (fun u31 => ?_) (fun u31 => ?_)
    · refine bg_iconst (pc := 86) X1 dX7_costOf_86 (by decide) ?_
      exact bo_iret (pc := 87) X rfl dX7_costOf_87 (fun hi => ⟨by rw [u25]; first | exact (hg1.trans (by rw [hsc])).symm | exact (tS_ne (by rw [sc_1, if_neg (fun h9 => by have h8 := h9.1; have h7 := h9.2.1; rw [eA] at h8; rw [eB] at h7; first | omega | exact u54 h9.2.2)]; decide)).symm, rfl⟩)
    · refine bg_iload4 (pc := 34) X1 dX7_costOf_34 ?_
      refine bg_iload7 (pc := 36) X1 dX7_costOf_36 ?_
      refine bg_icmp_ge (pc := 38) X1 (tgt := 86) dX7_costOf_38 (by decide) (fun u38 => ?_) (fun u38 => ?_)
      · refine bg_iconst (pc := 86) X1 dX7_costOf_86 (by decide) ?_
        exact bo_iret (pc := 87) X rfl dX7_costOf_87 (fun hi => ⟨by rw [u25]; first | exact (hg1.trans (by rw [hsc])).symm | exact (tS_ne (by rw [sc_1, if_neg (fun h9 => by have h8 := h9.1; have h7 := h9.2.1; rw [eA] at h8; rw [eB] at h7; first | omega | exact u54 h9.2.2)]; decide)).symm, rfl⟩)
      · refine bg_aload0 (pc := 41) X1 dX7_costOf_41 ?_
        refine bg_iload1 (pc := 42) X1 dX7_costOf_42 ?_
        refine bg_iload2 (pc := 43) X1 dX7_costOf_43 ?_
        refine bo_V2i (pc := 44) X1 (c_X7_mark hS ok ha (by omega)) vX7_mark lX7_107 rfl (by first | assumption | rfl) (by decide) dX7_costOf_44 (by exact Nat.le_of_ble_eq_true rfl) ?_
        rintro _ _ ⟨h9, h8⟩
        obtain rfl := h9.symm
        obtain rfl := h8.symm
        clear h9 h8
        refine bg_aload0 (pc := 47) X1 dX7_costOf_47 ?_
        refine bg_iload3 (pc := 48) X1 dX7_costOf_48 ?_
        refine bg_iload4 (pc := 49) X1 dX7_costOf_49 ?_
        refine bo_V2i (pc := 51) X1 (c_X7_mark hS ok hb (by omega)) vX7_mark lX7_107 rfl (by first | assumption | rfl) (by decide) dX7_costOf_51 (by exact Nat.le_of_ble_eq_true rfl) ?_
        rintro _ _ ⟨h9, h8⟩
        obtain rfl := h9.symm
        obtain rfl := h8.symm
        clear h9 h8
        refine bg_icmp_ne (pc := 54) X1 (tgt := 86) dX7_costOf_54 (by decide) (fun u54 => ?_) (fun u54 => ?_)
        · refine bg_iconst (pc := 86) X1 dX7_costOf_86 (by decide) ?_
          exact bo_iret (pc := 87) X rfl dX7_costOf_87 (fun hi => ⟨by rw [u25]; first | exact (hg1.trans (by rw [hsc])).symm | exact (tS_ne (by rw [sc_1, if_neg (fun h9 => by have h8 := h9.1; have h7 := h9.2.1; rw [eA] at h8; rw [eB] at h7; first | omega | exact u54 h9.2.2)]; decide)).symm, rfl⟩)
        · have hd := dif_R okP1 (i := i.toNat) (j := j.toNat) (by rw [eA]; omega) (by rw [eB]; omega)
          have hsc := s1 ⟨by omega, by omega, u54⟩
          have hg1 := go 1 (by omega)
          have hb1 := bB (i.toNat + 1) (j.toNat + 1) (by omega) (by omega)
          have hT1 : g 206 (25 * (i.toNat + 1) + (j.toNat + 1)) = bw (mq S a b) (i.toNat + 1) (j.toNat + 1) := hT 1 (by omega)
          have hg1 : tS (mq S a b) (bw (mq S a b)) i.toNat j.toNat 1 = sc (mq S a b) 1 i.toNat j.toNat + g 206 (25 * (i.toNat + 1) + (j.toNat + 1)) := hg1
          refine bg_aload0 (pc := 57) X1 dX7_costOf_57 ?_
          refine bg_iload1 (pc := 58) X1 dX7_costOf_58 ?_
          refine bg_iload2 (pc := 59) X1 dX7_costOf_59 ?_
          refine bg_iload3 (pc := 60) X1 dX7_costOf_60 ?_
          refine bg_iload4 (pc := 61) X1 dX7_costOf_61 ?_
          refine bo_V4i (pc := 63) X1 (c_X7_differ hS ok ha hb (by omega) (by omega)) vX7_differ lX7_149 rfl (by first | assumption | rfl) (by decide) dX7_costOf_63 (by exact Nat.le_of_ble_eq_true rfl) ?_
          rintro _ _ ⟨h9, h8⟩
          obtain rfl := h9.symm
          obtain rfl := h8.symm
          clear h9 h8
          refine bg_aload0 (pc := 66) X1 dX7_costOf_66 ?_
          refine bo_getR (pc := 67) X1 dX7_costOf_67 fX7_31 (by first | assumption | rfl) rfl (by first | assumption | rfl) ?_
          refine bg_bipush (pc := 70) X1 dX7_costOf_70 rfl (by decide) ?_
          refine bg_iload2 (pc := 72) X1 dX7_costOf_72 ?_
          refine bg_iconst (pc := 73) X1 dX7_costOf_73 (by decide) ?_
          refine bg_iadd (pc := 74) X1 dX7_costOf_74 (by omega) ?_
          refine bg_imul (pc := 75) X1 dX7_costOf_75 (by omega) ?_
          refine bg_iload4 (pc := 76) X1 dX7_costOf_76 ?_
          refine bg_iadd (pc := 78) X1 dX7_costOf_78 (by omega) ?_
          refine bg_iconst (pc := 79) X1 dX7_costOf_79 (by decide) ?_
          refine bg_iadd (pc := 80) X1 dX7_costOf_80 (by omega) ?_
          refine bo_iaload (pc := 81) X1 dX7_costOf_81 (by first | assumption | rfl) (by omega) ?_
          rw [show (25 * (i + 1) + j + 1).toNat = 25 * (i.toNat + 1) + (j.toNat + 1) by omega]
          refine bg_iadd (pc := 82) X1 dX7_costOf_82 (by omega) ?_
          refine bg_goto (pc := 83) X1 (tgt := 87) dX7_costOf_83 (by decide) ?_
          exact bo_iret (pc := 87) X rfl dX7_costOf_87 (fun hi => ⟨by rw [u25]; first | exact (hg1.trans (by rw [hsc])).symm | exact (tS_ne (by rw [sc_1, if_neg (fun h9 => by have h8 := h9.1; have h7 := h9.2.1; rw [eA] at h8; rw [eB] at h7; first | omega | exact u54 h9.2.2)]; decide)).symm, rfl⟩)
