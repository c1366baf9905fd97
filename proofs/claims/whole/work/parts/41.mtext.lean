/-! the model: its text and the reading of it -/
theorem skp_32n {t : List Int} : ∀ (n p : Nat), p + n = t.length → ¬ chr t (skp t p) = 32
  | 0, p, h => by
    have h1 : chr t p = -1 := chr_ge (by omega)
    have h2 : ¬ chr t p = 32 := by omega
    rw [skp_no h2]; exact h2
  | n + 1, p, h => by
    by_cases h1 : chr t p = 32
    · rw [skp_32 h1]; exact skp_32n n (p + 1) (by omega)
    · rw [skp_no h1]; exact h1
theorem skp_id {t : List Int} {p : Nat} (h : p ≤ t.length) : skp t (skp t p) = skp t p := skp_no (skp_32n (t.length - p) p (by omega))
def spR (g : bg_E) (t : List Int) (p : Nat) : Prop := txM g t ∧ g 198 10 = (p : Int) ∧ p ≤ t.length
def frS (g g' : bg_E) : Prop := ∀ x j : Nat, ¬ (x = 198 ∧ j = 10) → g' x j = g x j
theorem frS.rf {g : bg_E} : frS g g := fun _ _ _ => rfl
theorem frS.up {g g1 : bg_E} {v : Int} (h : frS g g1) : frS g (bg_up g1 198 10 v) := fun x j hx => by
  unfold bg_up
  rw [if_neg hx]
  exact h x j hx
theorem frS.M {g g1 : bg_E} (h : frS g g1) : mres g g1 := fun x j hx => h x j (by omega)
theorem spR.mv {g g' : bg_E} {t : List Int} {p p' : Nat} (h : spR g t p) (hf : mres g g') (h2 : g' 198 10 = (p' : Int)) (hp : p' ≤ t.length) : spR g' t p' := ⟨h.1.cg (hf 198 7 (by decide)) (hf.at (by decide)), h2, hp⟩
theorem spR.up {g : bg_E} {t : List Int} {p p' : Nat} {v : Int} (h : spR g t p) (hv : v = (p' : Int)) (hp : p' ≤ t.length) : spR (bg_up g 198 10 v) t p' := h.mv (mres.rf.up (by omega)) (by rw [up_eq, hv]) hp
theorem spR.R {g : bg_E} {t : List Int} {p : Nat} (h : spR g t p) : g 198 10 = (p : Int) ∧ p ≤ 100 ∧ g 198 7 = (t.length : Int) ∧ t.length ≤ 100 ∧ p ≤ t.length := ⟨h.2.1, by have := h.1.2.1; have := h.2.2; omega, h.1.1, h.1.2.1, h.2.2⟩
def rdR (g : bg_E) (L : bm_Q) : Prop := g 198 11 = (L.length : Int) ∧ L.length ≤ 24 ∧ ∀ k : Nat, k < L.length → g 205 (2 * k) = mrk L k ∧ g 205 (2 * k + 1) = th L k
theorem rdR.cg {g g' : bg_E} {L : bm_Q} (h : rdR g L) (h1 : g' 198 11 = g 198 11) (h2 : ∀ k, k < 2 * L.length → g' 205 k = g 205 k) : rdR g' L := by
  refine ⟨h1.trans h.1, h.2.1, fun k hk => ?_⟩
  rw [h2 _ (by omega), h2 _ (by omega)]
  exact h.2.2 k hk
theorem rdR.S {g g' : bg_E} {L : bm_Q} (h : rdR g L) (hf : frS g g') : rdR g' L := h.cg (hf 198 11 (by decide)) (fun k _ => hf 205 k (by omega))
theorem rdR.add {g g' : bg_E} {L : bm_Q} {m t : Int} (h : rdR g L) (hl : L.length < 24) (h1 : g' 198 11 = (L.length : Int) + 1) (h2 : ∀ k, k < 2 * L.length → g' 205 k = g 205 k) (h3 : g' 205 (2 * L.length) = m) (h4 : g' 205 (2 * L.length + 1) = t) : rdR g' (L ++ [(m, t)]) := by
  refine ⟨by rw [h1, List.length_append]; rfl, by rw [List.length_append, List.length_singleton]; omega, fun k hk => ?_⟩
  rw [List.length_append, List.length_singleton] at hk
  unfold mrk th
  rw [app_get]
  by_cases h5 : k < L.length
  · rw [if_pos h5, h2 _ (by omega), h2 _ (by omega)]
    exact h.2.2 k h5
  · rw [if_neg h5, if_pos (by omega)]
    exact ⟨by rw [show k = L.length by omega]; exact h3, by rw [show k = L.length by omega]; exact h4⟩
theorem c_X7_appendCharacter {y : bg_Y} {g : bg_E} {v : Int} {Z : bm_X} (hM : modR g Z) : bg_Si y 6 mX7_appendCharacter [.inr 198, .inl v] g (fun r g' => r = (xAppend Z v).1 ∧ modR g' (xAppend Z v).2 ∧ frR 198 214 g g') := by
  obtain ⟨m1, m2, m3, ⟨t1, t2, t3, t4⟩⟩ := id hM
  refine bg_enter pnX7 (Nat.le_of_ble_eq_true rfl) (fun κ X hR hg => ?_)
  have X1 : bg_X κ y cX7_appendCharacter RX7 6 0 0 := X.1
  have hg : ∀ a k, R32 (g a k) := hg
  show bg_g κ y 0 [some (.inr 198), some (.inl v)] [] g
  refine bg_iload1 (pc := 0) X1 dX7_appendCharacter_0 ?_
  refine bg_iconst (pc := 1) X1 dX7_appendCharacter_1 (by decide) ?_
  refine bg_sipush (pc := 2) X1 dX7_appendCharacter_2 rfl (by decide) ?_
  refine bo_S3i (pc := 5) X1 (c_X7_in) sX7_in lX7_59 rfl (by decide) dX7_appendCharacter_5 (by exact Nat.le_of_ble_eq_true rfl) ?_
  rintro _ _ ⟨h9, h8⟩
  obtain rfl := h9.symm
  obtain rfl := h8.symm
  clear h9 h8
  refine bo_ifne_b (pc := 8) X1 (tgt := 14) dX7_appendCharacter_8 (by decide) (fun u8 => ?_) (fun u8 => ?_)
  · refine bg_aload0 (pc := 14) X1 dX7_appendCharacter_14 ?_
    refine bo_getI (pc := 15) X1 dX7_appendCharacter_15 fX7_117 (by first | assumption | rfl) rfl ?_
    rw [t1]
    refine bg_bipush (pc := 18) X1 dX7_appendCharacter_18 rfl (by decide) ?_
    refine bg_icmp_ne (pc := 20) X1 (tgt := 26) dX7_appendCharacter_20 (by decide) (fun u20 => ?_) (fun u20 => ?_)
    · refine bg_aload0 (pc := 26) X1 dX7_appendCharacter_26 ?_
      refine bo_getR (pc := 27) X1 dX7_appendCharacter_27 fX7_22 (by first | assumption | rfl) rfl (by first | assumption | rfl) ?_
      refine bg_aload0 (pc := 30) X1 dX7_appendCharacter_30 ?_
      refine bo_getI (pc := 31) X1 dX7_appendCharacter_31 fX7_117 (by first | assumption | rfl) rfl ?_
      rw [t1]
      refine bg_iload1 (pc := 34) X1 dX7_appendCharacter_34 ?_
      refine bo_iastore (pc := 35) X1 dX7_appendCharacter_35 (by first | assumption | rfl) (by omega) ?_
      refine bg_aload0 (pc := 36) X1 dX7_appendCharacter_36 ?_
      refine bg_dup (pc := 37) X1 dX7_appendCharacter_37 ?_
      refine bo_getI (pc := 38) X1 dX7_appendCharacter_38 fX7_117 (by first | assumption | rfl) rfl ?_
      rw [up_a (by decide), t1]
      refine bg_iconst (pc := 41) X1 dX7_appendCharacter_41 (by decide) ?_
      refine bg_iadd (pc := 42) X1 dX7_appendCharacter_42 (by omega) ?_
      refine bo_putI (pc := 43) X1 dX7_appendCharacter_43 fX7_117 (by first | assumption | rfl) rfl ?_
      refine bg_aload0 (pc := 46) X1 dX7_appendCharacter_46 ?_
      refine bo_getI (pc := 47) X1 dX7_appendCharacter_47 fX7_117 (by first | assumption | rfl) rfl ?_
      exact bo_iret (pc := 50) X rfl dX7_appendCharacter_50 (fun hi => by
          unfold xAppend
          rw [if_pos u8, if_pos (by omega)]
          refine ⟨by rw [up_eq], ⟨by rw [bg_up_ne (by decide), bg_up_ne (by decide)]; exact m1, m2.cg (by rw [up_k (by decide), up_a (by decide)]) (by rw [bg_up_ne (by decide), bg_up_ne (by decide)]), m3.cg (by rw [up_k (by decide), up_a (by decide)]) (by rw [bg_up_ne (by decide), bg_up_ne (by decide)]), ⟨by rw [up_eq, List.length_append]; rfl, by rw [List.length_append, List.length_singleton]; omega, fun k hk => ?_, ?_⟩⟩, fun x hx => by rw [bg_up_ne (by omega), bg_up_ne (by omega)]⟩
          · rw [up_a (by decide)]
            unfold chr
            rw [List.length_append, List.length_singleton] at hk
            by_cases hkl : k = Z.2.2.2.length
            · subst hkl
              rw [up_e (by omega), List.getD_eq_getElem?_getD, List.getElem?_append_right (Nat.le_refl _), Nat.sub_self]
              rfl
            · rw [up_k (by omega), t3 k (by omega), List.getD_eq_getElem?_getD, List.getElem?_append_left (by omega)]
              unfold chr
              rw [List.getD_eq_getElem?_getD]
          · intro x hx
            rcases List.mem_append.mp hx with h | h
            · exact t4 x h
            · rw [List.mem_singleton.mp h]; exact u8)
    · refine bg_ldc (pc := 23) X1 dX7_appendCharacter_23 kX7_91 (by decide) ?_
      exact bo_iret (pc := 25) X rfl dX7_appendCharacter_25 (fun hi => by unfold xAppend; rw [if_pos u8, if_neg (by omega)]; exact ⟨rfl, hM, frR.rf⟩)
  · refine bg_ldc (pc := 11) X1 dX7_appendCharacter_11 kX7_87 (by decide) ?_
    exact bo_iret (pc := 13) X rfl dX7_appendCharacter_13 (fun hi => by unfold xAppend; rw [if_neg u8]; exact ⟨rfl, hM, frR.rf⟩)
theorem tx0 {g : bg_E} (h : g 198 7 = 0) : txM g [] := ⟨h, Nat.zero_le _, fun k hk => absurd hk (Nat.not_lt_zero _), fun x hx => by cases hx⟩
theorem c_X7_clearText {y : bg_Y} {g : bg_E} {Z : bm_X} (hM : modR g Z) : bg_Si y 6 mX7_clearText [.inr 198] g (fun r g' => r = (xClear Z).1 ∧ modR g' (xClear Z).2 ∧ frR 198 214 g g') := by
  obtain ⟨m1, m2, m3, ⟨t1, t2, t3, t4⟩⟩ := id hM
  refine bg_enter pnX7 (Nat.le_of_ble_eq_true rfl) (fun κ X hR hg => ?_)
  have X1 : bg_X κ y cX7_clearText RX7 6 0 0 := X.1
  have hg : ∀ a k, R32 (g a k) := hg
  show bg_g κ y 0 [some (.inr 198), none] [] g
  refine bg_aload0 (pc := 0) X1 dX7_clearText_0 ?_
  refine bo_getI (pc := 1) X1 dX7_clearText_1 fX7_117 (by first | assumption | rfl) rfl ?_
  refine bg_istore1 (pc := 4) X1 dX7_clearText_4 ?_
  refine bg_aload0 (pc := 5) X1 dX7_clearText_5 ?_
  refine bg_iconst (pc := 6) X1 dX7_clearText_6 (by decide) ?_
  refine bo_putI (pc := 7) X1 dX7_clearText_7 fX7_117 (by first | assumption | rfl) rfl ?_
  refine bg_iload1 (pc := 10) X1 dX7_clearText_10 ?_
  exact bo_iret (pc := 11) X rfl dX7_clearText_11 (fun hi => ⟨t1, ⟨by rw [bg_up_ne (by decide)]; exact m1, m2.cg (up_k (by decide)) (bg_up_ne (by decide)), m3.cg (up_k (by decide)) (bg_up_ne (by decide)), tx0 up_eq⟩, frR.rf.up (by decide) (by decide)⟩)
theorem c_X7_isAt {y : bg_Y} {g : bg_E} {lo hi : Int} {t : List Int} {p : Nat} (hT : spR g t p) (hlo : 0 ≤ lo) : bg_Si y 1 mX7_isAt [.inr 198, .inl lo, .inl hi] g (fun r g' => r = b2i (lo ≤ chr t (skp t p) ∧ chr t (skp t p) ≤ hi) ∧ spR g' t (skp t p) ∧ frS g g') := by
  have h3 := hT.1.2.2.1
  refine bg_enter pnX7 (Nat.le_of_ble_eq_true rfl) (fun κ X hR hg => ?_)
  have X1 : bg_X κ y cX7_isAt RX7 1 0 0 := X.1
  have hg : ∀ a k, R32 (g a k) := hg
  show bg_g κ y 0 [some (.inr 198), some (.inl lo), some (.inl hi)] [] g
  have loop : ∀ (n p1 : Nat) (g1 : bg_E), spR g1 t p1 → p1 + n = t.length → skp t p1 = skp t p → frS g g1 → bg_g κ y 0 [some (.inr 198), some (.inl lo), some (.inl hi)] [] g1 := by
    intro n
    induction n with
    | zero =>
      intro p1 g1 hT1 hn hs hF
      obtain ⟨r1, r2, r3, r4, r5⟩ := hT1.R
      have e1 : chr t p1 = -1 := chr_ge (by omega)
      have e2 : skp t p1 = p1 := skp_no (by omega)
      refine bg_aload0 (pc := 0) X1 dX7_isAt_0 ?_
      refine bo_getI (pc := 1) X1 dX7_isAt_1 fX7_120 (by first | assumption | rfl) rfl ?_
      rw [r1]
      refine bg_aload0 (pc := 4) X1 dX7_isAt_4 ?_
      refine bo_getI (pc := 5) X1 dX7_isAt_5 fX7_117 (by first | assumption | rfl) rfl ?_
      rw [r3]
      refine bg_icmp_ge (pc := 8) X1 (tgt := 38) dX7_isAt_8 (by decide) (fun u8 => ?_) (fun u8 => ?_)
      · refine bg_aload0 (pc := 38) X1 dX7_isAt_38 ?_
        refine bo_getI (pc := 39) X1 dX7_isAt_39 fX7_120 (by first | assumption | rfl) rfl ?_
        rw [r1]
        refine bg_aload0 (pc := 42) X1 dX7_isAt_42 ?_
        refine bo_getI (pc := 43) X1 dX7_isAt_43 fX7_117 (by first | assumption | rfl) rfl ?_
        rw [r3]
        refine bg_icmp_ge (pc := 46) X1 (tgt := 70) dX7_isAt_46 (by decide) (fun u46 => ?_) (fun u46 => ?_)
        · refine bg_iconst (pc := 70) X1 dX7_isAt_70 (by decide) ?_
          exact bo_zret (pc := 71) X rfl (by first | exact Or.inl rfl | exact Or.inr rfl | exact b2i_01 _) dX7_isAt_71 (⟨(b2i_f (by rw [← hs, e2, e1]; omega)).symm, by rw [← hs, e2]; exact hT1, hF⟩)
        · exfalso; omega
      · exfalso; omega
    | succ n ih =>
      intro p1 g1 hT1 hn hs hF
      obtain ⟨r1, r2, r3, r4, r5⟩ := hT1.R
      have c1 : g1 203 p1 = chr t p1 := hT1.1.2.2.1 p1 (by omega)
      refine bg_aload0 (pc := 0) X1 dX7_isAt_0 ?_
      refine bo_getI (pc := 1) X1 dX7_isAt_1 fX7_120 (by first | assumption | rfl) rfl ?_
      rw [r1]
      refine bg_aload0 (pc := 4) X1 dX7_isAt_4 ?_
      refine bo_getI (pc := 5) X1 dX7_isAt_5 fX7_117 (by first | assumption | rfl) rfl ?_
      rw [r3]
      refine bg_icmp_ge (pc := 8) X1 (tgt := 38) dX7_isAt_8 (by decide) (fun u8 => ?_) (fun u8 => ?_)
      · exfalso; omega
      · refine bg_aload0 (pc := 11) X1 dX7_isAt_11 ?_
        refine bo_getR (pc := 12) X1 dX7_isAt_12 fX7_22 (by first | assumption | rfl) rfl (by first | assumption | rfl) ?_
        refine bg_aload0 (pc := 15) X1 dX7_isAt_15 ?_
        refine bo_getI (pc := 16) X1 dX7_isAt_16 fX7_120 (by first | assumption | rfl) rfl ?_
        rw [r1]
        refine bo_iaload (pc := 19) X1 dX7_isAt_19 (by first | assumption | rfl) (by omega) ?_
        rw [Int.toNat_natCast, c1]
        refine bg_bipush (pc := 20) X1 dX7_isAt_20 rfl (by decide) ?_
        refine bg_icmp_ne (pc := 22) X1 (tgt := 38) dX7_isAt_22 (by decide) (fun u22 => ?_) (fun u22 => ?_)
        · have e2 : skp t p1 = p1 := skp_no u22
          refine bg_aload0 (pc := 38) X1 dX7_isAt_38 ?_
          refine bo_getI (pc := 39) X1 dX7_isAt_39 fX7_120 (by first | assumption | rfl) rfl ?_
          rw [r1]
          refine bg_aload0 (pc := 42) X1 dX7_isAt_42 ?_
          refine bo_getI (pc := 43) X1 dX7_isAt_43 fX7_117 (by first | assumption | rfl) rfl ?_
          rw [r3]
          refine bg_icmp_ge (pc := 46) X1 (tgt := 70) dX7_isAt_46 (by decide) (fun u46 => ?_) (fun u46 => ?_)
          · exfalso; omega
          · refine bg_aload0 (pc := 49) X1 dX7_isAt_49 ?_
            refine bo_getR (pc := 50) X1 dX7_isAt_50 fX7_22 (by first | assumption | rfl) rfl (by first | assumption | rfl) ?_
            refine bg_aload0 (pc := 53) X1 dX7_isAt_53 ?_
            refine bo_getI (pc := 54) X1 dX7_isAt_54 fX7_120 (by first | assumption | rfl) rfl ?_
            rw [r1]
            refine bo_iaload (pc := 57) X1 dX7_isAt_57 (by first | assumption | rfl) (by omega) ?_
            rw [Int.toNat_natCast, c1]
            refine bg_iload1 (pc := 58) X1 dX7_isAt_58 ?_
            refine bg_iload2 (pc := 59) X1 dX7_isAt_59 ?_
            refine bo_S3i (pc := 60) X1 (c_X7_in) sX7_in lX7_59 rfl (by decide) dX7_isAt_60 (by exact Nat.le_of_ble_eq_true rfl) ?_
            rintro _ _ ⟨h9, h8⟩
            obtain rfl := h9.symm
            obtain rfl := h8.symm
            clear h9 h8
            refine bo_ifeq_b (pc := 63) X1 (tgt := 70) dX7_isAt_63 (by decide) (fun u63 => ?_) (fun u63 => ?_)
            · refine bg_iconst (pc := 70) X1 dX7_isAt_70 (by decide) ?_
              exact bo_zret (pc := 71) X rfl (by first | exact Or.inl rfl | exact Or.inr rfl | exact b2i_01 _) dX7_isAt_71 (⟨by first | exact (b2i_t (by rw [← hs, e2]; exact u63)).symm | exact (b2i_f (by rw [← hs, e2]; exact u63)).symm, by rw [← hs, e2]; exact hT1, hF⟩)
            · refine bg_iconst (pc := 66) X1 dX7_isAt_66 (by decide) ?_
              refine bg_goto (pc := 67) X1 (tgt := 71) dX7_isAt_67 (by decide) ?_
              exact bo_zret (pc := 71) X rfl (by first | exact Or.inl rfl | exact Or.inr rfl | exact b2i_01 _) dX7_isAt_71 (⟨by first | exact (b2i_t (by rw [← hs, e2]; exact u63)).symm | exact (b2i_f (by rw [← hs, e2]; exact u63)).symm, by rw [← hs, e2]; exact hT1, hF⟩)
        · refine bg_aload0 (pc := 25) X1 dX7_isAt_25 ?_
          refine bg_dup (pc := 26) X1 dX7_isAt_26 ?_
          refine bo_getI (pc := 27) X1 dX7_isAt_27 fX7_120 (by first | assumption | rfl) rfl ?_
          rw [r1]
          refine bg_iconst (pc := 30) X1 dX7_isAt_30 (by decide) ?_
          refine bg_iadd (pc := 31) X1 dX7_isAt_31 (by omega) ?_
          refine bo_putI (pc := 32) X1 dX7_isAt_32 fX7_120 (by first | assumption | rfl) rfl ?_
          refine bg_goto (pc := 35) X1 (tgt := 0) dX7_isAt_35 (by decide) ?_
          exact ih (p1 + 1) _ (hT1.up (by omega) (by omega)) (by omega) (by rw [← skp_32 u22]; exact hs) hF.up
  exact loop (t.length - p) p g hT (by have := hT.2.2; omega) rfl frS.rf
theorem c_X7_readsBed {y : bg_Y} {g : bg_E} {t : List Int} {p : Nat} {L : bm_Q} (hT : spR g t p) (hr : rdR g L) (hp : 0 ≤ chr t p) : bg_Si y 2 mX7_readsBed [.inr 198] g (fun r g' => (r = 0 ∨ r = 1) ∧ ((L.length = 24 ∧ r = 0 ∧ spR g' t p) ∨ (L.length < 24 ∧ (prsT t (skp t (p + 1))).1 = 0 ∧ r = 0 ∧ spR g' t (prsT t (skp t (p + 1))).2) ∨ (L.length < 24 ∧ ¬ (prsT t (skp t (p + 1))).1 = 0 ∧ r = 1 ∧ spR g' t (prsT t (skp t (p + 1))).2 ∧ rdR g' (L ++ [(chr t p - 97, (prsT t (skp t (p + 1))).1)]))) ∧ mres g g') := by
  obtain ⟨l1, l2, l3⟩ := id hr
  obtain ⟨r1, r2, r3, r4, r5⟩ := hT.R
  have h4 := hT.1.2.2.2
  have hlt : p < t.length := by
    rcases Nat.lt_or_ge p t.length with h | h
    · exact h
    · rw [chr_ge h] at hp; omega
  have c0 := chr_ok h4 (p := p)
  have c1 : g 203 p = chr t p := hT.1.2.2.1 p hlt
  obtain ⟨s, hs⟩ : ∃ s, s = skp t (p + 1) := ⟨_, rfl⟩
  have c2 := chr_ok h4 (p := s)
  have c3 := chr_ok h4 (p := s + 1)
  rw [← hs]
  refine bg_enter pnX7 (Nat.le_of_ble_eq_true rfl) (fun κ X hR hg => ?_)
  have X1 : bg_X κ y cX7_readsBed RX7 2 0 0 := X.1
  have hg : ∀ a k, R32 (g a k) := hg
  show bg_g κ y 0 [some (.inr 198), none] [] g
  refine bg_aload0 (pc := 0) X1 dX7_readsBed_0 ?_
  refine bo_getI (pc := 1) X1 dX7_readsBed_1 fX7_123 (by first | assumption | rfl) rfl ?_
  rw [l1]
  refine bg_bipush (pc := 4) X1 dX7_readsBed_4 rfl (by decide) ?_
  refine bg_icmp_ne (pc := 6) X1 (tgt := 11) dX7_readsBed_6 (by decide) (fun u6 => ?_) (fun u6 => ?_)
  · refine bg_aload0 (pc := 11) X1 dX7_readsBed_11 ?_
    refine bo_getR (pc := 12) X1 dX7_readsBed_12 fX7_28 (by first | assumption | rfl) rfl (by first | assumption | rfl) ?_
    refine bg_iconst (pc := 15) X1 dX7_readsBed_15 (by decide) ?_
    refine bg_aload0 (pc := 16) X1 dX7_readsBed_16 ?_
    refine bo_getI (pc := 17) X1 dX7_readsBed_17 fX7_123 (by first | assumption | rfl) rfl ?_
    rw [l1]
    refine bg_imul (pc := 20) X1 dX7_readsBed_20 (by omega) ?_
    refine bg_aload0 (pc := 21) X1 dX7_readsBed_21 ?_
    refine bo_getR (pc := 22) X1 dX7_readsBed_22 fX7_22 (by first | assumption | rfl) rfl (by first | assumption | rfl) ?_
    refine bg_aload0 (pc := 25) X1 dX7_readsBed_25 ?_
    refine bo_getI (pc := 26) X1 dX7_readsBed_26 fX7_120 (by first | assumption | rfl) rfl ?_
    rw [r1]
    refine bo_iaload (pc := 29) X1 dX7_readsBed_29 (by first | assumption | rfl) (by omega) ?_
    rw [Int.toNat_natCast, c1]
    refine bg_bipush (pc := 30) X1 dX7_readsBed_30 rfl (by decide) ?_
    refine bg_isub (pc := 32) X1 dX7_readsBed_32 (by omega) ?_
    refine bo_iastore (pc := 33) X1 dX7_readsBed_33 (by first | assumption | rfl) (by omega) ?_
    have F1 : mres g (bg_up g 205 (2 * (L.length : Int)).toNat (chr t p - 97)) := mres.rf.up (by omega)
    have P1 := hT.mv F1 ((up_a (by decide)).trans r1) r5
    refine bg_aload0 (pc := 34) X1 dX7_readsBed_34 ?_
    refine bg_dup (pc := 35) X1 dX7_readsBed_35 ?_
    refine bo_getI (pc := 36) X1 dX7_readsBed_36 fX7_120 (by first | assumption | rfl) rfl ?_
    rw [up_a (by decide), r1]
    refine bg_iconst (pc := 39) X1 dX7_readsBed_39 (by decide) ?_
    refine bg_iadd (pc := 40) X1 dX7_readsBed_40 (by omega) ?_
    refine bo_putI (pc := 41) X1 dX7_readsBed_41 fX7_120 (by first | assumption | rfl) rfl ?_
    have P2 : spR (bg_up (bg_up g 205 (2 * (L.length : Int)).toNat (chr t p - 97)) 198 10 ((p : Int) + 1)) t (p + 1) := P1.up (by omega) (by omega)
    have F2 := F1.up (a := 198) (k := 10) (v := (p : Int) + 1) (by omega)
    refine bg_aload0 (pc := 44) X1 dX7_readsBed_44 ?_
    refine bg_bipush (pc := 45) X1 dX7_readsBed_45 rfl (by decide) ?_
    refine bg_bipush (pc := 47) X1 dX7_readsBed_47 rfl (by decide) ?_
    refine bo_V2i (pc := 49) X1 (c_X7_isAt P2 (by decide)) vX7_isAt lX7_126 rfl (by first | assumption | rfl) (by decide) dX7_readsBed_49 (by exact Nat.le_of_ble_eq_true rfl) ?_
    rintro r49 g3 ⟨z1, P3, f3⟩
    subst z1
    rw [← hs] at P3
    have F3 := F2.tr f3.M
    obtain ⟨q1, q2, q3, q4, q5⟩ := P3.R
    have k205 : ∀ j, g3 205 j = (bg_up g 205 (2 * (L.length : Int)).toNat (chr t p - 97)) 205 j := fun j => (f3 205 j (by omega)).trans (up_a (by decide))
    have k11 : g3 198 11 = (L.length : Int) := (f3 198 11 (by decide)).trans ((up_k (by decide)).trans ((up_a (by decide)).trans l1))
    refine bo_ifne_b (pc := 52) X1 (tgt := 57) dX7_readsBed_52 (by decide) (fun u52 => ?a52) (fun u52 => ?b52)
    case b52 =>
      rw [← hs] at u52
      refine bg_iconst (pc := 55) X1 dX7_readsBed_55 (by decide) ?_
      have e0 : prsT t s = (0, s) := by unfold prsT; rw [if_pos (by omega)]
      exact bo_zret (pc := 56) X rfl (Or.inl rfl) dX7_readsBed_56 (by rw [e0]; exact ⟨Or.inl rfl, Or.inr (Or.inl ⟨by omega, rfl, rfl, P3⟩), F3⟩)
    rw [← hs] at u52
    have hs1 : s < t.length := by
      rcases Nat.lt_or_ge s t.length with h | h
      · exact h
      · rw [chr_ge h] at u52; omega
    have d1 : g3 203 s = chr t s := P3.1.2.2.1 s hs1
    refine bg_aload0 (pc := 57) X1 dX7_readsBed_57 ?_
    refine bo_getR (pc := 58) X1 dX7_readsBed_58 fX7_22 (by first | assumption | rfl) rfl (by first | assumption | rfl) ?_
    refine bg_aload0 (pc := 61) X1 dX7_readsBed_61 ?_
    refine bo_getI (pc := 62) X1 dX7_readsBed_62 fX7_120 (by first | assumption | rfl) rfl ?_
    rw [q1]
    refine bo_iaload (pc := 65) X1 dX7_readsBed_65 (by first | assumption | rfl) (by omega) ?_
    rw [Int.toNat_natCast, d1]
    refine bg_bipush (pc := 66) X1 dX7_readsBed_66 rfl (by decide) ?_
    refine bg_isub (pc := 68) X1 dX7_readsBed_68 (by omega) ?_
    refine bg_istore1 (pc := 69) X1 dX7_readsBed_69 ?_
    refine bg_aload0 (pc := 70) X1 dX7_readsBed_70 ?_
    refine bg_dup (pc := 71) X1 dX7_readsBed_71 ?_
    refine bo_getI (pc := 72) X1 dX7_readsBed_72 fX7_120 (by first | assumption | rfl) rfl ?_
    rw [q1]
    refine bg_iconst (pc := 75) X1 dX7_readsBed_75 (by decide) ?_
    refine bg_iadd (pc := 76) X1 dX7_readsBed_76 (by omega) ?_
    refine bo_putI (pc := 77) X1 dX7_readsBed_77 fX7_120 (by first | assumption | rfl) rfl ?_
    have P4 : spR (bg_up g3 198 10 ((s : Int) + 1)) t (s + 1) := P3.up (by omega) (by omega)
    have F4 := F3.up (a := 198) (k := 10) (v := (s : Int) + 1) (by omega)
    obtain ⟨w1, w2, w3, w4, w5⟩ := P4.R
    have e11 : (bg_up g3 198 10 ((s : Int) + 1)) 198 11 = (L.length : Int) := (up_k (by decide)).trans k11
    refine bg_aload0 (pc := 80) X1 dX7_readsBed_80 ?_
    refine bo_getI (pc := 81) X1 dX7_readsBed_81 fX7_120 (by first | assumption | rfl) rfl ?_
    rw [w1]
    refine bg_aload0 (pc := 84) X1 dX7_readsBed_84 ?_
    refine bo_getI (pc := 85) X1 dX7_readsBed_85 fX7_117 (by first | assumption | rfl) rfl ?_
    rw [w3]
    refine bg_icmp_ge (pc := 88) X1 (tgt := 138) dX7_readsBed_88 (by decide) (fun u88 => ?_) (fun u88 => ?_)
    · have e2 : chr t (s + 1) = -1 := chr_ge (by omega)
      refine bg_aload0 (pc := 138) X1 dX7_readsBed_138 ?_
      refine bo_getR (pc := 139) X1 dX7_readsBed_139 fX7_28 (by first | assumption | rfl) rfl (by first | assumption | rfl) ?_
      refine bg_iconst (pc := 142) X1 dX7_readsBed_142 (by decide) ?_
      refine bg_aload0 (pc := 143) X1 dX7_readsBed_143 ?_
      refine bo_getI (pc := 144) X1 dX7_readsBed_144 fX7_123 (by first | assumption | rfl) rfl ?_
      first | rw [e11] | rw [up_k (by decide), e11]
      refine bg_imul (pc := 147) X1 dX7_readsBed_147 (by omega) ?_
      refine bg_iconst (pc := 148) X1 dX7_readsBed_148 (by decide) ?_
      refine bg_iadd (pc := 149) X1 dX7_readsBed_149 (by omega) ?_
      refine bg_iload1 (pc := 150) X1 dX7_readsBed_150 ?_
      refine bo_iastore (pc := 151) X1 dX7_readsBed_151 (by first | assumption | rfl) (by omega) ?_
      refine bg_aload0 (pc := 152) X1 dX7_readsBed_152 ?_
      refine bg_dup (pc := 153) X1 dX7_readsBed_153 ?_
      refine bo_getI (pc := 154) X1 dX7_readsBed_154 fX7_123 (by first | assumption | rfl) rfl ?_
      first | rw [up_a (by decide), e11] | rw [up_a (by decide), up_k (by decide), e11]
      refine bg_iconst (pc := 157) X1 dX7_readsBed_157 (by decide) ?_
      refine bg_iadd (pc := 158) X1 dX7_readsBed_158 (by omega) ?_
      refine bo_putI (pc := 159) X1 dX7_readsBed_159 fX7_123 (by first | assumption | rfl) rfl ?_
      refine bg_iconst (pc := 162) X1 dX7_readsBed_162 (by decide) ?_
      exact bo_zret (pc := 163) X rfl (by first | exact Or.inl rfl | exact Or.inr rfl | exact b2i_01 _) dX7_readsBed_163 (by
          refine ⟨Or.inr rfl, Or.inr (Or.inr ?_), by first | exact (F4.up (by omega)).up (by omega) | exact ((F4.up (by omega)).up (by omega)).up (by omega)⟩
          have fn : ∀ (v : Int) (p' : Nat) (g5 g6 : bg_E), prsT t s = (v, p') → ¬ v = 0 → spR g5 t p' → (∀ j, g5 205 j = g3 205 j) → g6 = bg_up (bg_up g5 205 (2 * (L.length : Int) + 1).toNat v) 198 11 ((L.length : Int) + 1) → (L.length < 24 ∧ ¬ (prsT t s).1 = 0 ∧ (1 : Int) = 1 ∧ spR g6 t (prsT t s).2 ∧ rdR g6 (L ++ [(chr t p - 97, (prsT t s).1)])) := by
            intro v p' g5 g6 e1 e2 e3 e4 e5
            subst e5
            rw [e1]
            refine ⟨by omega, e2, rfl, e3.mv ((mres.rf.up (by omega)).up (by omega)) ?_ e3.2.2, hr.add (by omega) up_eq (fun k hk => ?_) ?_ ?_⟩
            · rw [up_k (by decide), up_a (by decide)]; exact e3.2.1
            · rw [up_a (by decide), up_k (by omega), e4, k205, up_k (by omega)]
            · rw [up_a (by decide), up_k (by omega), e4, k205, up_e (by omega)]
            · rw [up_a (by decide), up_e (by omega)]
          first
          | exact fn _ (s + 1) _ _ (by unfold prsT; rw [if_neg (by omega), if_pos (by omega)]) (by omega) P4 (fun j => up_a (by decide)) rfl
          | exact fn _ (s + 2) _ _ (by unfold prsT; rw [if_neg (by omega), if_neg (by omega)]; refine Prod.ext ?_ rfl; show _ = _; omega) (by omega) (P4.up (by omega) (by omega)) (fun j => (up_a (by decide)).trans (up_a (by decide))) rfl)
    · have d2 : (bg_up g3 198 10 ((s : Int) + 1)) 203 (s + 1) = chr t (s + 1) := P4.1.2.2.1 (s + 1) (by omega)
      refine bg_aload0 (pc := 91) X1 dX7_readsBed_91 ?_
      refine bo_getR (pc := 92) X1 dX7_readsBed_92 fX7_22 (by first | assumption | rfl) rfl (by first | assumption | rfl) ?_
      refine bg_aload0 (pc := 95) X1 dX7_readsBed_95 ?_
      refine bo_getI (pc := 96) X1 dX7_readsBed_96 fX7_120 (by first | assumption | rfl) rfl ?_
      rw [w1]
      refine bo_iaload (pc := 99) X1 dX7_readsBed_99 (by first | assumption | rfl) (by omega) ?_
      rw [Int.toNat_natCast, d2]
      refine bg_bipush (pc := 100) X1 dX7_readsBed_100 rfl (by decide) ?_
      refine bg_bipush (pc := 102) X1 dX7_readsBed_102 rfl (by decide) ?_
      refine bo_S3i (pc := 104) X1 (c_X7_in) sX7_in lX7_59 rfl (by decide) dX7_readsBed_104 (by exact Nat.le_of_ble_eq_true rfl) ?_
      rintro _ _ ⟨h9, h8⟩
      obtain rfl := h9.symm
      obtain rfl := h8.symm
      clear h9 h8
      refine bo_ifeq_b (pc := 107) X1 (tgt := 138) dX7_readsBed_107 (by decide) (fun u107 => ?_) (fun u107 => ?_)
      · refine bg_aload0 (pc := 138) X1 dX7_readsBed_138 ?_
        refine bo_getR (pc := 139) X1 dX7_readsBed_139 fX7_28 (by first | assumption | rfl) rfl (by first | assumption | rfl) ?_
        refine bg_iconst (pc := 142) X1 dX7_readsBed_142 (by decide) ?_
        refine bg_aload0 (pc := 143) X1 dX7_readsBed_143 ?_
        refine bo_getI (pc := 144) X1 dX7_readsBed_144 fX7_123 (by first | assumption | rfl) rfl ?_
        first | rw [e11] | rw [up_k (by decide), e11]
        refine bg_imul (pc := 147) X1 dX7_readsBed_147 (by omega) ?_
        refine bg_iconst (pc := 148) X1 dX7_readsBed_148 (by decide) ?_
        refine bg_iadd (pc := 149) X1 dX7_readsBed_149 (by omega) ?_
        refine bg_iload1 (pc := 150) X1 dX7_readsBed_150 ?_
        refine bo_iastore (pc := 151) X1 dX7_readsBed_151 (by first | assumption | rfl) (by omega) ?_
        refine bg_aload0 (pc := 152) X1 dX7_readsBed_152 ?_
        refine bg_dup (pc := 153) X1 dX7_readsBed_153 ?_
        refine bo_getI (pc := 154) X1 dX7_readsBed_154 fX7_123 (by first | assumption | rfl) rfl ?_
        first | rw [up_a (by decide), e11] | rw [up_a (by decide), up_k (by decide), e11]
        refine bg_iconst (pc := 157) X1 dX7_readsBed_157 (by decide) ?_
        refine bg_iadd (pc := 158) X1 dX7_readsBed_158 (by omega) ?_
        refine bo_putI (pc := 159) X1 dX7_readsBed_159 fX7_123 (by first | assumption | rfl) rfl ?_
        refine bg_iconst (pc := 162) X1 dX7_readsBed_162 (by decide) ?_
        exact bo_zret (pc := 163) X rfl (by first | exact Or.inl rfl | exact Or.inr rfl | exact b2i_01 _) dX7_readsBed_163 (by
            refine ⟨Or.inr rfl, Or.inr (Or.inr ?_), by first | exact (F4.up (by omega)).up (by omega) | exact ((F4.up (by omega)).up (by omega)).up (by omega)⟩
            have fn : ∀ (v : Int) (p' : Nat) (g5 g6 : bg_E), prsT t s = (v, p') → ¬ v = 0 → spR g5 t p' → (∀ j, g5 205 j = g3 205 j) → g6 = bg_up (bg_up g5 205 (2 * (L.length : Int) + 1).toNat v) 198 11 ((L.length : Int) + 1) → (L.length < 24 ∧ ¬ (prsT t s).1 = 0 ∧ (1 : Int) = 1 ∧ spR g6 t (prsT t s).2 ∧ rdR g6 (L ++ [(chr t p - 97, (prsT t s).1)])) := by
              intro v p' g5 g6 e1 e2 e3 e4 e5
              subst e5
              rw [e1]
              refine ⟨by omega, e2, rfl, e3.mv ((mres.rf.up (by omega)).up (by omega)) ?_ e3.2.2, hr.add (by omega) up_eq (fun k hk => ?_) ?_ ?_⟩
              · rw [up_k (by decide), up_a (by decide)]; exact e3.2.1
              · rw [up_a (by decide), up_k (by omega), e4, k205, up_k (by omega)]
              · rw [up_a (by decide), up_k (by omega), e4, k205, up_e (by omega)]
              · rw [up_a (by decide), up_e (by omega)]
            first
            | exact fn _ (s + 1) _ _ (by unfold prsT; rw [if_neg (by omega), if_pos (by omega)]) (by omega) P4 (fun j => up_a (by decide)) rfl
            | exact fn _ (s + 2) _ _ (by unfold prsT; rw [if_neg (by omega), if_neg (by omega)]; refine Prod.ext ?_ rfl; show _ = _; omega) (by omega) (P4.up (by omega) (by omega)) (fun j => (up_a (by decide)).trans (up_a (by decide))) rfl)
      · refine bg_bipush (pc := 110) X1 dX7_readsBed_110 rfl (by decide) ?_
        refine bg_iload1 (pc := 112) X1 dX7_readsBed_112 ?_
        refine bg_imul (pc := 113) X1 dX7_readsBed_113 (by omega) ?_
        refine bg_aload0 (pc := 114) X1 dX7_readsBed_114 ?_
        refine bo_getR (pc := 115) X1 dX7_readsBed_115 fX7_22 (by first | assumption | rfl) rfl (by first | assumption | rfl) ?_
        refine bg_aload0 (pc := 118) X1 dX7_readsBed_118 ?_
        refine bo_getI (pc := 119) X1 dX7_readsBed_119 fX7_120 (by first | assumption | rfl) rfl ?_
        rw [w1]
        refine bo_iaload (pc := 122) X1 dX7_readsBed_122 (by first | assumption | rfl) (by omega) ?_
        rw [Int.toNat_natCast, d2]
        refine bg_iadd (pc := 123) X1 dX7_readsBed_123 (by omega) ?_
        refine bg_bipush (pc := 124) X1 dX7_readsBed_124 rfl (by decide) ?_
        refine bg_isub (pc := 126) X1 dX7_readsBed_126 (by omega) ?_
        refine bg_istore1 (pc := 127) X1 dX7_readsBed_127 ?_
        refine bg_aload0 (pc := 128) X1 dX7_readsBed_128 ?_
        refine bg_dup (pc := 129) X1 dX7_readsBed_129 ?_
        refine bo_getI (pc := 130) X1 dX7_readsBed_130 fX7_120 (by first | assumption | rfl) rfl ?_
        rw [w1]
        refine bg_iconst (pc := 133) X1 dX7_readsBed_133 (by decide) ?_
        refine bg_iadd (pc := 134) X1 dX7_readsBed_134 (by omega) ?_
        refine bo_putI (pc := 135) X1 dX7_readsBed_135 fX7_120 (by first | assumption | rfl) rfl ?_
        refine bg_aload0 (pc := 138) X1 dX7_readsBed_138 ?_
        refine bo_getR (pc := 139) X1 dX7_readsBed_139 fX7_28 (by first | assumption | rfl) rfl (by first | assumption | rfl) ?_
        refine bg_iconst (pc := 142) X1 dX7_readsBed_142 (by decide) ?_
        refine bg_aload0 (pc := 143) X1 dX7_readsBed_143 ?_
        refine bo_getI (pc := 144) X1 dX7_readsBed_144 fX7_123 (by first | assumption | rfl) rfl ?_
        first | rw [e11] | rw [up_k (by decide), e11]
        refine bg_imul (pc := 147) X1 dX7_readsBed_147 (by omega) ?_
        refine bg_iconst (pc := 148) X1 dX7_readsBed_148 (by decide) ?_
        refine bg_iadd (pc := 149) X1 dX7_readsBed_149 (by omega) ?_
        refine bg_iload1 (pc := 150) X1 dX7_readsBed_150 ?_
        refine bo_iastore (pc := 151) X1 dX7_readsBed_151 (by first | assumption | rfl) (by omega) ?_
        refine bg_aload0 (pc := 152) X1 dX7_readsBed_152 ?_
        refine bg_dup (pc := 153) X1 dX7_readsBed_153 ?_
        refine bo_getI (pc := 154) X1 dX7_readsBed_154 fX7_123 (by first | assumption | rfl) rfl ?_
        first | rw [up_a (by decide), e11] | rw [up_a (by decide), up_k (by decide), e11]
        refine bg_iconst (pc := 157) X1 dX7_readsBed_157 (by decide) ?_
        refine bg_iadd (pc := 158) X1 dX7_readsBed_158 (by omega) ?_
        refine bo_putI (pc := 159) X1 dX7_readsBed_159 fX7_123 (by first | assumption | rfl) rfl ?_
        refine bg_iconst (pc := 162) X1 dX7_readsBed_162 (by decide) ?_
        exact bo_zret (pc := 163) X rfl (by first | exact Or.inl rfl | exact Or.inr rfl | exact b2i_01 _) dX7_readsBed_163 (by
            refine ⟨Or.inr rfl, Or.inr (Or.inr ?_), by first | exact (F4.up (by omega)).up (by omega) | exact ((F4.up (by omega)).up (by omega)).up (by omega)⟩
            have fn : ∀ (v : Int) (p' : Nat) (g5 g6 : bg_E), prsT t s = (v, p') → ¬ v = 0 → spR g5 t p' → (∀ j, g5 205 j = g3 205 j) → g6 = bg_up (bg_up g5 205 (2 * (L.length : Int) + 1).toNat v) 198 11 ((L.length : Int) + 1) → (L.length < 24 ∧ ¬ (prsT t s).1 = 0 ∧ (1 : Int) = 1 ∧ spR g6 t (prsT t s).2 ∧ rdR g6 (L ++ [(chr t p - 97, (prsT t s).1)])) := by
              intro v p' g5 g6 e1 e2 e3 e4 e5
              subst e5
              rw [e1]
              refine ⟨by omega, e2, rfl, e3.mv ((mres.rf.up (by omega)).up (by omega)) ?_ e3.2.2, hr.add (by omega) up_eq (fun k hk => ?_) ?_ ?_⟩
              · rw [up_k (by decide), up_a (by decide)]; exact e3.2.1
              · rw [up_a (by decide), up_k (by omega), e4, k205, up_k (by omega)]
              · rw [up_a (by decide), up_k (by omega), e4, k205, up_e (by omega)]
              · rw [up_a (by decide), up_e (by omega)]
            first
            | exact fn _ (s + 1) _ _ (by unfold prsT; rw [if_neg (by omega), if_pos (by omega)]) (by omega) P4 (fun j => up_a (by decide)) rfl
            | exact fn _ (s + 2) _ _ (by unfold prsT; rw [if_neg (by omega), if_neg (by omega)]; refine Prod.ext ?_ rfl; show _ = _; omega) (by omega) (P4.up (by omega) (by omega)) (fun j => (up_a (by decide)).trans (up_a (by decide))) rfl)
  · refine bg_iconst (pc := 9) X1 dX7_readsBed_9 (by decide) ?_
    exact bo_zret (pc := 10) X rfl (by first | exact Or.inl rfl | exact Or.inr rfl | exact b2i_01 _) dX7_readsBed_10 (⟨Or.inl rfl, Or.inl ⟨by omega, rfl, hT⟩, mres.rf⟩)
