/-! the model: where it keeps a state -/
def rowR (f : Nat → Int) (S : bm_S) : Prop := (∀ k, k < 5 → f k = S.1 k) ∧ f 5 = S.2.1 ∧ (∀ h, h < 4 → f (6 + h) = S.2.2.1 h ∧ f (10 + h) = ((S.2.2.2.1 h).length : Int)) ∧ (∀ h k, h < 4 → k < (S.2.2.2.1 h).length → f (18 + 48 * h + 2 * k) = mrk (S.2.2.2.1 h) k ∧ f (18 + 48 * h + 2 * k + 1) = th (S.2.2.2.1 h) k) ∧ ∀ a, 1 ≤ a → a < 5 → f (13 + a) = S.2.2.2.2 a
abbrev sq (S : bm_S) (h : Int) : bm_Q := S.2.2.2.1 h.toNat
theorem rowR.cg {f f' : Nat → Int} {S : bm_S} (h : rowR f S) (hl : ∀ k, k < 4 → (S.2.2.2.1 k).length ≤ 24) (he : ∀ k, k < 210 → f' k = f k) : rowR f' S := by
  obtain ⟨h1, h2, h3, h4, h5⟩ := h
  refine ⟨fun k hk => by rw [he k (by omega)]; exact h1 k hk, by rw [he 5 (by omega)]; exact h2, fun k hk => by rw [he _ (by omega), he _ (by omega)]; exact h3 k hk, fun a k ha hk => ?_, fun a h6 h7 => by rw [he _ (by omega)]; exact h5 a h6 h7⟩
  have := hl a ha
  rw [he _ (by omega), he _ (by omega)]
  exact h4 a k ha hk
theorem row_num {f : Nat → Int} {S : bm_S} (h : rowR f S) {w : Int} (hw : 0 ≤ w ∧ w < 5) : f w.toNat = S.1 w.toNat := h.1 _ (by omega)
theorem row_col {f : Nat → Int} {S : bm_S} (h : rowR f S) {a : Int} (ha : isHo a) : f (6 + a).toNat = S.2.2.1 a.toNat := by
  rw [show (6 + a).toNat = 6 + a.toNat by omega]; exact (h.2.2.1 _ (by omega)).1
theorem row_len {f : Nat → Int} {S : bm_S} (h : rowR f S) {a : Int} (ha : isHo a) : f (10 + a).toNat = ((sq S a).length : Int) := by
  rw [show (10 + a).toNat = 10 + a.toNat by omega]; exact (h.2.2.1 _ (by omega)).2
theorem row_mrk {f : Nat → Int} {S : bm_S} (h : rowR f S) {a b : Int} (ha : isHo a) (hb : 0 ≤ b ∧ b < ((sq S a).length : Int)) : f (18 + 48 * a + 2 * b).toNat = mrk (sq S a) b.toNat := by
  rw [show (18 + 48 * a + 2 * b).toNat = 18 + 48 * a.toNat + 2 * b.toNat by omega]; exact (h.2.2.2.1 _ _ (by omega) (show b.toNat < (sq S a).length by omega)).1
theorem row_th {f : Nat → Int} {S : bm_S} (h : rowR f S) {a b : Int} (ha : isHo a) (hb : 0 ≤ b ∧ b < ((sq S a).length : Int)) : f (18 + 48 * a + 2 * b + 1).toNat = th (sq S a) b.toNat := by
  rw [show (18 + 48 * a + 2 * b + 1).toNat = 18 + 48 * a.toNat + 2 * b.toNat + 1 by omega]; exact (h.2.2.2.1 _ _ (by omega) (show b.toNat < (sq S a).length by omega)).2
theorem row_acc {f : Nat → Int} {S : bm_S} (h : rowR f S) {a : Int} (ha : 1 ≤ a ∧ a < 5) : f (14 + a - 1).toNat = S.2.2.2.2 a.toNat := by
  rw [show (14 + a - 1).toNat = 13 + a.toNat by omega]; exact h.2.2.2.2 _ (by omega) (by omega)
theorem sq_OK {S : bm_S} (ok : staOK S) {a : Int} (ha : isHo a) : colOK (sq S a) ∧ (sq S a).length ≤ 24 := ok.2.2.2.2.2.2.2 a.toNat (by omega)
theorem sq_dep {S : bm_S} (ok : staOK S) {a : Int} (ha : isHo a) {n : Nat} (hn : n ≤ (sq S a).length) : 0 ≤ dep (sq S a) n ∧ dep (sq S a) n ≤ 2376 := by
  have h1 := sq_OK ok ha
  have h2 := dep_le h1.1 hn
  omega
theorem b2i_c {p q : Prop} [Decidable p] [Decidable q] (h : p ↔ q) : b2i p = b2i q := by
  by_cases hp : p
  · rw [b2i_t hp, b2i_t (h.mp hp)]
  · rw [b2i_f hp, b2i_f (fun hq => hp (h.mpr hq))]
theorem c_X7_in {y : bg_Y} {g : bg_E} {v a b : Int} : bg_Si y 0 mX7_in [.inl v, .inl a, .inl b] g (fun r g' => r = b2i (a ≤ v ∧ v ≤ b) ∧ g' = g) := by
  refine bg_enter pnX7 (Nat.le_of_ble_eq_true rfl) (fun κ X hR hg => ?_)
  have X1 : bg_X κ y cX7_in RX7 0 0 0 := X.1
  have hg : ∀ a k, R32 (g a k) := hg
  show bg_g κ y 0 [some (.inl v), some (.inl a), some (.inl b)] [] g
  refine bg_iload0 (pc := 0) X1 dX7_in_0 ?_
  refine bg_iload1 (pc := 1) X1 dX7_in_1 ?_
  refine bg_icmp_lt (pc := 2) X1 (tgt := 14) dX7_in_2 (by decide) (fun u2 => ?_) (fun u2 => ?_)
  · refine bg_iconst (pc := 14) X1 dX7_in_14 (by decide) ?_
    exact bo_zret (pc := 15) X rfl (by first | exact Or.inl rfl | exact Or.inr rfl | exact b2i_01 _) dX7_in_15 (⟨by first | rfl | exact (b2i_t (by omega)).symm | exact (b2i_f (by omega)).symm, rfl⟩)
  · refine bg_iload0 (pc := 5) X1 dX7_in_5 ?_
    refine bg_iload2 (pc := 6) X1 dX7_in_6 ?_
    refine bg_icmp_gt (pc := 7) X1 (tgt := 14) dX7_in_7 (by decide) (fun u7 => ?_) (fun u7 => ?_)
    · refine bg_iconst (pc := 14) X1 dX7_in_14 (by decide) ?_
      exact bo_zret (pc := 15) X rfl (by first | exact Or.inl rfl | exact Or.inr rfl | exact b2i_01 _) dX7_in_15 (⟨by first | rfl | exact (b2i_t (by omega)).symm | exact (b2i_f (by omega)).symm, rfl⟩)
    · refine bg_iconst (pc := 10) X1 dX7_in_10 (by decide) ?_
      refine bg_goto (pc := 11) X1 (tgt := 15) dX7_in_11 (by decide) ?_
      exact bo_zret (pc := 15) X rfl (by first | exact Or.inl rfl | exact Or.inr rfl | exact b2i_01 _) dX7_in_15 (⟨by first | rfl | exact (b2i_t (by omega)).symm | exact (b2i_f (by omega)).symm, rfl⟩)
theorem c_X7_isHole {y : bg_Y} {g : bg_E} {v : Int} : bg_Si y 1 mX7_isHole [.inl v] g (fun r g' => r = b2i (isHo v) ∧ g' = g) := by
  refine bg_enter pnX7 (Nat.le_of_ble_eq_true rfl) (fun κ X hR hg => ?_)
  have X1 : bg_X κ y cX7_isHole RX7 1 0 0 := X.1
  have hg : ∀ a k, R32 (g a k) := hg
  show bg_g κ y 0 [some (.inl v)] [] g
  refine bg_iload0 (pc := 0) X1 dX7_isHole_0 ?_
  refine bg_iconst (pc := 1) X1 dX7_isHole_1 (by decide) ?_
  refine bg_iconst (pc := 2) X1 dX7_isHole_2 (by decide) ?_
  refine bo_S3i (pc := 3) X1 (c_X7_in) sX7_in lX7_59 rfl (by decide) dX7_isHole_3 (by exact Nat.le_of_ble_eq_true rfl) ?_
  rintro _ _ ⟨h9, h8⟩
  obtain rfl := h9.symm
  obtain rfl := h8.symm
  clear h9 h8
  exact bo_zret (pc := 6) X rfl (by first | exact Or.inl rfl | exact Or.inr rfl | exact b2i_01 _) dX7_isHole_6 (⟨b2i_c (by omega), rfl⟩)
theorem c_X7_isMark {y : bg_Y} {g : bg_E} {v : Int} : bg_Si y 1 mX7_isMark [.inl v] g (fun r g' => r = b2i (isMa v) ∧ g' = g) := by
  refine bg_enter pnX7 (Nat.le_of_ble_eq_true rfl) (fun κ X hR hg => ?_)
  have X1 : bg_X κ y cX7_isMark RX7 1 0 0 := X.1
  have hg : ∀ a k, R32 (g a k) := hg
  show bg_g κ y 0 [some (.inl v)] [] g
  refine bg_iload0 (pc := 0) X1 dX7_isMark_0 ?_
  refine bg_iconst (pc := 1) X1 dX7_isMark_1 (by decide) ?_
  refine bg_bipush (pc := 2) X1 dX7_isMark_2 rfl (by decide) ?_
  refine bo_S3i (pc := 4) X1 (c_X7_in) sX7_in lX7_59 rfl (by decide) dX7_isMark_4 (by exact Nat.le_of_ble_eq_true rfl) ?_
  rintro _ _ ⟨h9, h8⟩
  obtain rfl := h9.symm
  obtain rfl := h8.symm
  clear h9 h8
  exact bo_zret (pc := 7) X rfl (by first | exact Or.inl rfl | exact Or.inr rfl | exact b2i_01 _) dX7_isMark_7 (⟨b2i_c (by omega), rfl⟩)
theorem c_X7_areTwo {y : bg_Y} {g : bg_E} {a b : Int} : bg_Si y 2 mX7_areTwo [.inl a, .inl b] g (fun r g' => r = b2i (arePa a b) ∧ g' = g) := by
  refine bg_enter pnX7 (Nat.le_of_ble_eq_true rfl) (fun κ X hR hg => ?_)
  have X1 : bg_X κ y cX7_areTwo RX7 2 0 0 := X.1
  have hg : ∀ a k, R32 (g a k) := hg
  show bg_g κ y 0 [some (.inl a), some (.inl b)] [] g
  refine bg_iload0 (pc := 0) X1 dX7_areTwo_0 ?_
  refine bo_S1i (pc := 1) X1 (c_X7_isHole) sX7_isHole lX7_63 rfl (by decide) dX7_areTwo_1 (by exact Nat.le_of_ble_eq_true rfl) ?_
  rintro _ _ ⟨h9, h8⟩
  obtain rfl := h9.symm
  obtain rfl := h8.symm
  clear h9 h8
  refine bo_ifeq_b (pc := 4) X1 (tgt := 23) dX7_areTwo_4 (by decide) (fun u4 => ?_) (fun u4 => ?_)
  · refine bg_iconst (pc := 23) X1 dX7_areTwo_23 (by decide) ?_
    exact bo_zret (pc := 24) X rfl (by first | exact Or.inl rfl | exact Or.inr rfl | exact b2i_01 _) dX7_areTwo_24 (⟨by first | rfl | exact (b2i_t (by omega)).symm | exact (b2i_f (by omega)).symm, rfl⟩)
  · refine bg_iload1 (pc := 7) X1 dX7_areTwo_7 ?_
    refine bo_S1i (pc := 8) X1 (c_X7_isHole) sX7_isHole lX7_63 rfl (by decide) dX7_areTwo_8 (by exact Nat.le_of_ble_eq_true rfl) ?_
    rintro _ _ ⟨h9, h8⟩
    obtain rfl := h9.symm
    obtain rfl := h8.symm
    clear h9 h8
    refine bo_ifeq_b (pc := 11) X1 (tgt := 23) dX7_areTwo_11 (by decide) (fun u11 => ?_) (fun u11 => ?_)
    · refine bg_iconst (pc := 23) X1 dX7_areTwo_23 (by decide) ?_
      exact bo_zret (pc := 24) X rfl (by first | exact Or.inl rfl | exact Or.inr rfl | exact b2i_01 _) dX7_areTwo_24 (⟨by first | rfl | exact (b2i_t (by omega)).symm | exact (b2i_f (by omega)).symm, rfl⟩)
    · refine bg_iload0 (pc := 14) X1 dX7_areTwo_14 ?_
      refine bg_iload1 (pc := 15) X1 dX7_areTwo_15 ?_
      refine bg_icmp_eq (pc := 16) X1 (tgt := 23) dX7_areTwo_16 (by decide) (fun u16 => ?_) (fun u16 => ?_)
      · refine bg_iconst (pc := 23) X1 dX7_areTwo_23 (by decide) ?_
        exact bo_zret (pc := 24) X rfl (by first | exact Or.inl rfl | exact Or.inr rfl | exact b2i_01 _) dX7_areTwo_24 (⟨by first | rfl | exact (b2i_t (by omega)).symm | exact (b2i_f (by omega)).symm, rfl⟩)
      · refine bg_iconst (pc := 19) X1 dX7_areTwo_19 (by decide) ?_
        refine bg_goto (pc := 20) X1 (tgt := 24) dX7_areTwo_20 (by decide) ?_
        exact bo_zret (pc := 24) X rfl (by first | exact Or.inl rfl | exact Or.inr rfl | exact b2i_01 _) dX7_areTwo_24 (⟨by first | rfl | exact (b2i_t (by omega)).symm | exact (b2i_f (by omega)).symm, rfl⟩)
theorem c_X7_mostOf {y : bg_Y} {g : bg_E} {w : Int} (hw : 0 ≤ w ∧ w < 5) : bg_Si y 0 mX7_mostOf [.inl w] g (fun r g' => r = bg_most w.toNat ∧ g' = g) := by
  have hc : w = 0 ∨ w = 1 ∨ w = 2 ∨ w = 3 ∨ w = 4 := by omega
  refine bg_enter pnX7 (Nat.le_of_ble_eq_true rfl) (fun κ X hR hg => ?_)
  have X1 : bg_X κ y cX7_mostOf RX7 0 0 0 := X.1
  have hg : ∀ a k, R32 (g a k) := hg
  show bg_g κ y 0 [some (.inl w)] [] g
  refine bg_iload0 (pc := 0) X1 dX7_mostOf_0 ?_
  refine bg_iconst (pc := 1) X1 dX7_mostOf_1 (by decide) ?_
  refine bg_icmp_ge (pc := 2) X1 (tgt := 10) dX7_mostOf_2 (by decide) (fun u2 => ?_) (fun u2 => ?_)
  · refine bg_iload0 (pc := 10) X1 dX7_mostOf_10 ?_
    refine bg_iconst (pc := 11) X1 dX7_mostOf_11 (by decide) ?_
    refine bg_icmp_ne (pc := 12) X1 (tgt := 20) dX7_mostOf_12 (by decide) (fun u12 => ?_) (fun u12 => ?_)
    · refine bg_iload0 (pc := 20) X1 dX7_mostOf_20 ?_
      refine bg_iconst (pc := 21) X1 dX7_mostOf_21 (by decide) ?_
      refine bg_icmp_ne (pc := 22) X1 (tgt := 30) dX7_mostOf_22 (by decide) (fun u22 => ?_) (fun u22 => ?_)
      · refine bg_sipush (pc := 30) X1 dX7_mostOf_30 rfl (by decide) ?_
        exact bo_iret (pc := 33) X rfl dX7_mostOf_33 (fun hi => ⟨by rcases hc with rfl | rfl | rfl | rfl | rfl <;> first | rfl | omega, rfl⟩)
      · refine bg_bipush (pc := 25) X1 dX7_mostOf_25 rfl (by decide) ?_
        refine bg_goto (pc := 27) X1 (tgt := 33) dX7_mostOf_27 (by decide) ?_
        exact bo_iret (pc := 33) X rfl dX7_mostOf_33 (fun hi => ⟨by rcases hc with rfl | rfl | rfl | rfl | rfl <;> first | rfl | omega, rfl⟩)
    · refine bg_bipush (pc := 15) X1 dX7_mostOf_15 rfl (by decide) ?_
      refine bg_goto (pc := 17) X1 (tgt := 33) dX7_mostOf_17 (by decide) ?_
      exact bo_iret (pc := 33) X rfl dX7_mostOf_33 (fun hi => ⟨by rcases hc with rfl | rfl | rfl | rfl | rfl <;> first | rfl | omega, rfl⟩)
  · refine bg_bipush (pc := 5) X1 dX7_mostOf_5 rfl (by decide) ?_
    refine bg_goto (pc := 7) X1 (tgt := 33) dX7_mostOf_7 (by decide) ?_
    exact bo_iret (pc := 33) X rfl dX7_mostOf_33 (fun hi => ⟨by rcases hc with rfl | rfl | rfl | rfl | rfl <;> first | rfl | omega, rfl⟩)
theorem c_X7_at {y : bg_Y} {g : bg_E} {h b : Int} (hh : isHo h) (hb : 0 ≤ b ∧ b ≤ 25) : bg_Si y 0 mX7_at [.inl h, .inl b] g (fun r g' => r = 18 + 48 * h + 2 * b ∧ g' = g) := by
  refine bg_enter pnX7 (Nat.le_of_ble_eq_true rfl) (fun κ X hR hg => ?_)
  have X1 : bg_X κ y cX7_at RX7 0 0 0 := X.1
  have hg : ∀ a k, R32 (g a k) := hg
  show bg_g κ y 0 [some (.inl h), some (.inl b)] [] g
  refine bg_bipush (pc := 0) X1 dX7_at_0 rfl (by decide) ?_
  refine bg_bipush (pc := 2) X1 dX7_at_2 rfl (by decide) ?_
  refine bg_iload0 (pc := 4) X1 dX7_at_4 ?_
  refine bg_imul (pc := 5) X1 dX7_at_5 (by omega) ?_
  refine bg_iadd (pc := 6) X1 dX7_at_6 (by omega) ?_
  refine bg_iconst (pc := 7) X1 dX7_at_7 (by decide) ?_
  refine bg_iload1 (pc := 8) X1 dX7_at_8 ?_
  refine bg_imul (pc := 9) X1 dX7_at_9 (by omega) ?_
  refine bg_iadd (pc := 10) X1 dX7_at_10 (by omega) ?_
  exact bo_iret (pc := 11) X rfl dX7_at_11 (fun hi => ⟨by first | rfl | omega, rfl⟩)
theorem c_X7_mark {y : bg_Y} {g : bg_E} {h b : Int} {S : bm_S} (hS : rowR (g 199) S) (ok : staOK S) (hh : isHo h) (hb : 0 ≤ b ∧ b < ((sq S h).length : Int)) : bg_Si y 1 mX7_mark [.inr 198, .inl h, .inl b] g (fun r g' => r = mrk (sq S h) b.toNat ∧ g' = g) := by
  have hl := (sq_OK ok hh).2
  refine bg_enter pnX7 (Nat.le_of_ble_eq_true rfl) (fun κ X hR hg => ?_)
  have X1 : bg_X κ y cX7_mark RX7 1 0 0 := X.1
  have hg : ∀ a k, R32 (g a k) := hg
  show bg_g κ y 0 [some (.inr 198), some (.inl h), some (.inl b)] [] g
  refine bg_aload0 (pc := 0) X1 dX7_mark_0 ?_
  refine bo_getR (pc := 1) X1 dX7_mark_1 fX7_7 (by first | assumption | rfl) rfl (by first | assumption | rfl) ?_
  refine bg_iload1 (pc := 4) X1 dX7_mark_4 ?_
  refine bg_iload2 (pc := 5) X1 dX7_mark_5 ?_
  refine bo_S2i (pc := 6) X1 (c_X7_at hh (by omega)) sX7_at lX7_67 rfl (by decide) dX7_mark_6 (by exact Nat.le_of_ble_eq_true rfl) ?_
  rintro _ _ ⟨h9, h8⟩
  obtain rfl := h9.symm
  obtain rfl := h8.symm
  clear h9 h8
  refine bo_iaload (pc := 9) X1 dX7_mark_9 (by first | assumption | rfl) (by omega) ?_
  exact bo_iret (pc := 10) X rfl dX7_mark_10 (fun hi => ⟨row_mrk hS hh hb, rfl⟩)
theorem c_X7_thick {y : bg_Y} {g : bg_E} {h b : Int} {S : bm_S} (hS : rowR (g 199) S) (ok : staOK S) (hh : isHo h) (hb : 0 ≤ b ∧ b < ((sq S h).length : Int)) : bg_Si y 1 mX7_thick [.inr 198, .inl h, .inl b] g (fun r g' => r = th (sq S h) b.toNat ∧ g' = g) := by
  have hl := (sq_OK ok hh).2
  refine bg_enter pnX7 (Nat.le_of_ble_eq_true rfl) (fun κ X hR hg => ?_)
  have X1 : bg_X κ y cX7_thick RX7 1 0 0 := X.1
  have hg : ∀ a k, R32 (g a k) := hg
  show bg_g κ y 0 [some (.inr 198), some (.inl h), some (.inl b)] [] g
  refine bg_aload0 (pc := 0) X1 dX7_thick_0 ?_
  refine bo_getR (pc := 1) X1 dX7_thick_1 fX7_7 (by first | assumption | rfl) rfl (by first | assumption | rfl) ?_
  refine bg_iload1 (pc := 4) X1 dX7_thick_4 ?_
  refine bg_iload2 (pc := 5) X1 dX7_thick_5 ?_
  refine bo_S2i (pc := 6) X1 (c_X7_at hh (by omega)) sX7_at lX7_67 rfl (by decide) dX7_thick_6 (by exact Nat.le_of_ble_eq_true rfl) ?_
  rintro _ _ ⟨h9, h8⟩
  obtain rfl := h9.symm
  obtain rfl := h8.symm
  clear h9 h8
  refine bg_iconst (pc := 9) X1 dX7_thick_9 (by decide) ?_
  refine bg_iadd (pc := 10) X1 dX7_thick_10 (by omega) ?_
  refine bo_iaload (pc := 11) X1 dX7_thick_11 (by first | assumption | rfl) (by omega) ?_
  exact bo_iret (pc := 12) X rfl dX7_thick_12 (fun hi => ⟨row_th hS hh hb, rfl⟩)
theorem c_X7_depth {y : bg_Y} {g : bg_E} {h b : Int} {S : bm_S} (hS : rowR (g 199) S) (ok : staOK S) (hh : isHo h) (hb : 0 ≤ b ∧ b ≤ ((sq S h).length : Int)) : bg_Si y 2 mX7_depth [.inr 198, .inl h, .inl b] g (fun r g' => r = dep (sq S h) b.toNat ∧ g' = g) := by
  have hl := (sq_OK ok hh)
  refine bg_enter pnX7 (Nat.le_of_ble_eq_true rfl) (fun κ X hR hg => ?_)
  have X1 : bg_X κ y cX7_depth RX7 2 0 0 := X.1
  have hg : ∀ a k, R32 (g a k) := hg
  show bg_g κ y 0 [some (.inr 198), some (.inl h), some (.inl b), none, none] [] g
  have loop : ∀ (n k : Nat) (s : Int), s = dep (sq S h) k → (k : Int) + n = b → bg_g κ y 5 [some (.inr 198), some (.inl h), some (.inl b), some (.inl s), some (.inl (k : Int))] [] g := by
    intro n
    induction n with
    | zero =>
      intro k s hs hk
      refine bg_iload4 (pc := 5) X1 dX7_depth_5 ?_
      refine bg_iload2 (pc := 7) X1 dX7_depth_7 ?_
      refine bg_icmp_ge (pc := 8) X1 (tgt := 27) dX7_depth_8 (by decide) (fun u8 => ?_) (fun u8 => ?_)
      · refine bg_iload3 (pc := 27) X1 dX7_depth_27 ?_
        exact bo_iret (pc := 28) X rfl dX7_depth_28 (fun hi => ⟨by rw [hs]; congr 1; omega, rfl⟩)
      · exfalso; omega
    | succ n ih =>
      intro k s hs hk
      have h1 := sq_dep ok hh (n := k) (by omega)
      have h2 := thOK hl.1 (k := k) (by omega)
      refine bg_iload4 (pc := 5) X1 dX7_depth_5 ?_
      refine bg_iload2 (pc := 7) X1 dX7_depth_7 ?_
      refine bg_icmp_ge (pc := 8) X1 (tgt := 27) dX7_depth_8 (by decide) (fun u8 => ?_) (fun u8 => ?_)
      · exfalso; omega
      · refine bg_iload3 (pc := 11) X1 dX7_depth_11 ?_
        refine bg_aload0 (pc := 12) X1 dX7_depth_12 ?_
        refine bg_iload1 (pc := 13) X1 dX7_depth_13 ?_
        refine bg_iload4 (pc := 14) X1 dX7_depth_14 ?_
        refine bo_V2i (pc := 16) X1 (c_X7_thick hS ok hh (by omega)) vX7_thick lX7_71 rfl (by first | assumption | rfl) (by decide) dX7_depth_16 (by exact Nat.le_of_ble_eq_true rfl) ?_
        rintro _ _ ⟨h9, h8⟩
        obtain rfl := h9.symm
        obtain rfl := h8.symm
        clear h9 h8
        rw [Int.toNat_natCast]
        refine bg_iadd (pc := 19) X1 dX7_depth_19 (by omega) ?_
        refine bg_istore3 (pc := 20) X1 dX7_depth_20 ?_
        refine bg_iinc4 (pc := 21) X1 dX7_depth_21 (by omega) ?_
        refine bg_goto (pc := 24) X1 (tgt := 5) dX7_depth_24 (by decide) ?_
        exact ih (k + 1) _ (by rw [hs]; rfl) (by omega)
  refine bg_iconst (pc := 0) X1 dX7_depth_0 (by decide) ?_
  refine bg_istore3 (pc := 1) X1 dX7_depth_1 ?_
  refine bg_iconst (pc := 2) X1 dX7_depth_2 (by decide) ?_
  refine bg_istore4 (pc := 3) X1 dX7_depth_3 ?_
  exact loop b.toNat 0 0 rfl (by omega)
theorem c_X7_length {y : bg_Y} {g : bg_E} {h : Int} {S : bm_S} (hS : rowR (g 199) S) (ok : staOK S) (hh : isHo h) : bg_Si y 3 mX7_length [.inr 198, .inl h] g (fun r g' => r = dep (sq S h) (sq S h).length ∧ g' = g) := by
  refine bg_enter pnX7 (Nat.le_of_ble_eq_true rfl) (fun κ X hR hg => ?_)
  have X1 : bg_X κ y cX7_length RX7 3 0 0 := X.1
  have hg : ∀ a k, R32 (g a k) := hg
  show bg_g κ y 0 [some (.inr 198), some (.inl h)] [] g
  refine bg_aload0 (pc := 0) X1 dX7_length_0 ?_
  refine bg_iload1 (pc := 1) X1 dX7_length_1 ?_
  refine bg_aload0 (pc := 2) X1 dX7_length_2 ?_
  refine bo_getR (pc := 3) X1 dX7_length_3 fX7_7 (by first | assumption | rfl) rfl (by first | assumption | rfl) ?_
  refine bg_bipush (pc := 6) X1 dX7_length_6 rfl (by decide) ?_
  refine bg_iload1 (pc := 8) X1 dX7_length_8 ?_
  refine bg_iadd (pc := 9) X1 dX7_length_9 (by omega) ?_
  refine bo_iaload (pc := 10) X1 dX7_length_10 (by first | assumption | rfl) (by omega) ?_
  rw [row_len hS hh]
  refine bo_V2i (pc := 11) X1 (c_X7_depth hS ok hh (by omega)) vX7_depth lX7_74 rfl (by first | assumption | rfl) (by decide) dX7_length_11 (by exact Nat.le_of_ble_eq_true rfl) ?_
  rintro _ _ ⟨h9, h8⟩
  obtain rfl := h9.symm
  obtain rfl := h8.symm
  clear h9 h8
  exact bo_iret (pc := 14) X rfl dX7_length_14 (fun hi => ⟨by rw [Int.toNat_natCast], rfl⟩)
theorem c_X7_allBeds {y : bg_Y} {g : bg_E} {S : bm_S} (hS : rowR (g 199) S) (ok : staOK S) : bg_Si y 0 mX7_allBeds [.inr 198] g (fun r g' => r = szS S ∧ g' = g) := by
  have e : ∀ h : Nat, h < 4 → g 199 (10 + h) = ((S.2.2.2.1 h).length : Int) ∧ (S.2.2.2.1 h).length ≤ 24 := fun h hh => ⟨(hS.2.2.1 h hh).2, (ok.2.2.2.2.2.2.2 h hh).2⟩
  have e0 : g 199 (10 : Int).toNat = _ := (e 0 (by omega)).1
  have e1 : g 199 (11 : Int).toNat = _ := (e 1 (by omega)).1
  have e2 : g 199 (12 : Int).toNat = _ := (e 2 (by omega)).1
  have e3 : g 199 (13 : Int).toNat = _ := (e 3 (by omega)).1
  have l0 := (e 0 (by omega)).2
  have l1 := (e 1 (by omega)).2
  have l2 := (e 2 (by omega)).2
  have l3 := (e 3 (by omega)).2
  refine bg_enter pnX7 (Nat.le_of_ble_eq_true rfl) (fun κ X hR hg => ?_)
  have X1 : bg_X κ y cX7_allBeds RX7 0 0 0 := X.1
  have hg : ∀ a k, R32 (g a k) := hg
  show bg_g κ y 0 [some (.inr 198)] [] g
  refine bg_aload0 (pc := 0) X1 dX7_allBeds_0 ?_
  refine bo_getR (pc := 1) X1 dX7_allBeds_1 fX7_7 (by first | assumption | rfl) rfl (by first | assumption | rfl) ?_
  refine bg_bipush (pc := 4) X1 dX7_allBeds_4 rfl (by decide) ?_
  refine bo_iaload (pc := 6) X1 dX7_allBeds_6 (by first | assumption | rfl) (by omega) ?_
  rw [e0]
  refine bg_aload0 (pc := 7) X1 dX7_allBeds_7 ?_
  refine bo_getR (pc := 8) X1 dX7_allBeds_8 fX7_7 (by first | assumption | rfl) rfl (by first | assumption | rfl) ?_
  refine bg_bipush (pc := 11) X1 dX7_allBeds_11 rfl (by decide) ?_
  refine bo_iaload (pc := 13) X1 dX7_allBeds_13 (by first | assumption | rfl) (by omega) ?_
  rw [e1]
  refine bg_iadd (pc := 14) X1 dX7_allBeds_14 (by omega) ?_
  refine bg_aload0 (pc := 15) X1 dX7_allBeds_15 ?_
  refine bo_getR (pc := 16) X1 dX7_allBeds_16 fX7_7 (by first | assumption | rfl) rfl (by first | assumption | rfl) ?_
  refine bg_bipush (pc := 19) X1 dX7_allBeds_19 rfl (by decide) ?_
  refine bo_iaload (pc := 21) X1 dX7_allBeds_21 (by first | assumption | rfl) (by omega) ?_
  rw [e2]
  refine bg_iadd (pc := 22) X1 dX7_allBeds_22 (by omega) ?_
  refine bg_aload0 (pc := 23) X1 dX7_allBeds_23 ?_
  refine bo_getR (pc := 24) X1 dX7_allBeds_24 fX7_7 (by first | assumption | rfl) rfl (by first | assumption | rfl) ?_
  refine bg_bipush (pc := 27) X1 dX7_allBeds_27 rfl (by decide) ?_
  refine bo_iaload (pc := 29) X1 dX7_allBeds_29 (by first | assumption | rfl) (by omega) ?_
  rw [e3]
  refine bg_iadd (pc := 30) X1 dX7_allBeds_30 (by omega) ?_
  exact bo_iret (pc := 31) X rfl dX7_allBeds_31 (fun hi => ⟨by unfold szS; simp only [sumN]; omega, rfl⟩)
theorem c_X7_isBed {y : bg_Y} {g : bg_E} {h b : Int} {S : bm_S} (hS : rowR (g 199) S) : bg_Si y 2 mX7_isBed [.inr 198, .inl h, .inl b] g (fun r g' => r = b2i (isHo h ∧ 0 ≤ b ∧ b < ((sq S h).length : Int)) ∧ g' = g) := by
  refine bg_enter pnX7 (Nat.le_of_ble_eq_true rfl) (fun κ X hR hg => ?_)
  have X1 : bg_X κ y cX7_isBed RX7 2 0 0 := X.1
  have hg : ∀ a k, R32 (g a k) := hg
  show bg_g κ y 0 [some (.inr 198), some (.inl h), some (.inl b)] [] g
  refine bg_iload1 (pc := 0) X1 dX7_isBed_0 ?_
  refine bo_S1i (pc := 1) X1 (c_X7_isHole) sX7_isHole lX7_63 rfl (by decide) dX7_isBed_1 (by exact Nat.le_of_ble_eq_true rfl) ?_
  rintro _ _ ⟨h9, h8⟩
  obtain rfl := h9.symm
  obtain rfl := h8.symm
  clear h9 h8
  refine bo_ifeq_b (pc := 4) X1 (tgt := 28) dX7_isBed_4 (by decide) (fun u4 => ?_) (fun u4 => ?_)
  · refine bg_iconst (pc := 28) X1 dX7_isBed_28 (by decide) ?_
    exact bo_zret (pc := 29) X rfl (by first | exact Or.inl rfl | exact Or.inr rfl | exact b2i_01 _) dX7_isBed_29 (⟨by first | rfl | exact (b2i_t (by omega)).symm | exact (b2i_f (by omega)).symm, rfl⟩)
  · refine bg_iload2 (pc := 7) X1 dX7_isBed_7 ?_
    refine bg_if_lt (pc := 8) X1 (tgt := 28) dX7_isBed_8 (by decide) (fun u8 => ?_) (fun u8 => ?_)
    · refine bg_iconst (pc := 28) X1 dX7_isBed_28 (by decide) ?_
      exact bo_zret (pc := 29) X rfl (by first | exact Or.inl rfl | exact Or.inr rfl | exact b2i_01 _) dX7_isBed_29 (⟨by first | rfl | exact (b2i_t (by omega)).symm | exact (b2i_f (by omega)).symm, rfl⟩)
    · refine bg_iload2 (pc := 11) X1 dX7_isBed_11 ?_
      refine bg_aload0 (pc := 12) X1 dX7_isBed_12 ?_
      refine bo_getR (pc := 13) X1 dX7_isBed_13 fX7_7 (by first | assumption | rfl) rfl (by first | assumption | rfl) ?_
      refine bg_bipush (pc := 16) X1 dX7_isBed_16 rfl (by decide) ?_
      refine bg_iload1 (pc := 18) X1 dX7_isBed_18 ?_
      refine bg_iadd (pc := 19) X1 dX7_isBed_19 (by omega) ?_
      refine bo_iaload (pc := 20) X1 dX7_isBed_20 (by first | assumption | rfl) (by omega) ?_
      rw [row_len hS u4]
      refine bg_icmp_ge (pc := 21) X1 (tgt := 28) dX7_isBed_21 (by decide) (fun u21 => ?_) (fun u21 => ?_)
      · refine bg_iconst (pc := 28) X1 dX7_isBed_28 (by decide) ?_
        exact bo_zret (pc := 29) X rfl (by first | exact Or.inl rfl | exact Or.inr rfl | exact b2i_01 _) dX7_isBed_29 (⟨by first | rfl | exact (b2i_t (by omega)).symm | exact (b2i_f (by omega)).symm, rfl⟩)
      · refine bg_iconst (pc := 24) X1 dX7_isBed_24 (by decide) ?_
        refine bg_goto (pc := 25) X1 (tgt := 29) dX7_isBed_25 (by decide) ?_
        exact bo_zret (pc := 29) X rfl (by first | exact Or.inl rfl | exact Or.inr rfl | exact b2i_01 _) dX7_isBed_29 (⟨by first | rfl | exact (b2i_t (by omega)).symm | exact (b2i_f (by omega)).symm, rfl⟩)
theorem c_X7_isOne {y : bg_Y} {g : bg_E} {a b s k : Int} {Z : bm_X} (hS : rowR (g 199) Z.1) : bg_Si y 3 mX7_isOne [.inr 198, .inl a, .inl b, .inl s, .inl k] g (fun r g' => r = b2i (isOn Z a b s k) ∧ g' = g) := by
  refine bg_enter pnX7 (Nat.le_of_ble_eq_true rfl) (fun κ X hR hg => ?_)
  have X1 : bg_X κ y cX7_isOne RX7 3 0 0 := X.1
  have hg : ∀ a k, R32 (g a k) := hg
  show bg_g κ y 0 [some (.inr 198), some (.inl a), some (.inl b), some (.inl s), some (.inl k)] [] g
  refine bg_iload1 (pc := 0) X1 dX7_isOne_0 ?_
  refine bg_iload2 (pc := 1) X1 dX7_isOne_1 ?_
  refine bo_S2i (pc := 2) X1 (c_X7_areTwo) sX7_areTwo lX7_175 rfl (by decide) dX7_isOne_2 (by exact Nat.le_of_ble_eq_true rfl) ?_
  rintro _ _ ⟨h9, h8⟩
  obtain rfl := h9.symm
  obtain rfl := h8.symm
  clear h9 h8
  refine bo_ifeq_b (pc := 5) X1 (tgt := 39) dX7_isOne_5 (by decide) (fun u5 => ?_) (fun u5 => ?_)
  · refine bg_iconst (pc := 39) X1 dX7_isOne_39 (by decide) ?_
    exact bo_zret (pc := 40) X rfl (by first | exact Or.inl rfl | exact Or.inr rfl | exact b2i_01 _) dX7_isOne_40 (⟨by first | exact (b2i_f (fun h9 => u5 h9.1)).symm | exact (b2i_f (fun h9 => by have := h9.2.1; omega)).symm | exact (b2i_f (fun h9 => u32 (by have h8 := h9.2.2; rw [if_pos u19] at h8; exact ⟨u5.1, h8⟩))).symm | exact (b2i_f (fun h9 => u32 (by have h8 := h9.2.2; rw [if_neg u19] at h8; exact ⟨u5.2.1, h8⟩))).symm | exact (b2i_t ⟨u5, by omega, by rw [if_pos u19]; exact u32.2⟩).symm | exact (b2i_t ⟨u5, by omega, by rw [if_neg u19]; exact u32.2⟩).symm, rfl⟩)
  · refine bg_iload3 (pc := 8) X1 dX7_isOne_8 ?_
    refine bg_iconst (pc := 9) X1 dX7_isOne_9 (by decide) ?_
    refine bg_iconst (pc := 10) X1 dX7_isOne_10 (by decide) ?_
    refine bo_S3i (pc := 11) X1 (c_X7_in) sX7_in lX7_59 rfl (by decide) dX7_isOne_11 (by exact Nat.le_of_ble_eq_true rfl) ?_
    rintro _ _ ⟨h9, h8⟩
    obtain rfl := h9.symm
    obtain rfl := h8.symm
    clear h9 h8
    refine bo_ifeq_b (pc := 14) X1 (tgt := 39) dX7_isOne_14 (by decide) (fun u14 => ?_) (fun u14 => ?_)
    · refine bg_iconst (pc := 39) X1 dX7_isOne_39 (by decide) ?_
      exact bo_zret (pc := 40) X rfl (by first | exact Or.inl rfl | exact Or.inr rfl | exact b2i_01 _) dX7_isOne_40 (⟨by first | exact (b2i_f (fun h9 => u5 h9.1)).symm | exact (b2i_f (fun h9 => by have := h9.2.1; omega)).symm | exact (b2i_f (fun h9 => u32 (by have h8 := h9.2.2; rw [if_pos u19] at h8; exact ⟨u5.1, h8⟩))).symm | exact (b2i_f (fun h9 => u32 (by have h8 := h9.2.2; rw [if_neg u19] at h8; exact ⟨u5.2.1, h8⟩))).symm | exact (b2i_t ⟨u5, by omega, by rw [if_pos u19]; exact u32.2⟩).symm | exact (b2i_t ⟨u5, by omega, by rw [if_neg u19]; exact u32.2⟩).symm, rfl⟩)
    · refine bg_aload0 (pc := 17) X1 dX7_isOne_17 ?_
      refine bg_iload3 (pc := 18) X1 dX7_isOne_18 ?_
      refine bg_if_ne (pc := 19) X1 (tgt := 26) dX7_isOne_19 (by decide) (fun u19 => ?_) (fun u19 => ?_)
      · refine bg_iload2 (pc := 26) X1 dX7_isOne_26 ?_
        refine bg_iload4 (pc := 27) X1 dX7_isOne_27 ?_
        refine bo_V2i (pc := 29) X1 (c_X7_isBed hS) vX7_isBed lX7_100 rfl (by first | assumption | rfl) (by decide) dX7_isOne_29 (by exact Nat.le_of_ble_eq_true rfl) ?_
        rintro _ _ ⟨h9, h8⟩
        obtain rfl := h9.symm
        obtain rfl := h8.symm
        clear h9 h8
        refine bo_ifeq_b (pc := 32) X1 (tgt := 39) dX7_isOne_32 (by decide) (fun u32 => ?_) (fun u32 => ?_)
        · refine bg_iconst (pc := 39) X1 dX7_isOne_39 (by decide) ?_
          exact bo_zret (pc := 40) X rfl (by first | exact Or.inl rfl | exact Or.inr rfl | exact b2i_01 _) dX7_isOne_40 (⟨by first | exact (b2i_f (fun h9 => u5 h9.1)).symm | exact (b2i_f (fun h9 => by have := h9.2.1; omega)).symm | exact (b2i_f (fun h9 => u32 (by have h8 := h9.2.2; rw [if_pos u19] at h8; exact ⟨u5.1, h8⟩))).symm | exact (b2i_f (fun h9 => u32 (by have h8 := h9.2.2; rw [if_neg u19] at h8; exact ⟨u5.2.1, h8⟩))).symm | exact (b2i_t ⟨u5, by omega, by rw [if_pos u19]; exact u32.2⟩).symm | exact (b2i_t ⟨u5, by omega, by rw [if_neg u19]; exact u32.2⟩).symm, rfl⟩)
        · refine bg_iconst (pc := 35) X1 dX7_isOne_35 (by decide) ?_
          refine bg_goto (pc := 36) X1 (tgt := 40) dX7_isOne_36 (by decide) ?_
          exact bo_zret (pc := 40) X rfl (by first | exact Or.inl rfl | exact Or.inr rfl | exact b2i_01 _) dX7_isOne_40 (⟨by first | exact (b2i_f (fun h9 => u5 h9.1)).symm | exact (b2i_f (fun h9 => by have := h9.2.1; omega)).symm | exact (b2i_f (fun h9 => u32 (by have h8 := h9.2.2; rw [if_pos u19] at h8; exact ⟨u5.1, h8⟩))).symm | exact (b2i_f (fun h9 => u32 (by have h8 := h9.2.2; rw [if_neg u19] at h8; exact ⟨u5.2.1, h8⟩))).symm | exact (b2i_t ⟨u5, by omega, by rw [if_pos u19]; exact u32.2⟩).symm | exact (b2i_t ⟨u5, by omega, by rw [if_neg u19]; exact u32.2⟩).symm, rfl⟩)
      · refine bg_iload1 (pc := 22) X1 dX7_isOne_22 ?_
        refine bg_goto (pc := 23) X1 (tgt := 27) dX7_isOne_23 (by decide) ?_
        refine bg_iload4 (pc := 27) X1 dX7_isOne_27 ?_
        refine bo_V2i (pc := 29) X1 (c_X7_isBed hS) vX7_isBed lX7_100 rfl (by first | assumption | rfl) (by decide) dX7_isOne_29 (by exact Nat.le_of_ble_eq_true rfl) ?_
        rintro _ _ ⟨h9, h8⟩
        obtain rfl := h9.symm
        obtain rfl := h8.symm
        clear h9 h8
        refine bo_ifeq_b (pc := 32) X1 (tgt := 39) dX7_isOne_32 (by decide) (fun u32 => ?_) (fun u32 => ?_)
        · refine bg_iconst (pc := 39) X1 dX7_isOne_39 (by decide) ?_
          exact bo_zret (pc := 40) X rfl (by first | exact Or.inl rfl | exact Or.inr rfl | exact b2i_01 _) dX7_isOne_40 (⟨by first | exact (b2i_f (fun h9 => u5 h9.1)).symm | exact (b2i_f (fun h9 => by have := h9.2.1; omega)).symm | exact (b2i_f (fun h9 => u32 (by have h8 := h9.2.2; rw [if_pos u19] at h8; exact ⟨u5.1, h8⟩))).symm | exact (b2i_f (fun h9 => u32 (by have h8 := h9.2.2; rw [if_neg u19] at h8; exact ⟨u5.2.1, h8⟩))).symm | exact (b2i_t ⟨u5, by omega, by rw [if_pos u19]; exact u32.2⟩).symm | exact (b2i_t ⟨u5, by omega, by rw [if_neg u19]; exact u32.2⟩).symm, rfl⟩)
        · refine bg_iconst (pc := 35) X1 dX7_isOne_35 (by decide) ?_
          refine bg_goto (pc := 36) X1 (tgt := 40) dX7_isOne_36 (by decide) ?_
          exact bo_zret (pc := 40) X rfl (by first | exact Or.inl rfl | exact Or.inr rfl | exact b2i_01 _) dX7_isOne_40 (⟨by first | exact (b2i_f (fun h9 => u5 h9.1)).symm | exact (b2i_f (fun h9 => by have := h9.2.1; omega)).symm | exact (b2i_f (fun h9 => u32 (by have h8 := h9.2.2; rw [if_pos u19] at h8; exact ⟨u5.1, h8⟩))).symm | exact (b2i_f (fun h9 => u32 (by have h8 := h9.2.2; rw [if_neg u19] at h8; exact ⟨u5.2.1, h8⟩))).symm | exact (b2i_t ⟨u5, by omega, by rw [if_pos u19]; exact u32.2⟩).symm | exact (b2i_t ⟨u5, by omega, by rw [if_neg u19]; exact u32.2⟩).symm, rfl⟩)
theorem c_X7_missing {y : bg_Y} {g : bg_E} {m : Int} {S : bm_S} {a b : Nat} (hS : rowR (g 199) S) (ok : staOK S) (hm : isMa m) : bg_Si y 0 mX7_missing [.inr 198, .inl m] g (fun r g' => r = pM (mkP S a b) m ∧ g' = g) := by
  have h1 := ok.1
  have hk := kb_01 ok.2.2.2.2.2.1 hm
  have e5 : g 199 (5 : Int).toNat = S.2.1 := hS.2.1
  have e0 : g 199 (0 : Int).toNat = S.1 0 := hS.1 0 (by omega)
  have em : ((m.toNat : Nat) : Int) = m := by omega
  refine bg_enter pnX7 (Nat.le_of_ble_eq_true rfl) (fun κ X hR hg => ?_)
  have X1 : bg_X κ y cX7_missing RX7 0 0 0 := X.1
  have hg : ∀ a k, R32 (g a k) := hg
  show bg_g κ y 0 [some (.inr 198), some (.inl m)] [] g
  refine bg_aload0 (pc := 0) X1 dX7_missing_0 ?_
  refine bo_getR (pc := 1) X1 dX7_missing_1 fX7_7 (by first | assumption | rfl) rfl (by first | assumption | rfl) ?_
  refine bg_iconst (pc := 4) X1 dX7_missing_4 (by decide) ?_
  refine bo_iaload (pc := 5) X1 dX7_missing_5 (by first | assumption | rfl) (by omega) ?_
  rw [e5]
  refine bg_iload1 (pc := 6) X1 dX7_missing_6 ?_
  refine bg_ishr (pc := 7) X1 dX7_missing_7 ?_
  refine bg_iconst (pc := 8) X1 dX7_missing_8 (by decide) ?_
  refine bg_iand (pc := 9) X1 dX7_missing_9 ?_
  change bg_g κ y _ _ [.inl (kb S.2.1 m)] g
  refine bg_iconst (pc := 10) X1 dX7_missing_10 (by decide) ?_
  refine bg_icmp_ne (pc := 11) X1 (tgt := 25) dX7_missing_11 (by decide) (fun u11 => ?_) (fun u11 => ?_)
  · refine bg_aload0 (pc := 25) X1 dX7_missing_25 ?_
    refine bo_getR (pc := 26) X1 dX7_missing_26 fX7_7 (by first | assumption | rfl) rfl (by first | assumption | rfl) ?_
    refine bg_iconst (pc := 29) X1 dX7_missing_29 (by decide) ?_
    refine bo_iaload (pc := 30) X1 dX7_missing_30 (by first | assumption | rfl) (by omega) ?_
    rw [e0]
    exact bo_iret (pc := 31) X rfl dX7_missing_31 (fun hi => by
        refine ⟨?_, rfl⟩
        show _ = if ¬ kb S.2.1 ((m.toNat : Nat) : Int) = 0 then 3 * S.1 0 else S.1 0
        rw [em]
        first | rw [if_pos (by omega)] | rw [if_neg (by omega)])
  · refine bg_iconst (pc := 14) X1 dX7_missing_14 (by decide) ?_
    refine bg_aload0 (pc := 15) X1 dX7_missing_15 ?_
    refine bo_getR (pc := 16) X1 dX7_missing_16 fX7_7 (by first | assumption | rfl) rfl (by first | assumption | rfl) ?_
    refine bg_iconst (pc := 19) X1 dX7_missing_19 (by decide) ?_
    refine bo_iaload (pc := 20) X1 dX7_missing_20 (by first | assumption | rfl) (by omega) ?_
    rw [e0]
    refine bg_imul (pc := 21) X1 dX7_missing_21 (by omega) ?_
    refine bg_goto (pc := 22) X1 (tgt := 31) dX7_missing_22 (by decide) ?_
    exact bo_iret (pc := 31) X rfl dX7_missing_31 (fun hi => by
        refine ⟨?_, rfl⟩
        show _ = if ¬ kb S.2.1 ((m.toNat : Nat) : Int) = 0 then 3 * S.1 0 else S.1 0
        rw [em]
        first | rw [if_pos (by omega)] | rw [if_neg (by omega)])
theorem c_X7_keyMany {y : bg_Y} {g : bg_E} {S : bm_S} (hS : rowR (g 199) S) (ok : staOK S) : bg_Si y 0 mX7_keyMany [.inr 198] g (fun r g' => r = (bsum S.2.1.toNat 26 : Int) ∧ g' = g) := by
  have e5 : g 199 (5 : Int).toNat = S.2.1 := hS.2.1
  have hb : ∀ k : Nat, bsum S.2.1.toNat k ≤ k := by
    intro k
    induction k with
    | zero => exact Nat.le_refl _
    | succ k ih => rw [bsum]; omega
  refine bg_enter pnX7 (Nat.le_of_ble_eq_true rfl) (fun κ X hR hg => ?_)
  have X1 : bg_X κ y cX7_keyMany RX7 0 0 0 := X.1
  have hg : ∀ a k, R32 (g a k) := hg
  show bg_g κ y 0 [some (.inr 198), none, none] [] g
  have loop : ∀ (n k : Nat), k + n = 26 → bg_g κ y 4 [some (.inr 198), some (.inl (bsum S.2.1.toNat k : Int)), some (.inl (k : Int))] [] g := by
    intro n
    induction n with
    | zero =>
      intro k hk
      obtain rfl : k = 26 := by omega
      refine bg_iload2 (pc := 4) X1 dX7_keyMany_4 ?_
      refine bg_bipush (pc := 5) X1 dX7_keyMany_5 rfl (by decide) ?_
      refine bg_icmp_ge (pc := 7) X1 (tgt := 29) dX7_keyMany_7 (by decide) (fun u7 => ?_) (fun u7 => ?_)
      · refine bg_iload1 (pc := 29) X1 dX7_keyMany_29 ?_
        exact bo_iret (pc := 30) X rfl dX7_keyMany_30 (fun hi => ⟨by first | rfl | omega, rfl⟩)
      · exfalso; omega
    | succ n ih =>
      intro k hk
      have h1 := hb k
      have h2 := kb_nat ok.2.2.2.2.2.1 (m := (k : Int)) ⟨by omega, by omega⟩
      have h3 := kb_01 ok.2.2.2.2.2.1 (m := (k : Int)) ⟨by omega, by omega⟩
      rw [Int.toNat_natCast] at h2
      refine bg_iload2 (pc := 4) X1 dX7_keyMany_4 ?_
      refine bg_bipush (pc := 5) X1 dX7_keyMany_5 rfl (by decide) ?_
      refine bg_icmp_ge (pc := 7) X1 (tgt := 29) dX7_keyMany_7 (by decide) (fun u7 => ?_) (fun u7 => ?_)
      · exfalso; omega
      · refine bg_iload1 (pc := 10) X1 dX7_keyMany_10 ?_
        refine bg_aload0 (pc := 11) X1 dX7_keyMany_11 ?_
        refine bo_getR (pc := 12) X1 dX7_keyMany_12 fX7_7 (by first | assumption | rfl) rfl (by first | assumption | rfl) ?_
        refine bg_iconst (pc := 15) X1 dX7_keyMany_15 (by decide) ?_
        refine bo_iaload (pc := 16) X1 dX7_keyMany_16 (by first | assumption | rfl) (by omega) ?_
        rw [e5]
        refine bg_iload2 (pc := 17) X1 dX7_keyMany_17 ?_
        refine bg_ishr (pc := 18) X1 dX7_keyMany_18 ?_
        refine bg_iconst (pc := 19) X1 dX7_keyMany_19 (by decide) ?_
        refine bg_iand (pc := 20) X1 dX7_keyMany_20 ?_
        change bg_g κ y _ _ [.inl (kb S.2.1 k), .inl (bsum S.2.1.toNat k : Int)] g
        refine bg_iadd (pc := 21) X1 dX7_keyMany_21 (by omega) ?_
        refine bg_istore1 (pc := 22) X1 dX7_keyMany_22 ?_
        refine bg_iinc2 (pc := 23) X1 dX7_keyMany_23 (by omega) ?_
        refine bg_goto (pc := 26) X1 (tgt := 4) dX7_keyMany_26 (by decide) ?_
        have e : (bsum S.2.1.toNat k : Int) + kb S.2.1 k = (bsum S.2.1.toNat (k + 1) : Int) := by rw [h2, bsum]; omega
        rw [e]
        exact ih (k + 1) (by omega)
  refine bg_iconst (pc := 0) X1 dX7_keyMany_0 (by decide) ?_
  refine bg_istore1 (pc := 1) X1 dX7_keyMany_1 ?_
  refine bg_iconst (pc := 2) X1 dX7_keyMany_2 (by decide) ?_
  refine bg_istore2 (pc := 3) X1 dX7_keyMany_3 ?_
  exact loop 26 0 rfl
