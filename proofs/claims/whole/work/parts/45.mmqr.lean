/-! the model's calls about the matching -/
theorem frR.m {g g' : bg_E} (h : frR 206 207 g g') : mres g g' := fun x j hx => by rw [h x (by omega)]
theorem mfr6.m {g g' : bg_E} (h : mfr6 g g') : mres g g' := fun x j hx => h x j (by omega) (by omega)
theorem TT_at {P : bm_P} {i : Nat} {e : bm_T} (h : (TT P)[i]? = some e) : ∃ k : Nat, k < 24 ∧ HT P k ∧ e = ((k : Int), TH P k, RS P k) := by
  have h2 := List.mem_of_getElem? h
  unfold TT TTn at h2
  obtain ⟨k, h4, h5⟩ := List.mem_map.mp h2
  obtain ⟨h6, h7⟩ := List.mem_filter.mp h4
  exact ⟨k, List.mem_range.mp h6, of_decide_eq_true h7, h5.symm⟩
theorem c_X7_cost {y : bg_Y} {g : bg_E} {a b w : Int} {Z : bm_X} (hM : modR g Z) (ok : okX Z) : bg_Si y 6 mX7_cost [.inr 198, .inl a, .inl b, .inl w] g (fun r g' => r = xCost Z a b w ∧ modR g' Z ∧ frR 198 214 g g') := by
  refine bg_enter pnX7 (Nat.le_of_ble_eq_true rfl) (fun κ X hR hg => ?_)
  have X1 : bg_X κ y cX7_cost RX7 6 0 0 := X.1
  have hg : ∀ a k, R32 (g a k) := hg
  show bg_g κ y 0 [some (.inr 198), some (.inl a), some (.inl b), some (.inl w)] [] g
  refine bg_iload1 (pc := 0) X1 dX7_cost_0 ?_
  refine bg_iload2 (pc := 1) X1 dX7_cost_1 ?_
  refine bo_S2i (pc := 2) X1 (c_X7_areTwo) sX7_areTwo lX7_175 rfl (by decide) dX7_cost_2 (by exact Nat.le_of_ble_eq_true rfl) ?_
  rintro _ _ ⟨h9, h8⟩
  obtain rfl := h9.symm
  obtain rfl := h8.symm
  clear h9 h8
  refine bo_ifeq_b (pc := 5) X1 (tgt := 26) dX7_cost_5 (by decide) (fun u5 => ?_) (fun u5 => ?_)
  · refine bg_ldc (pc := 26) X1 dX7_cost_26 kX7_87 (by decide) ?_
    exact bo_iret (pc := 28) X rfl dX7_cost_28 (fun hi => by
        unfold xCost
        first
        | (rw [if_pos (show arePa a b ∧ (w = 0 ∨ w = 1) from ⟨u5, by omega⟩)]; exact ⟨x1, hM.R x3.m⟩)
        | (rw [if_neg (by omega)]; exact ⟨rfl, hM, frR.rf⟩))
  · refine bg_iload3 (pc := 8) X1 dX7_cost_8 ?_
    refine bg_iconst (pc := 9) X1 dX7_cost_9 (by decide) ?_
    refine bg_iconst (pc := 10) X1 dX7_cost_10 (by decide) ?_
    refine bo_S3i (pc := 11) X1 (c_X7_in) sX7_in lX7_59 rfl (by decide) dX7_cost_11 (by exact Nat.le_of_ble_eq_true rfl) ?_
    rintro _ _ ⟨h9, h8⟩
    obtain rfl := h9.symm
    obtain rfl := h8.symm
    clear h9 h8
    refine bo_ifeq_b (pc := 14) X1 (tgt := 26) dX7_cost_14 (by decide) (fun u14 => ?_) (fun u14 => ?_)
    · refine bg_ldc (pc := 26) X1 dX7_cost_26 kX7_87 (by decide) ?_
      exact bo_iret (pc := 28) X rfl dX7_cost_28 (fun hi => by
          unfold xCost
          first
          | (rw [if_pos (show arePa a b ∧ (w = 0 ∨ w = 1) from ⟨u5, by omega⟩)]; exact ⟨x1, hM.R x3.m⟩)
          | (rw [if_neg (by omega)]; exact ⟨rfl, hM, frR.rf⟩))
    · refine bg_aload0 (pc := 17) X1 dX7_cost_17 ?_
      refine bg_iload1 (pc := 18) X1 dX7_cost_18 ?_
      refine bg_iload2 (pc := 19) X1 dX7_cost_19 ?_
      refine bo_V2i (pc := 20) X1 (c_X7_fills hM.1 ok.1 u5.1 u5.2.1) vX7_fills lX7_163 rfl (by first | assumption | rfl) (by decide) dX7_cost_20 (by exact Nat.le_of_ble_eq_true rfl) ?_
      rintro r20 g1 ⟨x1, x2, x3⟩
      refine bg_goto (pc := 23) X1 (tgt := 28) dX7_cost_23 (by decide) ?_
      exact bo_iret (pc := 28) X rfl dX7_cost_28 (fun hi => by
          unfold xCost
          first
          | (rw [if_pos (show arePa a b ∧ (w = 0 ∨ w = 1) from ⟨u5, by omega⟩)]; exact ⟨x1, hM.R x3.m⟩)
          | (rw [if_neg (by omega)]; exact ⟨rfl, hM, frR.rf⟩))
theorem c_X7_why {y : bg_Y} {g : bg_E} {a b s k : Int} {Z : bm_X} (hM : modR g Z) (ok : okX Z) : bg_Si y 6 mX7_why [.inr 198, .inl a, .inl b, .inl s, .inl k] g (fun r g' => r = xWhy Z a b s k ∧ modR g' Z ∧ frR 198 214 g g') := by
  refine bg_enter pnX7 (Nat.le_of_ble_eq_true rfl) (fun κ X hR hg => ?_)
  have X1 : bg_X κ y cX7_why RX7 6 0 0 := X.1
  have hg : ∀ a k, R32 (g a k) := hg
  show bg_g κ y 0 [some (.inr 198), some (.inl a), some (.inl b), some (.inl s), some (.inl k)] [] g
  refine bg_aload0 (pc := 0) X1 dX7_why_0 ?_
  refine bg_iload1 (pc := 1) X1 dX7_why_1 ?_
  refine bg_iload2 (pc := 2) X1 dX7_why_2 ?_
  refine bg_iload3 (pc := 3) X1 dX7_why_3 ?_
  refine bg_iload4 (pc := 4) X1 dX7_why_4 ?_
  refine bo_V4i (pc := 6) X1 (c_X7_isOne hM.1) vX7_isOne lX7_178 rfl (by first | assumption | rfl) (by decide) dX7_why_6 (by exact Nat.le_of_ble_eq_true rfl) ?_
  rintro _ _ ⟨h9, h8⟩
  obtain rfl := h9.symm
  obtain rfl := h8.symm
  clear h9 h8
  refine bo_ifne_b (pc := 9) X1 (tgt := 15) dX7_why_9 (by decide) (fun u9 => ?_) (fun u9 => ?_)
  · have hk24 := on_go ok u9
    have hk := u9.2.2
    refine bg_aload0 (pc := 15) X1 dX7_why_15 ?_
    refine bg_iload1 (pc := 16) X1 dX7_why_16 ?_
    refine bg_iload2 (pc := 17) X1 dX7_why_17 ?_
    refine bo_V2v (pc := 18) X1 (c_X7_matches hM.1 ok.1 u9.1.1 u9.1.2.1) vX7_matches lX7_182 rfl (by first | assumption | rfl) (by decide) dX7_why_18 (by exact Nat.le_of_ble_eq_true rfl) ?_
    rintro g1 ⟨⟨x1, x2, x3⟩, x4⟩
    refine bg_iload3 (pc := 21) X1 dX7_why_21 ?_
    refine bg_if_ne (pc := 22) X1 (tgt := 35) dX7_why_22 (by decide) (fun u22 => ?_) (fun u22 => ?_)
    · refine bg_aload0 (pc := 35) X1 dX7_why_35 ?_
      refine bo_getR (pc := 36) X1 dX7_why_36 fX7_37 (by first | assumption | rfl) rfl (by first | assumption | rfl) ?_
      refine bg_iload4 (pc := 39) X1 dX7_why_39 ?_
      refine bo_iaload (pc := 41) X1 dX7_why_41 (by first | assumption | rfl) (by omega) ?_
      exact bo_iret (pc := 42) X rfl dX7_why_42 (fun hi => by
          unfold xWhy
          rw [if_pos u9]
          first
          | (rw [if_pos u22] at hk ⊢; exact ⟨(x1.1 k.toNat (show k.toNat < (sq Z.1 a).length by have : k < ((sq Z.1 a).length : Int) := hk.2; omega)).1, hM.R x4.m⟩)
          | (rw [if_neg u22] at hk ⊢; exact ⟨(x1.2 k.toNat (show k.toNat < (sq Z.1 b).length by have : k < ((sq Z.1 b).length : Int) := hk.2; omega)).1, hM.R x4.m⟩))
    · refine bg_aload0 (pc := 25) X1 dX7_why_25 ?_
      refine bo_getR (pc := 26) X1 dX7_why_26 fX7_34 (by first | assumption | rfl) rfl (by first | assumption | rfl) ?_
      refine bg_iload4 (pc := 29) X1 dX7_why_29 ?_
      refine bo_iaload (pc := 31) X1 dX7_why_31 (by first | assumption | rfl) (by omega) ?_
      refine bg_goto (pc := 32) X1 (tgt := 42) dX7_why_32 (by decide) ?_
      exact bo_iret (pc := 42) X rfl dX7_why_42 (fun hi => by
          unfold xWhy
          rw [if_pos u9]
          first
          | (rw [if_pos u22] at hk ⊢; exact ⟨(x1.1 k.toNat (show k.toNat < (sq Z.1 a).length by have : k < ((sq Z.1 a).length : Int) := hk.2; omega)).1, hM.R x4.m⟩)
          | (rw [if_neg u22] at hk ⊢; exact ⟨(x1.2 k.toNat (show k.toNat < (sq Z.1 b).length by have : k < ((sq Z.1 b).length : Int) := hk.2; omega)).1, hM.R x4.m⟩))
  · refine bg_ldc (pc := 12) X1 dX7_why_12 kX7_87 (by decide) ?_
    exact bo_iret (pc := 14) X rfl dX7_why_14 (fun hi => by unfold xWhy; rw [if_neg u9]; exact ⟨rfl, hM, frR.rf⟩)
theorem c_X7_partner {y : bg_Y} {g : bg_E} {a b s k : Int} {Z : bm_X} (hM : modR g Z) (ok : okX Z) : bg_Si y 6 mX7_partner [.inr 198, .inl a, .inl b, .inl s, .inl k] g (fun r g' => r = xPartner Z a b s k ∧ modR g' Z ∧ frR 198 214 g g') := by
  refine bg_enter pnX7 (Nat.le_of_ble_eq_true rfl) (fun κ X hR hg => ?_)
  have X1 : bg_X κ y cX7_partner RX7 6 0 0 := X.1
  have hg : ∀ a k, R32 (g a k) := hg
  show bg_g κ y 0 [some (.inr 198), some (.inl a), some (.inl b), some (.inl s), some (.inl k), none] [] g
  have fin : ∀ (v : Int) (g1 : bg_E), isOn Z a b s k → v = (if s = 0 then PA (mP Z a b) k.toNat else PB (mP Z a b) k.toNat) → modR g1 Z ∧ frR 198 214 g g1 → bg_g κ y 42 [some (.inr 198), some (.inl a), some (.inl b), some (.inl s), some (.inl k), none] [.inl v] g1 := by
    intro v g1 hon hv h1
    refine bg_istore5 (pc := 42) X1 dX7_partner_42 ?_
    refine bg_iload5 (pc := 44) X1 dX7_partner_44 ?_
    refine bg_if_ge (pc := 46) X1 (tgt := 54) dX7_partner_46 (by decide) (fun u46 => ?_) (fun u46 => ?_)
    · refine bg_iload5 (pc := 54) X1 dX7_partner_54 ?_
      exact bo_iret (pc := 56) X rfl dX7_partner_56 (fun hi => by
          unfold xPartner
          rw [if_pos hon, ← hv]
          unfold nn
          first
          | (rw [if_neg (by omega)]; exact ⟨rfl, h1⟩)
          | (rw [if_pos (by omega)]; exact ⟨rfl, h1⟩))
    · refine bg_ldc (pc := 49) X1 dX7_partner_49 kX7_148 (by decide) ?_
      refine bg_goto (pc := 51) X1 (tgt := 56) dX7_partner_51 (by decide) ?_
      exact bo_iret (pc := 56) X rfl dX7_partner_56 (fun hi => by
          unfold xPartner
          rw [if_pos hon, ← hv]
          unfold nn
          first
          | (rw [if_neg (by omega)]; exact ⟨rfl, h1⟩)
          | (rw [if_pos (by omega)]; exact ⟨rfl, h1⟩))
  refine bg_aload0 (pc := 0) X1 dX7_partner_0 ?_
  refine bg_iload1 (pc := 1) X1 dX7_partner_1 ?_
  refine bg_iload2 (pc := 2) X1 dX7_partner_2 ?_
  refine bg_iload3 (pc := 3) X1 dX7_partner_3 ?_
  refine bg_iload4 (pc := 4) X1 dX7_partner_4 ?_
  refine bo_V4i (pc := 6) X1 (c_X7_isOne hM.1) vX7_isOne lX7_178 rfl (by first | assumption | rfl) (by decide) dX7_partner_6 (by exact Nat.le_of_ble_eq_true rfl) ?_
  rintro _ _ ⟨h9, h8⟩
  obtain rfl := h9.symm
  obtain rfl := h8.symm
  clear h9 h8
  refine bo_ifne_b (pc := 9) X1 (tgt := 15) dX7_partner_9 (by decide) (fun u9 => ?_) (fun u9 => ?_)
  · have hk24 := on_go ok u9
    have hk := u9.2.2
    refine bg_aload0 (pc := 15) X1 dX7_partner_15 ?_
    refine bg_iload1 (pc := 16) X1 dX7_partner_16 ?_
    refine bg_iload2 (pc := 17) X1 dX7_partner_17 ?_
    refine bo_V2v (pc := 18) X1 (c_X7_matches hM.1 ok.1 u9.1.1 u9.1.2.1) vX7_matches lX7_182 rfl (by first | assumption | rfl) (by decide) dX7_partner_18 (by exact Nat.le_of_ble_eq_true rfl) ?_
    rintro g1 ⟨⟨x1, x2, x3⟩, x4⟩
    refine bg_iload3 (pc := 21) X1 dX7_partner_21 ?_
    refine bg_if_ne (pc := 22) X1 (tgt := 35) dX7_partner_22 (by decide) (fun u22 => ?_) (fun u22 => ?_)
    · refine bg_aload0 (pc := 35) X1 dX7_partner_35 ?_
      refine bo_getR (pc := 36) X1 dX7_partner_36 fX7_43 (by first | assumption | rfl) rfl (by first | assumption | rfl) ?_
      refine bg_iload4 (pc := 39) X1 dX7_partner_39 ?_
      refine bo_iaload (pc := 41) X1 dX7_partner_41 (by first | assumption | rfl) (by omega) ?_
      first
      | (rw [if_pos u22] at hk; exact fin _ _ u9 (by rw [if_pos u22]; exact (x1.1 k.toNat (show k.toNat < (sq Z.1 a).length by have : k < ((sq Z.1 a).length : Int) := hk.2; omega)).2) (hM.R x4.m))
      | (rw [if_neg u22] at hk; exact fin _ _ u9 (by rw [if_neg u22]; exact (x1.2 k.toNat (show k.toNat < (sq Z.1 b).length by have : k < ((sq Z.1 b).length : Int) := hk.2; omega)).2) (hM.R x4.m))
    · refine bg_aload0 (pc := 25) X1 dX7_partner_25 ?_
      refine bo_getR (pc := 26) X1 dX7_partner_26 fX7_40 (by first | assumption | rfl) rfl (by first | assumption | rfl) ?_
      refine bg_iload4 (pc := 29) X1 dX7_partner_29 ?_
      refine bo_iaload (pc := 31) X1 dX7_partner_31 (by first | assumption | rfl) (by omega) ?_
      refine bg_goto (pc := 32) X1 (tgt := 42) dX7_partner_32 (by decide) ?_
      first
      | (rw [if_pos u22] at hk; exact fin _ _ u9 (by rw [if_pos u22]; exact (x1.1 k.toNat (show k.toNat < (sq Z.1 a).length by have : k < ((sq Z.1 a).length : Int) := hk.2; omega)).2) (hM.R x4.m))
      | (rw [if_neg u22] at hk; exact fin _ _ u9 (by rw [if_neg u22]; exact (x1.2 k.toNat (show k.toNat < (sq Z.1 b).length by have : k < ((sq Z.1 b).length : Int) := hk.2; omega)).2) (hM.R x4.m))
  · refine bg_ldc (pc := 12) X1 dX7_partner_12 kX7_87 (by decide) ?_
    exact bo_iret (pc := 14) X rfl dX7_partner_14 (fun hi => by unfold xPartner; rw [if_neg u9]; exact ⟨rfl, hM, frR.rf⟩)
theorem c_X7_isFault {y : bg_Y} {g : bg_E} {k : Nat} {e : bm_T} {P : bm_P} {S : bm_S} (hS : rowR (g 199) S) (okP1 : okP P) (hT : thrM g (TT P)) (he : (TT P)[k]? = some e) : bg_Si y 0 mX7_isFault [.inr 198, .inl (k : Int)] g (fun r g' => r = b2i (fF (S.1 4) e = true) ∧ g' = g) := by
  obtain ⟨k1, h1, h2, h3⟩ := TT_at he
  have h4 := (hT.2 k e he).2.1
  have h5 := TH_R okP1 h2
  have h6 : e.2.1 = TH P k1 := by rw [h3]
  have hk := (List.getElem?_eq_some_iff.mp he).1
  have hl : (TT P).length ≤ 24 := TTn_len P 24
  have e4 : g 199 (4 : Int).toNat = S.1 4 := hS.1 4 (by omega)
  have hF : ∀ c : Bool, (c = true ↔ S.1 4 ≤ (e.2.1.natAbs : Int)) → fF (S.1 4) e = c := fun c h => by
    unfold fF
    cases c with
    | true => exact decide_eq_true (h.mp rfl)
    | false => exact decide_eq_false (fun h9 => absurd (h.mpr h9) (by decide))
  refine bg_enter pnX7 (Nat.le_of_ble_eq_true rfl) (fun κ X hR hg => ?_)
  have X1 : bg_X κ y cX7_isFault RX7 0 0 0 := X.1
  have hg : ∀ a k, R32 (g a k) := hg
  show bg_g κ y 0 [some (.inr 198), some (.inl (k : Int)), none] [] g
  refine bg_aload0 (pc := 0) X1 dX7_isFault_0 ?_
  refine bo_getR (pc := 1) X1 dX7_isFault_1 fX7_46 (by first | assumption | rfl) rfl (by first | assumption | rfl) ?_
  refine bg_iconst (pc := 4) X1 dX7_isFault_4 (by decide) ?_
  refine bg_iload1 (pc := 5) X1 dX7_isFault_5 ?_
  refine bg_imul (pc := 6) X1 dX7_isFault_6 (by omega) ?_
  refine bg_iconst (pc := 7) X1 dX7_isFault_7 (by decide) ?_
  refine bg_iadd (pc := 8) X1 dX7_isFault_8 (by omega) ?_
  refine bo_iaload (pc := 9) X1 dX7_isFault_9 (by first | assumption | rfl) (by omega) ?_
  rw [show (3 * (k : Int) + 1).toNat = 3 * k + 1 by omega, h4]
  refine bg_istore2 (pc := 10) X1 dX7_isFault_10 ?_
  refine bg_iload2 (pc := 11) X1 dX7_isFault_11 ?_
  refine bg_if_ge (pc := 12) X1 (tgt := 20) dX7_isFault_12 (by decide) (fun u12 => ?_) (fun u12 => ?_)
  · refine bg_iload2 (pc := 20) X1 dX7_isFault_20 ?_
    refine bg_aload0 (pc := 21) X1 dX7_isFault_21 ?_
    refine bo_getR (pc := 22) X1 dX7_isFault_22 fX7_7 (by first | assumption | rfl) rfl (by first | assumption | rfl) ?_
    refine bg_iconst (pc := 25) X1 dX7_isFault_25 (by decide) ?_
    refine bo_iaload (pc := 26) X1 dX7_isFault_26 (by first | assumption | rfl) (by omega) ?_
    rw [e4]
    refine bg_icmp_lt (pc := 27) X1 (tgt := 34) dX7_isFault_27 (by decide) (fun u27 => ?_) (fun u27 => ?_)
    · refine bg_iconst (pc := 34) X1 dX7_isFault_34 (by decide) ?_
      exact bo_zret (pc := 35) X rfl (by first | exact Or.inl rfl | exact Or.inr rfl | exact b2i_01 _) dX7_isFault_35 (⟨by first | exact (b2i_t (hF true ⟨fun _ => by omega, fun _ => rfl⟩)).symm | exact (b2i_f (by rw [hF false ⟨fun h9 => absurd h9 (by decide), fun h9 => absurd h9 (by omega)⟩]; decide)).symm, rfl⟩)
    · refine bg_iconst (pc := 30) X1 dX7_isFault_30 (by decide) ?_
      refine bg_goto (pc := 31) X1 (tgt := 35) dX7_isFault_31 (by decide) ?_
      exact bo_zret (pc := 35) X rfl (by first | exact Or.inl rfl | exact Or.inr rfl | exact b2i_01 _) dX7_isFault_35 (⟨by first | exact (b2i_t (hF true ⟨fun _ => by omega, fun _ => rfl⟩)).symm | exact (b2i_f (by rw [hF false ⟨fun h9 => absurd h9 (by decide), fun h9 => absurd h9 (by omega)⟩]; decide)).symm, rfl⟩)
  · refine bg_iload2 (pc := 15) X1 dX7_isFault_15 ?_
    refine bg_ineg (pc := 16) X1 dX7_isFault_16 (by omega) ?_
    refine bg_goto (pc := 17) X1 (tgt := 21) dX7_isFault_17 (by decide) ?_
    refine bg_aload0 (pc := 21) X1 dX7_isFault_21 ?_
    refine bo_getR (pc := 22) X1 dX7_isFault_22 fX7_7 (by first | assumption | rfl) rfl (by first | assumption | rfl) ?_
    refine bg_iconst (pc := 25) X1 dX7_isFault_25 (by decide) ?_
    refine bo_iaload (pc := 26) X1 dX7_isFault_26 (by first | assumption | rfl) (by omega) ?_
    rw [e4]
    refine bg_icmp_lt (pc := 27) X1 (tgt := 34) dX7_isFault_27 (by decide) (fun u27 => ?_) (fun u27 => ?_)
    · refine bg_iconst (pc := 34) X1 dX7_isFault_34 (by decide) ?_
      exact bo_zret (pc := 35) X rfl (by first | exact Or.inl rfl | exact Or.inr rfl | exact b2i_01 _) dX7_isFault_35 (⟨by first | exact (b2i_t (hF true ⟨fun _ => by omega, fun _ => rfl⟩)).symm | exact (b2i_f (by rw [hF false ⟨fun h9 => absurd h9 (by decide), fun h9 => absurd h9 (by omega)⟩]; decide)).symm, rfl⟩)
    · refine bg_iconst (pc := 30) X1 dX7_isFault_30 (by decide) ?_
      refine bg_goto (pc := 31) X1 (tgt := 35) dX7_isFault_31 (by decide) ?_
      exact bo_zret (pc := 35) X rfl (by first | exact Or.inl rfl | exact Or.inr rfl | exact b2i_01 _) dX7_isFault_35 (⟨by first | exact (b2i_t (hF true ⟨fun _ => by omega, fun _ => rfl⟩)).symm | exact (b2i_f (by rw [hF false ⟨fun h9 => absurd h9 (by decide), fun h9 => absurd h9 (by omega)⟩]; decide)).symm, rfl⟩)
/-- the first n of a list, filtered -/
theorem take_f {T : List bm_T} {k : Nat} {e : bm_T} (f : bm_T → Bool) (h : T[k]? = some e) : (T.take (k + 1)).filter f = (T.take k).filter f ++ (if f e = true then [e] else []) := by
  rw [List.take_add_one, h, Option.toList_some, List.filter_append]
  congr 1
  rw [List.filter_cons]
  split <;> rfl
theorem take_p {T : List bm_T} {k : Nat} {e : bm_T} (h : T[k]? = some e) : T.take (k + 1) = T.take k ++ [e] := by
  rw [List.take_add_one, h, Option.toList_some]
theorem drop_f {T : List bm_T} {k : Nat} {e : bm_T} (f : bm_T → Bool) (h : T[k]? = some e) : (T.drop k).filter f = (if f e = true then [e] else []) ++ (T.drop (k + 1)).filter f := by
  obtain ⟨h1, h2⟩ := List.getElem?_eq_some_iff.mp h
  rw [List.drop_eq_getElem_cons h1, h2, List.filter_cons]
  split <;> rfl
theorem FB_5 {P : bm_P} (h : okP P) (k : Nat) : ¬ FB P k = 5 := by
  obtain ⟨-, -, h3, h4⟩ := wE_I h
  rcases Nat.lt_or_ge k (pB P).length with h5 | h5
  · have := h3 k h5; omega
  · have := h4 k h5; omega
theorem c_X7_matched {y : bg_Y} {g : bg_E} {a b w : Int} {Z : bm_X} (hM : modR g Z) (ok : okX Z) : bg_Si y 6 mX7_matched [.inr 198, .inl a, .inl b, .inl w] g (fun r g' => r = xMatched Z a b w ∧ modR g' Z ∧ frR 198 214 g g') := by
  refine bg_enter pnX7 (Nat.le_of_ble_eq_true rfl) (fun κ X hR hg => ?_)
  have X1 : bg_X κ y cX7_matched RX7 6 0 0 := X.1
  have hg : ∀ a k, R32 (g a k) := hg
  show bg_g κ y 0 [some (.inr 198), some (.inl a), some (.inl b), some (.inl w), none, none] [] g
  have l2 : ∀ (g1 : bg_E) (n k : Nat) (n0 r : Int), arePa a b → (1 ≤ w ∧ w ≤ 5) → matM g1 (mP Z a b) → modR g1 Z ∧ frR 198 214 g g1 → (0 ≤ n0 ∧ n0 ≤ 24 ∧ n0 = (if w = 5 then ((fl Z a b).length : Int) else 0)) → k + n = 24 → r = n0 + cntF (if w = 2 then FA (mP Z a b) else FB (mP Z a b)) w k → bg_g κ y 74 [some (.inr 198), some (.inl a), some (.inl b), some (.inl w), some (.inl r), some (.inl (k : Int))] [] g1 := by
    intro g1 n
    induction n with
    | zero =>
      intro k n0 r p1 hw hMM h1 hn0 hk hr
      obtain rfl : k = 24 := by omega
      have okP1 : okP (mP Z a b) := mkP_ok ok.1 (by omega) (by omega)
      refine bg_iload5 (pc := 74) X1 dX7_matched_74 ?_
      refine bg_bipush (pc := 76) X1 dX7_matched_76 rfl (by decide) ?_
      refine bg_icmp_ge (pc := 78) X1 (tgt := 167) dX7_matched_78 (by decide) (fun u78 => ?_) (fun u78 => ?_)
      · refine bg_iload4 (pc := 167) X1 dX7_matched_167 ?_
        exact bo_iret (pc := 169) X rfl dX7_matched_169 (fun hi => by
            unfold xMatched
            rw [if_pos (show arePa a b ∧ 1 ≤ w ∧ w ≤ 5 from ⟨p1, hw⟩)]
            refine ⟨?_, h1⟩
            have hc : w = 1 ∨ w = 2 ∨ w = 5 ∨ (¬ w = 1 ∧ ¬ w = 2 ∧ ¬ w = 5) := by omega
            rcases hc with rfl | rfl | rfl | hc
            · rw [if_neg (by decide), if_pos (Or.inl rfl)]
              rw [if_neg (by decide)] at hr hn0
              rw [cnt_11 okP1]; omega
            · rw [if_neg (by decide), if_pos (Or.inr rfl)]
              rw [if_pos rfl] at hr
              rw [if_neg (by decide)] at hn0
              omega
            · rw [if_pos rfl]
              rw [if_neg (by decide)] at hr
              rw [if_pos rfl] at hn0
              have h0 := cntF_0 (f := FB (mP Z a b)) (v := 5) (m := 0) 24 (fun k _ => FB_5 okP1 k)
              rw [show 0 + 24 = 24 from rfl] at h0
              rw [h0] at hr
              have h00 : cntF (FB (mP Z a b)) 5 0 = 0 := rfl
              omega
            · rw [if_neg hc.2.2, if_neg (by omega)]
              rw [if_neg hc.2.1] at hr
              rw [if_neg hc.2.2] at hn0
              omega)
      · exfalso; omega
    | succ n ih =>
      intro k n0 r p1 hw hMM h1 hn0 hk hr
      have okP1 : okP (mP Z a b) := mkP_ok ok.1 (by omega) (by omega)
      have hS := h1.1.1
      obtain ⟨x1, -, -⟩ := id hMM
      obtain ⟨q1, q2, q3, q4⟩ := wE_I okP1
      have lA : (pA (mP Z a b)).length = (sq Z.1 a).length := rfl
      have lB : (pB (mP Z a b)).length = (sq Z.1 b).length := rfl
      have cr := cntF_R (if w = 2 then FA (mP Z a b) else FB (mP Z a b)) w k
      have cs : cntF (if w = 2 then FA (mP Z a b) else FB (mP Z a b)) w (k + 1) = cntF (if w = 2 then FA (mP Z a b) else FB (mP Z a b)) w k + (if (if w = 2 then FA (mP Z a b) else FB (mP Z a b)) k = w then 1 else 0) := rfl
      have vA : ∀ h : k < (sq Z.1 a).length, g1 207 ((k : Int)).toNat = FA (mP Z a b) k := fun h => (x1.1 k (by rw [lA]; exact h)).1
      have vB : ∀ h : k < (sq Z.1 b).length, g1 208 ((k : Int)).toNat = FB (mP Z a b) k := fun h => (x1.2 k (by rw [lB]; exact h)).1
      have zA : ¬ k < (sq Z.1 a).length → FA (mP Z a b) k = 0 := fun h => (q2 k (by rw [lA]; omega)).1
      have zB : ¬ k < (sq Z.1 b).length → FB (mP Z a b) k = 0 := fun h => (q4 k (by rw [lB]; omega)).1
      refine bg_iload5 (pc := 74) X1 dX7_matched_74 ?_
      refine bg_bipush (pc := 76) X1 dX7_matched_76 rfl (by decide) ?_
      refine bg_icmp_ge (pc := 78) X1 (tgt := 167) dX7_matched_78 (by decide) (fun u78 => ?_) (fun u78 => ?_)
      · exfalso; omega
      · refine bg_iload4 (pc := 81) X1 dX7_matched_81 ?_
        refine bg_iload3 (pc := 83) X1 dX7_matched_83 ?_
        refine bg_iconst (pc := 84) X1 dX7_matched_84 (by decide) ?_
        refine bg_icmp_ne (pc := 85) X1 (tgt := 117) dX7_matched_85 (by decide) (fun u85 => ?_) (fun u85 => ?_)
        · refine bg_iconst (pc := 117) X1 dX7_matched_117 (by decide) ?_
          refine bg_iadd (pc := 118) X1 dX7_matched_118 (by omega) ?_
          refine bg_istore4 (pc := 119) X1 dX7_matched_119 ?_
          refine bg_iload4 (pc := 121) X1 dX7_matched_121 ?_
          refine bg_iload3 (pc := 123) X1 dX7_matched_123 ?_
          refine bg_iconst (pc := 124) X1 dX7_matched_124 (by decide) ?_
          refine bg_icmp_eq (pc := 125) X1 (tgt := 157) dX7_matched_125 (by decide) (fun u125 => ?_) (fun u125 => ?_)
          · refine bg_iconst (pc := 157) X1 dX7_matched_157 (by decide) ?_
            refine bg_iadd (pc := 158) X1 dX7_matched_158 (by omega) ?_
            refine bg_istore4 (pc := 159) X1 dX7_matched_159 ?_
            refine bg_iinc5 (pc := 161) X1 dX7_matched_161 (by omega) ?_
            refine bg_goto (pc := 164) X1 (tgt := 74) dX7_matched_164 (by decide) ?_
            first
            | (exfalso; omega)
            | (refine ih (k + 1) n0 _ p1 hw hMM h1 hn0 (by omega) ?_
               rw [cs, hr]
               first
               | (rw [if_pos (show w = 2 by omega)]
                  first
                  | (rw [if_pos (by omega)]; omega)
                  | (rw [if_neg (by first | omega | (intro h9; have := zA (by omega); omega))]; omega))
               | (rw [if_neg (show ¬ w = 2 by omega)]
                  first
                  | (rw [if_pos (by omega)]; omega)
                  | (rw [if_neg (by first | omega | (intro h9; have := zB (by omega); omega))]; omega)))
          · refine bg_iload5 (pc := 128) X1 dX7_matched_128 ?_
            refine bg_aload0 (pc := 130) X1 dX7_matched_130 ?_
            refine bo_getR (pc := 131) X1 dX7_matched_131 fX7_7 (by first | assumption | rfl) rfl (by first | assumption | rfl) ?_
            refine bg_bipush (pc := 134) X1 dX7_matched_134 rfl (by decide) ?_
            refine bg_iload2 (pc := 136) X1 dX7_matched_136 ?_
            refine bg_iadd (pc := 137) X1 dX7_matched_137 (by omega) ?_
            refine bo_iaload (pc := 138) X1 dX7_matched_138 (by first | assumption | rfl) (by omega) ?_
            rw [row_len hS p1.2.1]
            refine bg_icmp_ge (pc := 139) X1 (tgt := 157) dX7_matched_139 (by decide) (fun u139 => ?_) (fun u139 => ?_)
            · refine bg_iconst (pc := 157) X1 dX7_matched_157 (by decide) ?_
              refine bg_iadd (pc := 158) X1 dX7_matched_158 (by omega) ?_
              refine bg_istore4 (pc := 159) X1 dX7_matched_159 ?_
              refine bg_iinc5 (pc := 161) X1 dX7_matched_161 (by omega) ?_
              refine bg_goto (pc := 164) X1 (tgt := 74) dX7_matched_164 (by decide) ?_
              first
              | (exfalso; omega)
              | (refine ih (k + 1) n0 _ p1 hw hMM h1 hn0 (by omega) ?_
                 rw [cs, hr]
                 first
                 | (rw [if_pos (show w = 2 by omega)]
                    first
                    | (rw [if_pos (by omega)]; omega)
                    | (rw [if_neg (by first | omega | (intro h9; have := zA (by omega); omega))]; omega))
                 | (rw [if_neg (show ¬ w = 2 by omega)]
                    first
                    | (rw [if_pos (by omega)]; omega)
                    | (rw [if_neg (by first | omega | (intro h9; have := zB (by omega); omega))]; omega)))
            · refine bg_aload0 (pc := 142) X1 dX7_matched_142 ?_
              refine bo_getR (pc := 143) X1 dX7_matched_143 fX7_37 (by first | assumption | rfl) rfl (by first | assumption | rfl) ?_
              refine bg_iload5 (pc := 146) X1 dX7_matched_146 ?_
              refine bo_iaload (pc := 148) X1 dX7_matched_148 (by first | assumption | rfl) (by omega) ?_
              rw [vB (by omega)]
              refine bg_iload3 (pc := 149) X1 dX7_matched_149 ?_
              refine bg_icmp_ne (pc := 150) X1 (tgt := 157) dX7_matched_150 (by decide) (fun u150 => ?_) (fun u150 => ?_)
              · refine bg_iconst (pc := 157) X1 dX7_matched_157 (by decide) ?_
                refine bg_iadd (pc := 158) X1 dX7_matched_158 (by omega) ?_
                refine bg_istore4 (pc := 159) X1 dX7_matched_159 ?_
                refine bg_iinc5 (pc := 161) X1 dX7_matched_161 (by omega) ?_
                refine bg_goto (pc := 164) X1 (tgt := 74) dX7_matched_164 (by decide) ?_
                first
                | (exfalso; omega)
                | (refine ih (k + 1) n0 _ p1 hw hMM h1 hn0 (by omega) ?_
                   rw [cs, hr]
                   first
                   | (rw [if_pos (show w = 2 by omega)]
                      first
                      | (rw [if_pos (by omega)]; omega)
                      | (rw [if_neg (by first | omega | (intro h9; have := zA (by omega); omega))]; omega))
                   | (rw [if_neg (show ¬ w = 2 by omega)]
                      first
                      | (rw [if_pos (by omega)]; omega)
                      | (rw [if_neg (by first | omega | (intro h9; have := zB (by omega); omega))]; omega)))
              · refine bg_iconst (pc := 153) X1 dX7_matched_153 (by decide) ?_
                refine bg_goto (pc := 154) X1 (tgt := 158) dX7_matched_154 (by decide) ?_
                refine bg_iadd (pc := 158) X1 dX7_matched_158 (by omega) ?_
                refine bg_istore4 (pc := 159) X1 dX7_matched_159 ?_
                refine bg_iinc5 (pc := 161) X1 dX7_matched_161 (by omega) ?_
                refine bg_goto (pc := 164) X1 (tgt := 74) dX7_matched_164 (by decide) ?_
                first
                | (exfalso; omega)
                | (refine ih (k + 1) n0 _ p1 hw hMM h1 hn0 (by omega) ?_
                   rw [cs, hr]
                   first
                   | (rw [if_pos (show w = 2 by omega)]
                      first
                      | (rw [if_pos (by omega)]; omega)
                      | (rw [if_neg (by first | omega | (intro h9; have := zA (by omega); omega))]; omega))
                   | (rw [if_neg (show ¬ w = 2 by omega)]
                      first
                      | (rw [if_pos (by omega)]; omega)
                      | (rw [if_neg (by first | omega | (intro h9; have := zB (by omega); omega))]; omega)))
        · refine bg_iload5 (pc := 88) X1 dX7_matched_88 ?_
          refine bg_aload0 (pc := 90) X1 dX7_matched_90 ?_
          refine bo_getR (pc := 91) X1 dX7_matched_91 fX7_7 (by first | assumption | rfl) rfl (by first | assumption | rfl) ?_
          refine bg_bipush (pc := 94) X1 dX7_matched_94 rfl (by decide) ?_
          refine bg_iload1 (pc := 96) X1 dX7_matched_96 ?_
          refine bg_iadd (pc := 97) X1 dX7_matched_97 (by omega) ?_
          refine bo_iaload (pc := 98) X1 dX7_matched_98 (by first | assumption | rfl) (by omega) ?_
          rw [row_len hS p1.1]
          refine bg_icmp_ge (pc := 99) X1 (tgt := 117) dX7_matched_99 (by decide) (fun u99 => ?_) (fun u99 => ?_)
          · refine bg_iconst (pc := 117) X1 dX7_matched_117 (by decide) ?_
            refine bg_iadd (pc := 118) X1 dX7_matched_118 (by omega) ?_
            refine bg_istore4 (pc := 119) X1 dX7_matched_119 ?_
            refine bg_iload4 (pc := 121) X1 dX7_matched_121 ?_
            refine bg_iload3 (pc := 123) X1 dX7_matched_123 ?_
            refine bg_iconst (pc := 124) X1 dX7_matched_124 (by decide) ?_
            refine bg_icmp_eq (pc := 125) X1 (tgt := 157) dX7_matched_125 (by decide) (fun u125 => ?_) (fun u125 => ?_)
            · refine bg_iconst (pc := 157) X1 dX7_matched_157 (by decide) ?_
              refine bg_iadd (pc := 158) X1 dX7_matched_158 (by omega) ?_
              refine bg_istore4 (pc := 159) X1 dX7_matched_159 ?_
              refine bg_iinc5 (pc := 161) X1 dX7_matched_161 (by omega) ?_
              refine bg_goto (pc := 164) X1 (tgt := 74) dX7_matched_164 (by decide) ?_
              first
              | (exfalso; omega)
              | (refine ih (k + 1) n0 _ p1 hw hMM h1 hn0 (by omega) ?_
                 rw [cs, hr]
                 first
                 | (rw [if_pos (show w = 2 by omega)]
                    first
                    | (rw [if_pos (by omega)]; omega)
                    | (rw [if_neg (by first | omega | (intro h9; have := zA (by omega); omega))]; omega))
                 | (rw [if_neg (show ¬ w = 2 by omega)]
                    first
                    | (rw [if_pos (by omega)]; omega)
                    | (rw [if_neg (by first | omega | (intro h9; have := zB (by omega); omega))]; omega)))
            · refine bg_iload5 (pc := 128) X1 dX7_matched_128 ?_
              refine bg_aload0 (pc := 130) X1 dX7_matched_130 ?_
              refine bo_getR (pc := 131) X1 dX7_matched_131 fX7_7 (by first | assumption | rfl) rfl (by first | assumption | rfl) ?_
              refine bg_bipush (pc := 134) X1 dX7_matched_134 rfl (by decide) ?_
              refine bg_iload2 (pc := 136) X1 dX7_matched_136 ?_
              refine bg_iadd (pc := 137) X1 dX7_matched_137 (by omega) ?_
              refine bo_iaload (pc := 138) X1 dX7_matched_138 (by first | assumption | rfl) (by omega) ?_
              rw [row_len hS p1.2.1]
              refine bg_icmp_ge (pc := 139) X1 (tgt := 157) dX7_matched_139 (by decide) (fun u139 => ?_) (fun u139 => ?_)
              · refine bg_iconst (pc := 157) X1 dX7_matched_157 (by decide) ?_
                refine bg_iadd (pc := 158) X1 dX7_matched_158 (by omega) ?_
                refine bg_istore4 (pc := 159) X1 dX7_matched_159 ?_
                refine bg_iinc5 (pc := 161) X1 dX7_matched_161 (by omega) ?_
                refine bg_goto (pc := 164) X1 (tgt := 74) dX7_matched_164 (by decide) ?_
                first
                | (exfalso; omega)
                | (refine ih (k + 1) n0 _ p1 hw hMM h1 hn0 (by omega) ?_
                   rw [cs, hr]
                   first
                   | (rw [if_pos (show w = 2 by omega)]
                      first
                      | (rw [if_pos (by omega)]; omega)
                      | (rw [if_neg (by first | omega | (intro h9; have := zA (by omega); omega))]; omega))
                   | (rw [if_neg (show ¬ w = 2 by omega)]
                      first
                      | (rw [if_pos (by omega)]; omega)
                      | (rw [if_neg (by first | omega | (intro h9; have := zB (by omega); omega))]; omega)))
              · refine bg_aload0 (pc := 142) X1 dX7_matched_142 ?_
                refine bo_getR (pc := 143) X1 dX7_matched_143 fX7_37 (by first | assumption | rfl) rfl (by first | assumption | rfl) ?_
                refine bg_iload5 (pc := 146) X1 dX7_matched_146 ?_
                refine bo_iaload (pc := 148) X1 dX7_matched_148 (by first | assumption | rfl) (by omega) ?_
                rw [vB (by omega)]
                refine bg_iload3 (pc := 149) X1 dX7_matched_149 ?_
                refine bg_icmp_ne (pc := 150) X1 (tgt := 157) dX7_matched_150 (by decide) (fun u150 => ?_) (fun u150 => ?_)
                · refine bg_iconst (pc := 157) X1 dX7_matched_157 (by decide) ?_
                  refine bg_iadd (pc := 158) X1 dX7_matched_158 (by omega) ?_
                  refine bg_istore4 (pc := 159) X1 dX7_matched_159 ?_
                  refine bg_iinc5 (pc := 161) X1 dX7_matched_161 (by omega) ?_
                  refine bg_goto (pc := 164) X1 (tgt := 74) dX7_matched_164 (by decide) ?_
                  first
                  | (exfalso; omega)
                  | (refine ih (k + 1) n0 _ p1 hw hMM h1 hn0 (by omega) ?_
                     rw [cs, hr]
                     first
                     | (rw [if_pos (show w = 2 by omega)]
                        first
                        | (rw [if_pos (by omega)]; omega)
                        | (rw [if_neg (by first | omega | (intro h9; have := zA (by omega); omega))]; omega))
                     | (rw [if_neg (show ¬ w = 2 by omega)]
                        first
                        | (rw [if_pos (by omega)]; omega)
                        | (rw [if_neg (by first | omega | (intro h9; have := zB (by omega); omega))]; omega)))
                · refine bg_iconst (pc := 153) X1 dX7_matched_153 (by decide) ?_
                  refine bg_goto (pc := 154) X1 (tgt := 158) dX7_matched_154 (by decide) ?_
                  refine bg_iadd (pc := 158) X1 dX7_matched_158 (by omega) ?_
                  refine bg_istore4 (pc := 159) X1 dX7_matched_159 ?_
                  refine bg_iinc5 (pc := 161) X1 dX7_matched_161 (by omega) ?_
                  refine bg_goto (pc := 164) X1 (tgt := 74) dX7_matched_164 (by decide) ?_
                  first
                  | (exfalso; omega)
                  | (refine ih (k + 1) n0 _ p1 hw hMM h1 hn0 (by omega) ?_
                     rw [cs, hr]
                     first
                     | (rw [if_pos (show w = 2 by omega)]
                        first
                        | (rw [if_pos (by omega)]; omega)
                        | (rw [if_neg (by first | omega | (intro h9; have := zA (by omega); omega))]; omega))
                     | (rw [if_neg (show ¬ w = 2 by omega)]
                        first
                        | (rw [if_pos (by omega)]; omega)
                        | (rw [if_neg (by first | omega | (intro h9; have := zB (by omega); omega))]; omega)))
          · refine bg_aload0 (pc := 102) X1 dX7_matched_102 ?_
            refine bo_getR (pc := 103) X1 dX7_matched_103 fX7_34 (by first | assumption | rfl) rfl (by first | assumption | rfl) ?_
            refine bg_iload5 (pc := 106) X1 dX7_matched_106 ?_
            refine bo_iaload (pc := 108) X1 dX7_matched_108 (by first | assumption | rfl) (by omega) ?_
            rw [vA (by omega)]
            refine bg_iconst (pc := 109) X1 dX7_matched_109 (by decide) ?_
            refine bg_icmp_ne (pc := 110) X1 (tgt := 117) dX7_matched_110 (by decide) (fun u110 => ?_) (fun u110 => ?_)
            · refine bg_iconst (pc := 117) X1 dX7_matched_117 (by decide) ?_
              refine bg_iadd (pc := 118) X1 dX7_matched_118 (by omega) ?_
              refine bg_istore4 (pc := 119) X1 dX7_matched_119 ?_
              refine bg_iload4 (pc := 121) X1 dX7_matched_121 ?_
              refine bg_iload3 (pc := 123) X1 dX7_matched_123 ?_
              refine bg_iconst (pc := 124) X1 dX7_matched_124 (by decide) ?_
              refine bg_icmp_eq (pc := 125) X1 (tgt := 157) dX7_matched_125 (by decide) (fun u125 => ?_) (fun u125 => ?_)
              · refine bg_iconst (pc := 157) X1 dX7_matched_157 (by decide) ?_
                refine bg_iadd (pc := 158) X1 dX7_matched_158 (by omega) ?_
                refine bg_istore4 (pc := 159) X1 dX7_matched_159 ?_
                refine bg_iinc5 (pc := 161) X1 dX7_matched_161 (by omega) ?_
                refine bg_goto (pc := 164) X1 (tgt := 74) dX7_matched_164 (by decide) ?_
                first
                | (exfalso; omega)
                | (refine ih (k + 1) n0 _ p1 hw hMM h1 hn0 (by omega) ?_
                   rw [cs, hr]
                   first
                   | (rw [if_pos (show w = 2 by omega)]
                      first
                      | (rw [if_pos (by omega)]; omega)
                      | (rw [if_neg (by first | omega | (intro h9; have := zA (by omega); omega))]; omega))
                   | (rw [if_neg (show ¬ w = 2 by omega)]
                      first
                      | (rw [if_pos (by omega)]; omega)
                      | (rw [if_neg (by first | omega | (intro h9; have := zB (by omega); omega))]; omega)))
              · refine bg_iload5 (pc := 128) X1 dX7_matched_128 ?_
                refine bg_aload0 (pc := 130) X1 dX7_matched_130 ?_
                refine bo_getR (pc := 131) X1 dX7_matched_131 fX7_7 (by first | assumption | rfl) rfl (by first | assumption | rfl) ?_
                refine bg_bipush (pc := 134) X1 dX7_matched_134 rfl (by decide) ?_
                refine bg_iload2 (pc := 136) X1 dX7_matched_136 ?_
                refine bg_iadd (pc := 137) X1 dX7_matched_137 (by omega) ?_
                refine bo_iaload (pc := 138) X1 dX7_matched_138 (by first | assumption | rfl) (by omega) ?_
                rw [row_len hS p1.2.1]
                refine bg_icmp_ge (pc := 139) X1 (tgt := 157) dX7_matched_139 (by decide) (fun u139 => ?_) (fun u139 => ?_)
                · refine bg_iconst (pc := 157) X1 dX7_matched_157 (by decide) ?_
                  refine bg_iadd (pc := 158) X1 dX7_matched_158 (by omega) ?_
                  refine bg_istore4 (pc := 159) X1 dX7_matched_159 ?_
                  refine bg_iinc5 (pc := 161) X1 dX7_matched_161 (by omega) ?_
                  refine bg_goto (pc := 164) X1 (tgt := 74) dX7_matched_164 (by decide) ?_
                  first
                  | (exfalso; omega)
                  | (refine ih (k + 1) n0 _ p1 hw hMM h1 hn0 (by omega) ?_
                     rw [cs, hr]
                     first
                     | (rw [if_pos (show w = 2 by omega)]
                        first
                        | (rw [if_pos (by omega)]; omega)
                        | (rw [if_neg (by first | omega | (intro h9; have := zA (by omega); omega))]; omega))
                     | (rw [if_neg (show ¬ w = 2 by omega)]
                        first
                        | (rw [if_pos (by omega)]; omega)
                        | (rw [if_neg (by first | omega | (intro h9; have := zB (by omega); omega))]; omega)))
                · refine bg_aload0 (pc := 142) X1 dX7_matched_142 ?_
                  refine bo_getR (pc := 143) X1 dX7_matched_143 fX7_37 (by first | assumption | rfl) rfl (by first | assumption | rfl) ?_
                  refine bg_iload5 (pc := 146) X1 dX7_matched_146 ?_
                  refine bo_iaload (pc := 148) X1 dX7_matched_148 (by first | assumption | rfl) (by omega) ?_
                  rw [vB (by omega)]
                  refine bg_iload3 (pc := 149) X1 dX7_matched_149 ?_
                  refine bg_icmp_ne (pc := 150) X1 (tgt := 157) dX7_matched_150 (by decide) (fun u150 => ?_) (fun u150 => ?_)
                  · refine bg_iconst (pc := 157) X1 dX7_matched_157 (by decide) ?_
                    refine bg_iadd (pc := 158) X1 dX7_matched_158 (by omega) ?_
                    refine bg_istore4 (pc := 159) X1 dX7_matched_159 ?_
                    refine bg_iinc5 (pc := 161) X1 dX7_matched_161 (by omega) ?_
                    refine bg_goto (pc := 164) X1 (tgt := 74) dX7_matched_164 (by decide) ?_
                    first
                    | (exfalso; omega)
                    | (refine ih (k + 1) n0 _ p1 hw hMM h1 hn0 (by omega) ?_
                       rw [cs, hr]
                       first
                       | (rw [if_pos (show w = 2 by omega)]
                          first
                          | (rw [if_pos (by omega)]; omega)
                          | (rw [if_neg (by first | omega | (intro h9; have := zA (by omega); omega))]; omega))
                       | (rw [if_neg (show ¬ w = 2 by omega)]
                          first
                          | (rw [if_pos (by omega)]; omega)
                          | (rw [if_neg (by first | omega | (intro h9; have := zB (by omega); omega))]; omega)))
                  · refine bg_iconst (pc := 153) X1 dX7_matched_153 (by decide) ?_
                    refine bg_goto (pc := 154) X1 (tgt := 158) dX7_matched_154 (by decide) ?_
                    refine bg_iadd (pc := 158) X1 dX7_matched_158 (by omega) ?_
                    refine bg_istore4 (pc := 159) X1 dX7_matched_159 ?_
                    refine bg_iinc5 (pc := 161) X1 dX7_matched_161 (by omega) ?_
                    refine bg_goto (pc := 164) X1 (tgt := 74) dX7_matched_164 (by decide) ?_
                    first
                    | (exfalso; omega)
                    | (refine ih (k + 1) n0 _ p1 hw hMM h1 hn0 (by omega) ?_
                       rw [cs, hr]
                       first
                       | (rw [if_pos (show w = 2 by omega)]
                          first
                          | (rw [if_pos (by omega)]; omega)
                          | (rw [if_neg (by first | omega | (intro h9; have := zA (by omega); omega))]; omega))
                       | (rw [if_neg (show ¬ w = 2 by omega)]
                          first
                          | (rw [if_pos (by omega)]; omega)
                          | (rw [if_neg (by first | omega | (intro h9; have := zB (by omega); omega))]; omega)))
            · refine bg_iconst (pc := 113) X1 dX7_matched_113 (by decide) ?_
              refine bg_goto (pc := 114) X1 (tgt := 118) dX7_matched_114 (by decide) ?_
              refine bg_iadd (pc := 118) X1 dX7_matched_118 (by omega) ?_
              refine bg_istore4 (pc := 119) X1 dX7_matched_119 ?_
              refine bg_iload4 (pc := 121) X1 dX7_matched_121 ?_
              refine bg_iload3 (pc := 123) X1 dX7_matched_123 ?_
              refine bg_iconst (pc := 124) X1 dX7_matched_124 (by decide) ?_
              refine bg_icmp_eq (pc := 125) X1 (tgt := 157) dX7_matched_125 (by decide) (fun u125 => ?_) (fun u125 => ?_)
              · refine bg_iconst (pc := 157) X1 dX7_matched_157 (by decide) ?_
                refine bg_iadd (pc := 158) X1 dX7_matched_158 (by omega) ?_
                refine bg_istore4 (pc := 159) X1 dX7_matched_159 ?_
                refine bg_iinc5 (pc := 161) X1 dX7_matched_161 (by omega) ?_
                refine bg_goto (pc := 164) X1 (tgt := 74) dX7_matched_164 (by decide) ?_
                first
                | (exfalso; omega)
                | (refine ih (k + 1) n0 _ p1 hw hMM h1 hn0 (by omega) ?_
                   rw [cs, hr]
                   first
                   | (rw [if_pos (show w = 2 by omega)]
                      first
                      | (rw [if_pos (by omega)]; omega)
                      | (rw [if_neg (by first | omega | (intro h9; have := zA (by omega); omega))]; omega))
                   | (rw [if_neg (show ¬ w = 2 by omega)]
                      first
                      | (rw [if_pos (by omega)]; omega)
                      | (rw [if_neg (by first | omega | (intro h9; have := zB (by omega); omega))]; omega)))
              · refine bg_iload5 (pc := 128) X1 dX7_matched_128 ?_
                refine bg_aload0 (pc := 130) X1 dX7_matched_130 ?_
                refine bo_getR (pc := 131) X1 dX7_matched_131 fX7_7 (by first | assumption | rfl) rfl (by first | assumption | rfl) ?_
                refine bg_bipush (pc := 134) X1 dX7_matched_134 rfl (by decide) ?_
                refine bg_iload2 (pc := 136) X1 dX7_matched_136 ?_
                refine bg_iadd (pc := 137) X1 dX7_matched_137 (by omega) ?_
                refine bo_iaload (pc := 138) X1 dX7_matched_138 (by first | assumption | rfl) (by omega) ?_
                rw [row_len hS p1.2.1]
                refine bg_icmp_ge (pc := 139) X1 (tgt := 157) dX7_matched_139 (by decide) (fun u139 => ?_) (fun u139 => ?_)
                · refine bg_iconst (pc := 157) X1 dX7_matched_157 (by decide) ?_
                  refine bg_iadd (pc := 158) X1 dX7_matched_158 (by omega) ?_
                  refine bg_istore4 (pc := 159) X1 dX7_matched_159 ?_
                  refine bg_iinc5 (pc := 161) X1 dX7_matched_161 (by omega) ?_
                  refine bg_goto (pc := 164) X1 (tgt := 74) dX7_matched_164 (by decide) ?_
                  first
                  | (exfalso; omega)
                  | (refine ih (k + 1) n0 _ p1 hw hMM h1 hn0 (by omega) ?_
                     rw [cs, hr]
                     first
                     | (rw [if_pos (show w = 2 by omega)]
                        first
                        | (rw [if_pos (by omega)]; omega)
                        | (rw [if_neg (by first | omega | (intro h9; have := zA (by omega); omega))]; omega))
                     | (rw [if_neg (show ¬ w = 2 by omega)]
                        first
                        | (rw [if_pos (by omega)]; omega)
                        | (rw [if_neg (by first | omega | (intro h9; have := zB (by omega); omega))]; omega)))
                · refine bg_aload0 (pc := 142) X1 dX7_matched_142 ?_
                  refine bo_getR (pc := 143) X1 dX7_matched_143 fX7_37 (by first | assumption | rfl) rfl (by first | assumption | rfl) ?_
                  refine bg_iload5 (pc := 146) X1 dX7_matched_146 ?_
                  refine bo_iaload (pc := 148) X1 dX7_matched_148 (by first | assumption | rfl) (by omega) ?_
                  rw [vB (by omega)]
                  refine bg_iload3 (pc := 149) X1 dX7_matched_149 ?_
                  refine bg_icmp_ne (pc := 150) X1 (tgt := 157) dX7_matched_150 (by decide) (fun u150 => ?_) (fun u150 => ?_)
                  · refine bg_iconst (pc := 157) X1 dX7_matched_157 (by decide) ?_
                    refine bg_iadd (pc := 158) X1 dX7_matched_158 (by omega) ?_
                    refine bg_istore4 (pc := 159) X1 dX7_matched_159 ?_
                    refine bg_iinc5 (pc := 161) X1 dX7_matched_161 (by omega) ?_
                    refine bg_goto (pc := 164) X1 (tgt := 74) dX7_matched_164 (by decide) ?_
                    first
                    | (exfalso; omega)
                    | (refine ih (k + 1) n0 _ p1 hw hMM h1 hn0 (by omega) ?_
                       rw [cs, hr]
                       first
                       | (rw [if_pos (show w = 2 by omega)]
                          first
                          | (rw [if_pos (by omega)]; omega)
                          | (rw [if_neg (by first | omega | (intro h9; have := zA (by omega); omega))]; omega))
                       | (rw [if_neg (show ¬ w = 2 by omega)]
                          first
                          | (rw [if_pos (by omega)]; omega)
                          | (rw [if_neg (by first | omega | (intro h9; have := zB (by omega); omega))]; omega)))
                  · refine bg_iconst (pc := 153) X1 dX7_matched_153 (by decide) ?_
                    refine bg_goto (pc := 154) X1 (tgt := 158) dX7_matched_154 (by decide) ?_
                    refine bg_iadd (pc := 158) X1 dX7_matched_158 (by omega) ?_
                    refine bg_istore4 (pc := 159) X1 dX7_matched_159 ?_
                    refine bg_iinc5 (pc := 161) X1 dX7_matched_161 (by omega) ?_
                    refine bg_goto (pc := 164) X1 (tgt := 74) dX7_matched_164 (by decide) ?_
                    first
                    | (exfalso; omega)
                    | (refine ih (k + 1) n0 _ p1 hw hMM h1 hn0 (by omega) ?_
                       rw [cs, hr]
                       first
                       | (rw [if_pos (show w = 2 by omega)]
                          first
                          | (rw [if_pos (by omega)]; omega)
                          | (rw [if_neg (by first | omega | (intro h9; have := zA (by omega); omega))]; omega))
                       | (rw [if_neg (show ¬ w = 2 by omega)]
                          first
                          | (rw [if_pos (by omega)]; omega)
                          | (rw [if_neg (by first | omega | (intro h9; have := zB (by omega); omega))]; omega)))
  have l1 : ∀ (g1 : bg_E) (n k : Nat) (r : Int), arePa a b → (1 ≤ w ∧ w ≤ 5) → matM g1 (mP Z a b) → modR g1 Z ∧ frR 198 214 g g1 → k + n = (TT (mP Z a b)).length → r = (if w = 5 then (((TT (mP Z a b)).take k).filter (fF (Z.1.1 4))).length else 0 : Nat) → bg_g κ y 32 [some (.inr 198), some (.inl a), some (.inl b), some (.inl w), some (.inl r), some (.inl (k : Int))] [] g1 := by
    intro g1 n
    induction n with
    | zero =>
      intro k r p1 hw hMM h1 hk hr
      obtain ⟨x1, x2, x3⟩ := id hMM
      have hlt : (TT (mP Z a b)).length ≤ 24 := TTn_len _ 24
      have hf : (fl Z a b).length ≤ 24 := Nat.le_trans (List.length_filter_le _ _) hlt
      refine bg_iload5 (pc := 32) X1 dX7_matched_32 ?_
      refine bg_aload0 (pc := 34) X1 dX7_matched_34 ?_
      refine bo_getI (pc := 35) X1 dX7_matched_35 fX7_166 (by first | assumption | rfl) rfl ?_
      rw [x2.1]
      refine bg_icmp_ge (pc := 38) X1 (tgt := 71) dX7_matched_38 (by decide) (fun u38 => ?_) (fun u38 => ?_)
      · refine bg_iconst (pc := 71) X1 dX7_matched_71 (by decide) ?_
        refine bg_istore5 (pc := 72) X1 dX7_matched_72 ?_
        refine l2 g1 24 0 r r p1 hw hMM h1 ?_ rfl (by show r = r + 0; omega)
        rw [List.take_of_length_le (by omega)] at hr
        by_cases h5 : w = 5
        · rw [if_pos h5] at hr ⊢; exact ⟨by omega, by rw [hr]; exact_mod_cast hf, hr⟩
        · rw [if_neg h5] at hr ⊢; exact ⟨by omega, by omega, hr⟩
      · exfalso; omega
    | succ n ih =>
      intro k r p1 hw hMM h1 hk hr
      obtain ⟨x1, x2, x3⟩ := id hMM
      have okP1 : okP (mP Z a b) := mkP_ok ok.1 (by omega) (by omega)
      have hlt : (TT (mP Z a b)).length ≤ 24 := TTn_len _ 24
      obtain ⟨e, he⟩ : ∃ e, (TT (mP Z a b))[k]? = some e := ⟨_, List.getElem?_eq_getElem (by omega)⟩
      have ht := take_f (fF (Z.1.1 4)) he
      have hb : (((TT (mP Z a b)).take k).filter (fF (Z.1.1 4))).length ≤ k := Nat.le_trans (List.length_filter_le _ _) (by rw [List.length_take]; omega)
      have hb2 : (if w = 5 then (((TT (mP Z a b)).take k).filter (fF (Z.1.1 4))).length else 0 : Nat) ≤ k := by split <;> omega
      refine bg_iload5 (pc := 32) X1 dX7_matched_32 ?_
      refine bg_aload0 (pc := 34) X1 dX7_matched_34 ?_
      refine bo_getI (pc := 35) X1 dX7_matched_35 fX7_166 (by first | assumption | rfl) rfl ?_
      rw [x2.1]
      refine bg_icmp_ge (pc := 38) X1 (tgt := 71) dX7_matched_38 (by decide) (fun u38 => ?_) (fun u38 => ?_)
      · exfalso; omega
      · refine bg_iload4 (pc := 41) X1 dX7_matched_41 ?_
        refine bg_iload3 (pc := 43) X1 dX7_matched_43 ?_
        refine bg_iconst (pc := 44) X1 dX7_matched_44 (by decide) ?_
        refine bg_icmp_ne (pc := 45) X1 (tgt := 61) dX7_matched_45 (by decide) (fun u45 => ?_) (fun u45 => ?_)
        · refine bg_iconst (pc := 61) X1 dX7_matched_61 (by decide) ?_
          refine bg_iadd (pc := 62) X1 dX7_matched_62 (by omega) ?_
          refine bg_istore4 (pc := 63) X1 dX7_matched_63 ?_
          refine bg_iinc5 (pc := 65) X1 dX7_matched_65 (by omega) ?_
          refine bg_goto (pc := 68) X1 (tgt := 32) dX7_matched_68 (by decide) ?_
          refine ih (k + 1) _ p1 hw hMM h1 (by omega) ?_
          rw [ht, List.length_append, hr]
          first
          | (rw [if_neg u45, if_neg u45]; rfl)
          | (rw [if_pos u45, if_pos u45, if_pos u54]; rfl)
          | (rw [if_pos u45, if_pos u45, if_neg u54]; rfl)
        · refine bg_aload0 (pc := 48) X1 dX7_matched_48 ?_
          refine bg_iload5 (pc := 49) X1 dX7_matched_49 ?_
          refine bo_V1i (pc := 51) X1 (c_X7_isFault h1.1.1 okP1 x2 he) vX7_isFault lX7_184 rfl (by first | assumption | rfl) (by decide) dX7_matched_51 (by exact Nat.le_of_ble_eq_true rfl) ?_
          rintro _ _ ⟨h9, h8⟩
          obtain rfl := h9.symm
          obtain rfl := h8.symm
          clear h9 h8
          refine bo_ifeq_b (pc := 54) X1 (tgt := 61) dX7_matched_54 (by decide) (fun u54 => ?_) (fun u54 => ?_)
          · refine bg_iconst (pc := 61) X1 dX7_matched_61 (by decide) ?_
            refine bg_iadd (pc := 62) X1 dX7_matched_62 (by omega) ?_
            refine bg_istore4 (pc := 63) X1 dX7_matched_63 ?_
            refine bg_iinc5 (pc := 65) X1 dX7_matched_65 (by omega) ?_
            refine bg_goto (pc := 68) X1 (tgt := 32) dX7_matched_68 (by decide) ?_
            refine ih (k + 1) _ p1 hw hMM h1 (by omega) ?_
            rw [ht, List.length_append, hr]
            first
            | (rw [if_neg u45, if_neg u45]; rfl)
            | (rw [if_pos u45, if_pos u45, if_pos u54]; rfl)
            | (rw [if_pos u45, if_pos u45, if_neg u54]; rfl)
          · refine bg_iconst (pc := 57) X1 dX7_matched_57 (by decide) ?_
            refine bg_goto (pc := 58) X1 (tgt := 62) dX7_matched_58 (by decide) ?_
            refine bg_iadd (pc := 62) X1 dX7_matched_62 (by omega) ?_
            refine bg_istore4 (pc := 63) X1 dX7_matched_63 ?_
            refine bg_iinc5 (pc := 65) X1 dX7_matched_65 (by omega) ?_
            refine bg_goto (pc := 68) X1 (tgt := 32) dX7_matched_68 (by decide) ?_
            refine ih (k + 1) _ p1 hw hMM h1 (by omega) ?_
            rw [ht, List.length_append, hr]
            first
            | (rw [if_neg u45, if_neg u45]; rfl)
            | (rw [if_pos u45, if_pos u45, if_pos u54]; rfl)
            | (rw [if_pos u45, if_pos u45, if_neg u54]; rfl)
  refine bg_iload1 (pc := 0) X1 dX7_matched_0 ?_
  refine bg_iload2 (pc := 1) X1 dX7_matched_1 ?_
  refine bo_S2i (pc := 2) X1 (c_X7_areTwo) sX7_areTwo lX7_175 rfl (by decide) dX7_matched_2 (by exact Nat.le_of_ble_eq_true rfl) ?_
  rintro _ _ ⟨h9, h8⟩
  obtain rfl := h9.symm
  obtain rfl := h8.symm
  clear h9 h8
  refine bo_ifeq_b (pc := 5) X1 (tgt := 17) dX7_matched_5 (by decide) (fun u5 => ?_) (fun u5 => ?_)
  · refine bg_ldc (pc := 17) X1 dX7_matched_17 kX7_87 (by decide) ?_
    exact bo_iret (pc := 19) X rfl dX7_matched_19 (fun hi => by unfold xMatched; rw [if_neg (fun h9 => by obtain ⟨v1, v2, v3⟩ := h9; first | exact u5 v1 | omega)]; exact ⟨rfl, hM, frR.rf⟩)
  · refine bg_iload3 (pc := 8) X1 dX7_matched_8 ?_
    refine bg_iconst (pc := 9) X1 dX7_matched_9 (by decide) ?_
    refine bg_iconst (pc := 10) X1 dX7_matched_10 (by decide) ?_
    refine bo_S3i (pc := 11) X1 (c_X7_in) sX7_in lX7_59 rfl (by decide) dX7_matched_11 (by exact Nat.le_of_ble_eq_true rfl) ?_
    rintro _ _ ⟨h9, h8⟩
    obtain rfl := h9.symm
    obtain rfl := h8.symm
    clear h9 h8
    refine bo_ifne_b (pc := 14) X1 (tgt := 20) dX7_matched_14 (by decide) (fun u14 => ?_) (fun u14 => ?_)
    · refine bg_aload0 (pc := 20) X1 dX7_matched_20 ?_
      refine bg_iload1 (pc := 21) X1 dX7_matched_21 ?_
      refine bg_iload2 (pc := 22) X1 dX7_matched_22 ?_
      refine bo_V2v (pc := 23) X1 (c_X7_matches hM.1 ok.1 u5.1 u5.2.1) vX7_matches lX7_182 rfl (by first | assumption | rfl) (by decide) dX7_matched_23 (by exact Nat.le_of_ble_eq_true rfl) ?_
      rintro g1 ⟨x1, x4⟩
      refine bg_iconst (pc := 26) X1 dX7_matched_26 (by decide) ?_
      refine bg_istore4 (pc := 27) X1 dX7_matched_27 ?_
      refine bg_iconst (pc := 29) X1 dX7_matched_29 (by decide) ?_
      refine bg_istore5 (pc := 30) X1 dX7_matched_30 ?_
      exact l1 g1 (TT (mP Z a b)).length 0 0 u5 (by omega) x1 (hM.R x4.m) (by omega) (by split <;> rfl)
    · refine bg_ldc (pc := 17) X1 dX7_matched_17 kX7_87 (by decide) ?_
      exact bo_iret (pc := 19) X rfl dX7_matched_19 (fun hi => by unfold xMatched; rw [if_neg (fun h9 => by obtain ⟨v1, v2, v3⟩ := h9; first | exact u5 v1 | omega)]; exact ⟨rfl, hM, frR.rf⟩)
theorem c_X7_fault {y : bg_Y} {g : bg_E} {a b i w : Int} {Z : bm_X} (hM : modR g Z) (ok : okX Z) : bg_Si y 6 mX7_fault [.inr 198, .inl a, .inl b, .inl i, .inl w] g (fun r g' => r = xFault Z a b i w ∧ modR g' Z ∧ frR 198 214 g g') := by
  refine bg_enter pnX7 (Nat.le_of_ble_eq_true rfl) (fun κ X hR hg => ?_)
  have X1 : bg_X κ y cX7_fault RX7 6 0 0 := X.1
  have hg : ∀ a k, R32 (g a k) := hg
  show bg_g κ y 0 [some (.inr 198), some (.inl a), some (.inl b), some (.inl i), some (.inl w), none, none] [] g
  have hi0 : R32 i := hR.2.2.2.1
  have eX : arePa a b → 0 ≤ i → (0 ≤ w ∧ w ≤ 2) → xFault Z a b i w = oT ((fl Z a b)[i.toNat]?) (fun e => if w = 0 then e.1 else if w = 1 then e.2.1 else e.2.2) := fun h1 h2 h3 => by
    unfold xFault
    rw [if_pos (show arePa a b ∧ 0 ≤ i ∧ 0 ≤ w ∧ w ≤ 2 from ⟨h1, h2, h3⟩)]
    rfl
  have loop : ∀ (g1 : bg_E) (n k : Nat) (l : Int), arePa a b → 0 ≤ i → (0 ≤ w ∧ w ≤ 2) → matM g1 (mP Z a b) → modR g1 Z ∧ frR 198 214 g g1 → k + n = (TT (mP Z a b)).length → (0 ≤ l ∧ l ≤ i) → (fl Z a b)[i.toNat]? = (((TT (mP Z a b)).drop k).filter (fF (Z.1.1 4)))[l.toNat]? → bg_g κ y 37 [some (.inr 198), some (.inl a), some (.inl b), some (.inl i), some (.inl w), some (.inl l), some (.inl (k : Int))] [] g1 := by
    intro g1 n
    induction n with
    | zero =>
      intro k l p1 hi2 hw hMM h1 hk hl hx
      obtain ⟨x1, x2, x3⟩ := id hMM
      refine bg_iload6 (pc := 37) X1 dX7_fault_37 ?_
      refine bg_aload0 (pc := 39) X1 dX7_fault_39 ?_
      refine bo_getI (pc := 40) X1 dX7_fault_40 fX7_166 (by first | assumption | rfl) rfl ?_
      rw [x2.1]
      refine bg_icmp_ge (pc := 43) X1 (tgt := 82) dX7_fault_43 (by decide) (fun u43 => ?_) (fun u43 => ?_)
      · refine bg_ldc (pc := 82) X1 dX7_fault_82 kX7_148 (by decide) ?_
        exact bo_iret (pc := 84) X rfl dX7_fault_84 (fun hi => by
            rw [eX p1 hi2 hw, hx, List.drop_eq_nil_of_le (by omega)]
            exact ⟨by simp [oT], h1⟩)
      · exfalso; omega
    | succ n ih =>
      intro k l p1 hi2 hw hMM h1 hk hl hx
      obtain ⟨x1, x2, x3⟩ := id hMM
      have okP1 : okP (mP Z a b) := mkP_ok ok.1 (by omega) (by omega)
      have hlt : (TT (mP Z a b)).length ≤ 24 := TTn_len _ 24
      obtain ⟨e, he⟩ : ∃ e, (TT (mP Z a b))[k]? = some e := ⟨_, List.getElem?_eq_getElem (by omega)⟩
      rw [drop_f (fF (Z.1.1 4)) he] at hx
      obtain ⟨v0, v1, v2⟩ := x2.2 k e he
      refine bg_iload6 (pc := 37) X1 dX7_fault_37 ?_
      refine bg_aload0 (pc := 39) X1 dX7_fault_39 ?_
      refine bo_getI (pc := 40) X1 dX7_fault_40 fX7_166 (by first | assumption | rfl) rfl ?_
      rw [x2.1]
      refine bg_icmp_ge (pc := 43) X1 (tgt := 82) dX7_fault_43 (by decide) (fun u43 => ?_) (fun u43 => ?_)
      · exfalso; omega
      · refine bg_aload0 (pc := 46) X1 dX7_fault_46 ?_
        refine bg_iload6 (pc := 47) X1 dX7_fault_47 ?_
        refine bo_V1i (pc := 49) X1 (c_X7_isFault h1.1.1 okP1 x2 he) vX7_isFault lX7_184 rfl (by first | assumption | rfl) (by decide) dX7_fault_49 (by exact Nat.le_of_ble_eq_true rfl) ?_
        rintro _ _ ⟨h9, h8⟩
        obtain rfl := h9.symm
        obtain rfl := h8.symm
        clear h9 h8
        refine bo_ifeq_b (pc := 52) X1 (tgt := 76) dX7_fault_52 (by decide) (fun u52 => ?_) (fun u52 => ?_)
        · rw [if_neg u52, List.nil_append] at hx
          refine bg_iinc6 (pc := 76) X1 dX7_fault_76 (by omega) ?_
          refine bg_goto (pc := 79) X1 (tgt := 37) dX7_fault_79 (by decide) ?_
          exact ih (k + 1) _ p1 hi2 hw hMM h1 (by omega) (by omega) hx
        · rw [if_pos u52] at hx
          refine bg_iload5 (pc := 55) X1 dX7_fault_55 ?_
          refine bg_if_ne (pc := 57) X1 (tgt := 73) dX7_fault_57 (by decide) (fun u57 => ?_) (fun u57 => ?_)
          · rw [show l.toNat = (l - 1).toNat + 1 by omega] at hx
            have hx : (fl Z a b)[i.toNat]? = (((TT (mP Z a b)).drop (k + 1)).filter (fF (Z.1.1 4)))[(l - 1).toNat]? := hx
            refine bg_iinc5 (pc := 73) X1 dX7_fault_73 (by omega) ?_
            refine bg_iinc6 (pc := 76) X1 dX7_fault_76 (by omega) ?_
            refine bg_goto (pc := 79) X1 (tgt := 37) dX7_fault_79 (by decide) ?_
            exact ih (k + 1) _ p1 hi2 hw hMM h1 (by omega) (by omega) hx
          · refine bg_aload0 (pc := 60) X1 dX7_fault_60 ?_
            refine bo_getR (pc := 61) X1 dX7_fault_61 fX7_46 (by first | assumption | rfl) rfl (by first | assumption | rfl) ?_
            refine bg_iconst (pc := 64) X1 dX7_fault_64 (by decide) ?_
            refine bg_iload6 (pc := 65) X1 dX7_fault_65 ?_
            refine bg_imul (pc := 67) X1 dX7_fault_67 (by omega) ?_
            refine bg_iload4 (pc := 68) X1 dX7_fault_68 ?_
            refine bg_iadd (pc := 70) X1 dX7_fault_70 (by omega) ?_
            refine bo_iaload (pc := 71) X1 dX7_fault_71 (by first | assumption | rfl) (by omega) ?_
            exact bo_iret (pc := 72) X rfl dX7_fault_72 (fun hi => by
                rw [eX p1 hi2 hw, hx, u57]
                refine ⟨?_, h1⟩
                show _ = (if w = 0 then e.1 else if w = 1 then e.2.1 else e.2.2)
                have hc : w = 0 ∨ w = 1 ∨ w = 2 := by omega
                rcases hc with rfl | rfl | rfl
                · rw [if_pos rfl, show (3 * (k : Int) + 0).toNat = 3 * k by omega]; exact v0
                · rw [if_neg (by decide), if_pos rfl, show (3 * (k : Int) + 1).toNat = 3 * k + 1 by omega]; exact v1
                · rw [if_neg (by decide), if_neg (by decide), show (3 * (k : Int) + 2).toNat = 3 * k + 2 by omega]; exact v2)
  refine bg_iload1 (pc := 0) X1 dX7_fault_0 ?_
  refine bg_iload2 (pc := 1) X1 dX7_fault_1 ?_
  refine bo_S2i (pc := 2) X1 (c_X7_areTwo) sX7_areTwo lX7_175 rfl (by decide) dX7_fault_2 (by exact Nat.le_of_ble_eq_true rfl) ?_
  rintro _ _ ⟨h9, h8⟩
  obtain rfl := h9.symm
  obtain rfl := h8.symm
  clear h9 h8
  refine bo_ifeq_b (pc := 5) X1 (tgt := 22) dX7_fault_5 (by decide) (fun u5 => ?_) (fun u5 => ?_)
  · refine bg_ldc (pc := 22) X1 dX7_fault_22 kX7_87 (by decide) ?_
    exact bo_iret (pc := 24) X rfl dX7_fault_24 (fun hi => by unfold xFault; rw [if_neg (show ¬ (arePa a b ∧ 0 ≤ i ∧ 0 ≤ w ∧ w ≤ 2) by omega)]; exact ⟨rfl, hM, frR.rf⟩)
  · refine bg_iload3 (pc := 8) X1 dX7_fault_8 ?_
    refine bg_if_lt (pc := 9) X1 (tgt := 22) dX7_fault_9 (by decide) (fun u9 => ?_) (fun u9 => ?_)
    · refine bg_ldc (pc := 22) X1 dX7_fault_22 kX7_87 (by decide) ?_
      exact bo_iret (pc := 24) X rfl dX7_fault_24 (fun hi => by unfold xFault; rw [if_neg (show ¬ (arePa a b ∧ 0 ≤ i ∧ 0 ≤ w ∧ w ≤ 2) by omega)]; exact ⟨rfl, hM, frR.rf⟩)
    · refine bg_iload4 (pc := 12) X1 dX7_fault_12 ?_
      refine bg_iconst (pc := 14) X1 dX7_fault_14 (by decide) ?_
      refine bg_iconst (pc := 15) X1 dX7_fault_15 (by decide) ?_
      refine bo_S3i (pc := 16) X1 (c_X7_in) sX7_in lX7_59 rfl (by decide) dX7_fault_16 (by exact Nat.le_of_ble_eq_true rfl) ?_
      rintro _ _ ⟨h9, h8⟩
      obtain rfl := h9.symm
      obtain rfl := h8.symm
      clear h9 h8
      refine bo_ifne_b (pc := 19) X1 (tgt := 25) dX7_fault_19 (by decide) (fun u19 => ?_) (fun u19 => ?_)
      · refine bg_aload0 (pc := 25) X1 dX7_fault_25 ?_
        refine bg_iload1 (pc := 26) X1 dX7_fault_26 ?_
        refine bg_iload2 (pc := 27) X1 dX7_fault_27 ?_
        refine bo_V2v (pc := 28) X1 (c_X7_matches hM.1 ok.1 u5.1 u5.2.1) vX7_matches lX7_182 rfl (by first | assumption | rfl) (by decide) dX7_fault_28 (by exact Nat.le_of_ble_eq_true rfl) ?_
        rintro g1 ⟨x1, x4⟩
        refine bg_iload3 (pc := 31) X1 dX7_fault_31 ?_
        refine bg_istore5 (pc := 32) X1 dX7_fault_32 ?_
        refine bg_iconst (pc := 34) X1 dX7_fault_34 (by decide) ?_
        refine bg_istore6 (pc := 35) X1 dX7_fault_35 ?_
        exact loop g1 (TT (mP Z a b)).length 0 i u5 (by omega) (by omega) x1 (hM.R x4.m) (by omega) (by omega) rfl
      · refine bg_ldc (pc := 22) X1 dX7_fault_22 kX7_87 (by decide) ?_
        exact bo_iret (pc := 24) X rfl dX7_fault_24 (fun hi => by unfold xFault; rw [if_neg (show ¬ (arePa a b ∧ 0 ≤ i ∧ 0 ≤ w ∧ w ≤ 2) by omega)]; exact ⟨rfl, hM, frR.rf⟩)
