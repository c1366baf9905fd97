/-! throws and faults in the machine -/
abbrev bm_T : Type := Int × Int × Int
def TTn (P : bm_P) (n : Nat) : List bm_T := ((List.range n).filter (fun (k : Nat) => decide (HT P k))).map (fun (k : Nat) => (((k : Int), TH P k, RS P k) : bm_T))
def TT (P : bm_P) : List bm_T := TTn P 24
def fF (t : Int) : bm_T → Bool := fun e => decide (t ≤ (e.2.1.natAbs : Int))
def sumT : List bm_T → Int
  | [] => 0
  | e :: l => e.2.1 + sumT l
theorem sumT_app : ∀ a b : List bm_T, sumT (a ++ b) = sumT a + sumT b
  | [], b => by simp [sumT]
  | e :: a, b => by
    show e.2.1 + sumT (a ++ b) = e.2.1 + sumT a + sumT b
    rw [sumT_app a b]; omega
theorem TTn_s (P : bm_P) (n : Nat) : TTn P (n + 1) = TTn P n ++ (if HT P n then [((n : Int), TH P n, RS P n)] else []) := by
  unfold TTn
  rw [List.range_succ, List.filter_append, List.map_append]
  congr 1
  by_cases h : HT P n
  · rw [if_pos h]; simp [List.filter, h]
  · rw [if_neg h]; simp [List.filter, h]
theorem TTf_s (P : bm_P) (t : Int) (n : Nat) : (TTn P (n + 1)).filter (fF t) = (TTn P n).filter (fF t) ++ (if FT P t n then [((n : Int), TH P n, RS P n)] else []) := by
  rw [TTn_s, List.filter_append]
  congr 1
  by_cases h : HT P n
  · rw [if_pos h]
    by_cases h2 : t ≤ ((TH P n).natAbs : Int)
    · rw [if_pos ⟨h, h2⟩]; simp [List.filter, fF, h2]
    · rw [if_neg (fun h3 => h2 h3.2)]; simp [List.filter, fF, h2]
  · rw [if_neg h, if_neg (fun h3 => h h3.1)]; rfl
theorem TTf_len (P : bm_P) (t : Int) : ∀ n : Nat, ((TTn P n).filter (fF t)).length ≤ n
  | 0 => by simp [TTn]
  | n + 1 => by
    have := TTf_len P t n
    rw [TTf_s, List.length_append]
    split <;> simp <;> omega
theorem TTf_get (P : bm_P) (t : Int) (i n : Nat) (h : i < ((TTn P n).filter (fF t)).length) : ∀ m, ((TTn P (n + m)).filter (fF t))[i]? = ((TTn P n).filter (fF t))[i]?
  | 0 => rfl
  | m + 1 => by
    have h1 := TTf_get P t i n h m
    have h2 : i < ((TTn P (n + m)).filter (fF t)).length := by
      have := List.getElem?_eq_some_iff.mp (h1.trans (List.getElem?_eq_getElem h))
      exact this.1
    rw [show n + (m + 1) = (n + m) + 1 from rfl, TTf_s, List.getElem?_append_left h2]
    exact h1
theorem c_X2_fateOf {y : bg_Y} {g : bg_E} {q : Nat} {s b : Int} {P : bm_P} {t : Int} (hq : bg_mat q) (hM : matR g q P t) : bg_Si y 0 mX2_fateOf [.inr q, .inl s, .inl b] g (fun r g' => r = (if 0 ≤ b ∧ b < 24 then (if s = 0 then FA P b.toNat else FB P b.toNat) else 0) ∧ g' = g) := by
  obtain ⟨s1, s2, s3, s4, s5, s6, s7, s8, s9, s10, s11, s12, s13, s14, s15, s16, s17, s18, s19⟩ := id hq
  have hA := hM.2.1
  refine bg_enter pnX2 (Nat.le_of_ble_eq_true rfl) (fun κ X hR hg => ?_)
  have X1 : bg_X κ y cX2_fateOf RX2 0 0 0 := X.1
  have hg : ∀ a k, R32 (g a k) := hg
  show bg_g κ y 0 [some (.inr q), some (.inl s), some (.inl b)] [] g
  refine bg_iload2 (pc := 0) X1 dX2_fateOf_0 ?_
  refine bg_if_lt (pc := 1) X1 (tgt := 10) dX2_fateOf_1 (by decide) (fun u1 => ?_) (fun u1 => ?_)
  · refine bg_iconst (pc := 10) X1 dX2_fateOf_10 (by decide) ?_
    exact bo_iret (pc := 11) X rfl dX2_fateOf_11 (fun hi => ⟨by rw [if_neg (by omega)], rfl⟩)
  · refine bg_iload2 (pc := 4) X1 dX2_fateOf_4 ?_
    refine bg_bipush (pc := 5) X1 dX2_fateOf_5 rfl (by decide) ?_
    refine bg_icmp_lt (pc := 7) X1 (tgt := 12) dX2_fateOf_7 (by decide) (fun u7 => ?_) (fun u7 => ?_)
    · refine bg_iload1 (pc := 12) X1 dX2_fateOf_12 ?_
      refine bg_if_ne (pc := 13) X1 (tgt := 25) dX2_fateOf_13 (by decide) (fun u13 => ?_) (fun u13 => ?_)
      · refine bg_aload0 (pc := 25) X1 dX2_fateOf_25 ?_
        refine bo_getR (pc := 26) X1 dX2_fateOf_26 fX2_22 (by first | assumption | rfl) rfl (by first | assumption | rfl) ?_
        refine bg_iload2 (pc := 29) X1 dX2_fateOf_29 ?_
        refine bo_iaload (pc := 30) X1 dX2_fateOf_30 (by first | assumption | rfl) (by omega) ?_
        exact bo_iret (pc := 31) X rfl dX2_fateOf_31 (fun hi => ⟨by rw [if_pos (⟨by omega, by omega⟩ : 0 ≤ b ∧ b < 24)]; first | (rw [if_pos (by omega)]; exact (hA _ (by omega)).1) | (rw [if_neg (by omega)]; exact (hA _ (by omega)).2.1), rfl⟩)
      · refine bg_aload0 (pc := 16) X1 dX2_fateOf_16 ?_
        refine bo_getR (pc := 17) X1 dX2_fateOf_17 fX2_18 (by first | assumption | rfl) rfl (by first | assumption | rfl) ?_
        refine bg_iload2 (pc := 20) X1 dX2_fateOf_20 ?_
        refine bo_iaload (pc := 21) X1 dX2_fateOf_21 (by first | assumption | rfl) (by omega) ?_
        refine bg_goto (pc := 22) X1 (tgt := 31) dX2_fateOf_22 (by decide) ?_
        exact bo_iret (pc := 31) X rfl dX2_fateOf_31 (fun hi => ⟨by rw [if_pos (⟨by omega, by omega⟩ : 0 ≤ b ∧ b < 24)]; first | (rw [if_pos (by omega)]; exact (hA _ (by omega)).1) | (rw [if_neg (by omega)]; exact (hA _ (by omega)).2.1), rfl⟩)
    · refine bg_iconst (pc := 10) X1 dX2_fateOf_10 (by decide) ?_
      exact bo_iret (pc := 11) X rfl dX2_fateOf_11 (fun hi => ⟨by rw [if_neg (by omega)], rfl⟩)
theorem c_X2_partnerOf {y : bg_Y} {g : bg_E} {q : Nat} {s b : Int} {P : bm_P} {t : Int} (hq : bg_mat q) (hM : matR g q P t) : bg_Si y 0 mX2_partnerOf [.inr q, .inl s, .inl b] g (fun r g' => r = (if 0 ≤ b ∧ b < 24 then nn (if s = 0 then PA P b.toNat else PB P b.toNat) else -1000009) ∧ g' = g) := by
  obtain ⟨s1, s2, s3, s4, s5, s6, s7, s8, s9, s10, s11, s12, s13, s14, s15, s16, s17, s18, s19⟩ := id hq
  have hA := hM.2.1
  refine bg_enter pnX2 (Nat.le_of_ble_eq_true rfl) (fun κ X hR hg => ?_)
  have X1 : bg_X κ y cX2_partnerOf RX2 0 0 0 := X.1
  have hg : ∀ a k, R32 (g a k) := hg
  show bg_g κ y 0 [some (.inr q), some (.inl s), some (.inl b)] [] g
  refine bg_iload2 (pc := 0) X1 dX2_partnerOf_0 ?_
  refine bg_if_lt (pc := 1) X1 (tgt := 10) dX2_partnerOf_1 (by decide) (fun u1 => ?_) (fun u1 => ?_)
  · refine bg_ldc (pc := 10) X1 dX2_partnerOf_10 kX2_52 (by decide) ?_
    exact bo_iret (pc := 12) X rfl dX2_partnerOf_12 (fun hi => ⟨by rw [if_neg (by omega)], rfl⟩)
  · refine bg_iload2 (pc := 4) X1 dX2_partnerOf_4 ?_
    refine bg_bipush (pc := 5) X1 dX2_partnerOf_5 rfl (by decide) ?_
    refine bg_icmp_lt (pc := 7) X1 (tgt := 13) dX2_partnerOf_7 (by decide) (fun u7 => ?_) (fun u7 => ?_)
    · refine bg_iload1 (pc := 13) X1 dX2_partnerOf_13 ?_
      refine bg_if_ne (pc := 14) X1 (tgt := 26) dX2_partnerOf_14 (by decide) (fun u14 => ?_) (fun u14 => ?_)
      · refine bg_aload0 (pc := 26) X1 dX2_partnerOf_26 ?_
        refine bo_getR (pc := 27) X1 dX2_partnerOf_27 fX2_28 (by first | assumption | rfl) rfl (by first | assumption | rfl) ?_
        refine bg_iload2 (pc := 30) X1 dX2_partnerOf_30 ?_
        refine bo_iaload (pc := 31) X1 dX2_partnerOf_31 (by first | assumption | rfl) (by omega) ?_
        exact bo_iret (pc := 32) X rfl dX2_partnerOf_32 (fun hi => ⟨by rw [if_pos (⟨by omega, by omega⟩ : 0 ≤ b ∧ b < 24)]; first | (rw [if_pos (by omega)]; exact (hA _ (by omega)).2.2.1) | (rw [if_neg (by omega)]; exact (hA _ (by omega)).2.2.2), rfl⟩)
      · refine bg_aload0 (pc := 17) X1 dX2_partnerOf_17 ?_
        refine bo_getR (pc := 18) X1 dX2_partnerOf_18 fX2_25 (by first | assumption | rfl) rfl (by first | assumption | rfl) ?_
        refine bg_iload2 (pc := 21) X1 dX2_partnerOf_21 ?_
        refine bo_iaload (pc := 22) X1 dX2_partnerOf_22 (by first | assumption | rfl) (by omega) ?_
        refine bg_goto (pc := 23) X1 (tgt := 32) dX2_partnerOf_23 (by decide) ?_
        exact bo_iret (pc := 32) X rfl dX2_partnerOf_32 (fun hi => ⟨by rw [if_pos (⟨by omega, by omega⟩ : 0 ≤ b ∧ b < 24)]; first | (rw [if_pos (by omega)]; exact (hA _ (by omega)).2.2.1) | (rw [if_neg (by omega)]; exact (hA _ (by omega)).2.2.2), rfl⟩)
    · refine bg_ldc (pc := 10) X1 dX2_partnerOf_10 kX2_52 (by decide) ?_
      exact bo_iret (pc := 12) X rfl dX2_partnerOf_12 (fun hi => ⟨by rw [if_neg (by omega)], rfl⟩)
def cntF (f : Nat → Int) (v : Int) : Nat → Int
  | 0 => 0
  | n + 1 => cntF f v n + (if f n = v then 1 else 0)
theorem cntF_R (f : Nat → Int) (v : Int) : ∀ n : Nat, 0 ≤ cntF f v n ∧ cntF f v n ≤ n
  | 0 => ⟨Int.le_refl _, Int.le_refl _⟩
  | n + 1 => by
    have := cntF_R f v n
    show 0 ≤ cntF f v n + (if f n = v then 1 else 0) ∧ cntF f v n + (if f n = v then 1 else 0) ≤ ((n + 1 : Nat) : Int)
    split <;> omega
theorem c_X2_countFates {y : bg_Y} {g : bg_E} {q : Nat} {s v : Int} {P : bm_P} {t : Int} (hq : bg_mat q) (hM : matR g q P t) : bg_Si y 1 mX2_countFates [.inr q, .inl s, .inl v] g (fun r g' => r = cntF (if s = 0 then FA P else FB P) v 24 ∧ g' = g) := by
  obtain ⟨s1, -⟩ := id hq
  obtain ⟨F, hF⟩ : ∃ F, F = (if s = 0 then FA P else FB P) := ⟨_, rfl⟩
  rw [← hF]
  have hF2 : ∀ k, (if s = 0 then FA P k else FB P k) = F k := fun k => by rw [hF]; split <;> rfl
  refine bg_enter pnX2 (Nat.le_of_ble_eq_true rfl) (fun κ X hR hg => ?_)
  have X1 : bg_X κ y cX2_countFates RX2 1 0 0 := X.1
  have hg : ∀ a k, R32 (g a k) := hg
  show bg_g κ y 0 [some (.inr q), some (.inl s), some (.inl v), none, none] [] g
  have loop : ∀ (n k : Nat) (r : Int), k + n = 24 → r = cntF F v k → bg_g κ y 5 [some (.inr q), some (.inl s), some (.inl v), some (.inl r), some (.inl (k : Int))] [] g := by
    intro n
    induction n with
    | zero =>
      intro k r hn hr
      refine bg_iload4 (pc := 5) X1 dX2_countFates_5 ?_
      refine bg_bipush (pc := 7) X1 dX2_countFates_7 rfl (by decide) ?_
      refine bg_icmp_ge (pc := 9) X1 (tgt := 32) dX2_countFates_9 (by decide) (fun u9 => ?_) (fun u9 => ?_)
      · refine bg_iload3 (pc := 32) X1 dX2_countFates_32 ?_
        exact bo_iret (pc := 33) X rfl dX2_countFates_33 (fun hi => ⟨by rw [hr, show k = 24 by omega], rfl⟩)
      · exfalso; omega
    | succ n ih =>
      intro k r hn hr
      have := cntF_R F v k
      refine bg_iload4 (pc := 5) X1 dX2_countFates_5 ?_
      refine bg_bipush (pc := 7) X1 dX2_countFates_7 rfl (by decide) ?_
      refine bg_icmp_ge (pc := 9) X1 (tgt := 32) dX2_countFates_9 (by decide) (fun u9 => ?_) (fun u9 => ?_)
      · exfalso; omega
      · refine bg_aload0 (pc := 12) X1 dX2_countFates_12 ?_
        refine bg_iload1 (pc := 13) X1 dX2_countFates_13 ?_
        refine bg_iload4 (pc := 14) X1 dX2_countFates_14 ?_
        refine bo_V2i (pc := 16) X1 (c_X2_fateOf hq hM) vX2_fateOf lX2_76 rfl (by first | assumption | rfl) (by decide) dX2_countFates_16 (by exact Nat.le_of_ble_eq_true rfl) ?_
        rintro _ _ ⟨h9, h8⟩
        obtain rfl := h9.symm
        obtain rfl := h8.symm
        clear h9 h8
        rw [if_pos (⟨by omega, by omega⟩ : 0 ≤ (k : Int) ∧ (k : Int) < 24), hF2, Int.toNat_natCast]
        refine bg_iload2 (pc := 19) X1 dX2_countFates_19 ?_
        refine bg_icmp_ne (pc := 20) X1 (tgt := 26) dX2_countFates_20 (by decide) (fun u20 => ?_) (fun u20 => ?_)
        · refine bg_iinc4 (pc := 26) X1 dX2_countFates_26 (by omega) ?_
          refine bg_goto (pc := 29) X1 (tgt := 5) dX2_countFates_29 (by decide) ?_
          exact ih (k + 1) _ (by omega) (by rw [hr, cntF]; first | rw [if_pos (by assumption)] | rw [if_neg (by assumption), Int.add_zero])
        · refine bg_iinc3 (pc := 23) X1 dX2_countFates_23 (by omega) ?_
          refine bg_iinc4 (pc := 26) X1 dX2_countFates_26 (by omega) ?_
          refine bg_goto (pc := 29) X1 (tgt := 5) dX2_countFates_29 (by decide) ?_
          exact ih (k + 1) _ (by omega) (by rw [hr, cntF]; first | rw [if_pos (by assumption)] | rw [if_neg (by assumption), Int.add_zero])
  refine bg_iconst (pc := 0) X1 dX2_countFates_0 (by decide) ?_
  refine bg_istore3 (pc := 1) X1 dX2_countFates_1 ?_
  refine bg_iconst (pc := 2) X1 dX2_countFates_2 (by decide) ?_
  refine bg_istore4 (pc := 3) X1 dX2_countFates_3 ?_
  exact loop 24 0 _ rfl rfl
theorem c_X2_nextMatch {y : bg_Y} {g : bg_E} {q : Nat} {b : Int} {P : bm_P} {t : Int} (hq : bg_mat q) (hM : matR g q P t) (hb : -1 ≤ b ∧ b < 24) : bg_Si y 1 mX2_nextMatch [.inr q, .inl b] g (fun r g' => r = nn (nxt (FA P) (24 - (b + 1).toNat) (b + 1).toNat) ∧ g' = g) := by
  obtain ⟨s1, -⟩ := id hq
  refine bg_enter pnX2 (Nat.le_of_ble_eq_true rfl) (fun κ X hR hg => ?_)
  have X1 : bg_X κ y cX2_nextMatch RX2 1 0 0 := X.1
  have hg : ∀ a k, R32 (g a k) := hg
  show bg_g κ y 0 [some (.inr q), some (.inl b), none] [] g
  have loop : ∀ (n k : Nat) (a : Int), a = (k : Int) → k + n = 24 → nxt (FA P) (24 - (b + 1).toNat) (b + 1).toNat = nxt (FA P) n k → bg_g κ y 4 [some (.inr q), some (.inl b), some (.inl a)] [] g := by
    intro n
    induction n with
    | zero =>
      intro k a ha hn hr
      refine bg_iload2 (pc := 4) X1 dX2_nextMatch_4 ?_
      refine bg_bipush (pc := 5) X1 dX2_nextMatch_5 rfl (by decide) ?_
      refine bg_icmp_ge (pc := 7) X1 (tgt := 28) dX2_nextMatch_7 (by decide) (fun u7 => ?_) (fun u7 => ?_)
      · refine bg_ldc (pc := 28) X1 dX2_nextMatch_28 kX2_52 (by decide) ?_
        exact bo_iret (pc := 30) X rfl dX2_nextMatch_30 (fun hi => ⟨by rw [hr]; rfl, rfl⟩)
      · exfalso; omega
    | succ n ih =>
      intro k a ha hn hr
      subst ha
      rw [show nxt (FA P) (n + 1) k = (if FA P k = 1 then (k : Int) else nxt (FA P) n (k + 1)) from rfl] at hr
      refine bg_iload2 (pc := 4) X1 dX2_nextMatch_4 ?_
      refine bg_bipush (pc := 5) X1 dX2_nextMatch_5 rfl (by decide) ?_
      refine bg_icmp_ge (pc := 7) X1 (tgt := 28) dX2_nextMatch_7 (by decide) (fun u7 => ?_) (fun u7 => ?_)
      · exfalso; omega
      · refine bg_aload0 (pc := 10) X1 dX2_nextMatch_10 ?_
        refine bg_iconst (pc := 11) X1 dX2_nextMatch_11 (by decide) ?_
        refine bg_iload2 (pc := 12) X1 dX2_nextMatch_12 ?_
        refine bo_V2i (pc := 13) X1 (c_X2_fateOf hq hM) vX2_fateOf lX2_76 rfl (by first | assumption | rfl) (by decide) dX2_nextMatch_13 (by exact Nat.le_of_ble_eq_true rfl) ?_
        rintro _ _ ⟨h9, h8⟩
        obtain rfl := h9.symm
        obtain rfl := h8.symm
        clear h9 h8
        rw [if_pos (⟨by omega, by omega⟩ : 0 ≤ (k : Int) ∧ (k : Int) < 24), if_pos (rfl : (0 : Int) = 0), Int.toNat_natCast]
        refine bg_iconst (pc := 16) X1 dX2_nextMatch_16 (by decide) ?_
        refine bg_icmp_ne (pc := 17) X1 (tgt := 22) dX2_nextMatch_17 (by decide) (fun u17 => ?_) (fun u17 => ?_)
        · rw [if_neg u17] at hr
          refine bg_iinc2 (pc := 22) X1 dX2_nextMatch_22 (by omega) ?_
          refine bg_goto (pc := 25) X1 (tgt := 4) dX2_nextMatch_25 (by decide) ?_
          exact ih (k + 1) _ (by omega) (by omega) hr
        · rw [if_pos u17] at hr
          refine bg_iload2 (pc := 20) X1 dX2_nextMatch_20 ?_
          exact bo_iret (pc := 21) X rfl dX2_nextMatch_21 (fun hi => ⟨by rw [hr, nn_nat], rfl⟩)
  refine bg_iload1 (pc := 0) X1 dX2_nextMatch_0 ?_
  refine bg_iconst (pc := 1) X1 dX2_nextMatch_1 (by decide) ?_
  refine bg_iadd (pc := 2) X1 dX2_nextMatch_2 (by omega) ?_
  refine bg_istore2 (pc := 3) X1 dX2_nextMatch_3 ?_
  exact loop (24 - (b + 1).toNat) (b + 1).toNat _ (by omega) (by omega) rfl
theorem nn_ne {x : Int} (h : x = -1 ∨ 0 ≤ x) : nn x = -1000009 ↔ x = -1 := by
  unfold nn
  split <;> omega
theorem c_X2_hasThrow {y : bg_Y} {g : bg_E} {q k : Nat} {P : bm_P} {t : Int} (hq : bg_mat q) (hM : matR g q P t) (hk : k < 24) : bg_Si y 2 mX2_hasThrow [.inr q, .inl (k : Int)] g (fun r g' => r = b2i (HT P k) ∧ g' = g) := by
  obtain ⟨s1, -⟩ := id hq
  have e0 : nxt (FA P) (24 - ((k : Int) + 1).toNat) ((k : Int) + 1).toNat = NX P k := by
    unfold NX
    congr 1
    omega
  have e1 : NX P k = -1 ∨ 0 ≤ NX P k := by
    rcases nxt_or (FA P) (23 - k) (k + 1) with h | h
    · exact Or.inl h.1
    · exact Or.inr (by have := h.1; unfold NX; omega)
  refine bg_enter pnX2 (Nat.le_of_ble_eq_true rfl) (fun κ X hR hg => ?_)
  have X1 : bg_X κ y cX2_hasThrow RX2 2 0 0 := X.1
  have hg : ∀ a k, R32 (g a k) := hg
  show bg_g κ y 0 [some (.inr q), some (.inl (k : Int))] [] g
  refine bg_aload0 (pc := 0) X1 dX2_hasThrow_0 ?_
  refine bg_iconst (pc := 1) X1 dX2_hasThrow_1 (by decide) ?_
  refine bg_iload1 (pc := 2) X1 dX2_hasThrow_2 ?_
  refine bo_V2i (pc := 3) X1 (c_X2_fateOf hq hM) vX2_fateOf lX2_76 rfl (by first | assumption | rfl) (by decide) dX2_hasThrow_3 (by exact Nat.le_of_ble_eq_true rfl) ?_
  rintro _ _ ⟨h9, h8⟩
  obtain rfl := h9.symm
  obtain rfl := h8.symm
  clear h9 h8
  rw [if_pos (⟨by omega, by omega⟩ : 0 ≤ (k : Int) ∧ (k : Int) < 24), if_pos (rfl : (0 : Int) = 0), Int.toNat_natCast]
  refine bg_iconst (pc := 6) X1 dX2_hasThrow_6 (by decide) ?_
  refine bg_icmp_ne (pc := 7) X1 (tgt := 24) dX2_hasThrow_7 (by decide) (fun u7 => ?_) (fun u7 => ?_)
  · refine bg_iconst (pc := 24) X1 dX2_hasThrow_24 (by decide) ?_
    exact bo_zret (pc := 25) X rfl (by first | exact Or.inl rfl | exact Or.inr rfl | exact b2i_01 _) dX2_hasThrow_25 (⟨by first | exact (b2i_t ⟨by assumption, by omega⟩).symm | exact (b2i_f (fun h => by have := h.2; omega)).symm | exact (b2i_f (fun h => absurd h.1 (by assumption))).symm, rfl⟩)
  · refine bg_aload0 (pc := 10) X1 dX2_hasThrow_10 ?_
    refine bg_iload1 (pc := 11) X1 dX2_hasThrow_11 ?_
    refine bo_V1i (pc := 12) X1 (c_X2_nextMatch hq hM (by omega)) vX2_nextMatch lX2_79 rfl (by first | assumption | rfl) (by decide) dX2_hasThrow_12 (by exact Nat.le_of_ble_eq_true rfl) ?_
    rintro _ _ ⟨h9, h8⟩
    obtain rfl := h9.symm
    obtain rfl := h8.symm
    clear h9 h8
    rw [e0]
    refine bg_ldc (pc := 15) X1 dX2_hasThrow_15 kX2_52 (by decide) ?_
    refine bg_icmp_eq (pc := 17) X1 (tgt := 24) dX2_hasThrow_17 (by decide) (fun u17 => ?_) (fun u17 => ?_)
    · rw [nn_ne e1] at u17
      refine bg_iconst (pc := 24) X1 dX2_hasThrow_24 (by decide) ?_
      exact bo_zret (pc := 25) X rfl (by first | exact Or.inl rfl | exact Or.inr rfl | exact b2i_01 _) dX2_hasThrow_25 (⟨by first | exact (b2i_t ⟨by assumption, by omega⟩).symm | exact (b2i_f (fun h => by have := h.2; omega)).symm | exact (b2i_f (fun h => absurd h.1 (by assumption))).symm, rfl⟩)
    · rw [nn_ne e1] at u17
      refine bg_iconst (pc := 20) X1 dX2_hasThrow_20 (by decide) ?_
      refine bg_goto (pc := 21) X1 (tgt := 25) dX2_hasThrow_21 (by decide) ?_
      exact bo_zret (pc := 25) X rfl (by first | exact Or.inl rfl | exact Or.inr rfl | exact b2i_01 _) dX2_hasThrow_25 (⟨by first | exact (b2i_t ⟨by assumption, by omega⟩).symm | exact (b2i_f (fun h => by have := h.2; omega)).symm | exact (b2i_f (fun h => absurd h.1 (by assumption))).symm, rfl⟩)
theorem c_X2_throwBelow {y : bg_Y} {g : bg_E} {q k : Nat} {P : bm_P} {t : Int} (hq : bg_mat q) (hM : matR g q P t) (hok : okP P) (hk : k < 24) : bg_Si y 3 mX2_throwBelow [.inr q, .inl (k : Int)] g (fun r g' => r = (if HT P k then TH P k else 0) ∧ g' = g) := by
  obtain ⟨s1, s2, s3, s4, s5, s6, s7, s8, s9, s10, s11, s12, s13, s14, s15, s16, s17, s18, s19⟩ := id hq
  obtain ⟨⟨p1, p2, -⟩, -⟩ := id hM
  have e0 : nxt (FA P) (24 - ((k : Int) + 1).toNat) ((k : Int) + 1).toNat = NX P k := by
    unfold NX
    congr 1
    omega
  have na := hok.1.2
  have nb := hok.2.1.2
  refine bg_enter pnX2 (Nat.le_of_ble_eq_true rfl) (fun κ X hR hg => ?_)
  have X1 : bg_X κ y cX2_throwBelow RX2 3 0 0 := X.1
  have hg : ∀ a k, R32 (g a k) := hg
  show bg_g κ y 0 [some (.inr q), some (.inl (k : Int)), none, none, none] [] g
  refine bg_aload0 (pc := 0) X1 dX2_throwBelow_0 ?_
  refine bg_iload1 (pc := 1) X1 dX2_throwBelow_1 ?_
  refine bo_V1i (pc := 2) X1 (c_X2_hasThrow hq hM hk) vX2_hasThrow lX2_82 rfl (by first | assumption | rfl) (by decide) dX2_throwBelow_2 (by exact Nat.le_of_ble_eq_true rfl) ?_
  rintro _ _ ⟨h9, h8⟩
  obtain rfl := h9.symm
  obtain rfl := h8.symm
  clear h9 h8
  refine bo_ifne_b (pc := 5) X1 (tgt := 10) dX2_throwBelow_5 (by decide) (fun u5 => ?_) (fun u5 => ?_)
  · obtain ⟨z1, z2, z3, z4, z5, z6⟩ := HT_go hok u5
    have d1 := dep_le hok.1.1 (n := (NX P k).toNat) (by omega)
    have d2 := dep_le hok.1.1 (n := k) (by omega)
    have d3 := dep_le hok.2.1.1 (n := (PA P (NX P k).toNat).toNat) (by omega)
    have d4 := dep_le hok.2.1.1 (n := (PA P k).toNat) (by omega)
    have n1 : nn (NX P k) = NX P k := if_neg (by omega)
    have n2 : nn (PA P (NX P k).toNat) = PA P (NX P k).toNat := if_neg (by omega)
    have n3 : nn (PA P k) = PA P k := if_neg (by omega)
    refine bg_aload0 (pc := 10) X1 dX2_throwBelow_10 ?_
    refine bg_iload1 (pc := 11) X1 dX2_throwBelow_11 ?_
    refine bo_V1i (pc := 12) X1 (c_X2_nextMatch hq hM (by omega)) vX2_nextMatch lX2_79 rfl (by first | assumption | rfl) (by decide) dX2_throwBelow_12 (by exact Nat.le_of_ble_eq_true rfl) ?_
    rintro _ _ ⟨h9, h8⟩
    obtain rfl := h9.symm
    obtain rfl := h8.symm
    clear h9 h8
    rw [e0, n1]
    refine bg_istore2 (pc := 15) X1 dX2_throwBelow_15 ?_
    refine bg_aload0 (pc := 16) X1 dX2_throwBelow_16 ?_
    refine bo_getR (pc := 17) X1 dX2_throwBelow_17 fX2_12 (by first | assumption | rfl) rfl (by first | assumption | rfl) ?_
    refine bo_V0r (pc := 20) X1 (c_X3_columnA hq) vX3_columnA lX2_86 rfl (by first | assumption | rfl) (by decide) dX2_throwBelow_20 (by exact Nat.le_of_ble_eq_true rfl) ?_
    rintro _ _ ⟨h9, h8⟩
    obtain rfl := h9.symm
    obtain rfl := h8.symm
    clear h9 h8
    refine bg_iload2 (pc := 23) X1 dX2_throwBelow_23 ?_
    refine bo_V1i (pc := 24) X1 (c_X0_depthOf s12 p1 hok.1.1 (by omega)) vX0_depthOf lX2_90 rfl s12.1 (by decide) dX2_throwBelow_24 (by exact Nat.le_of_ble_eq_true rfl) ?_
    rintro _ _ ⟨h9, h8⟩
    obtain rfl := h9.symm
    obtain rfl := h8.symm
    clear h9 h8
    refine bg_aload0 (pc := 27) X1 dX2_throwBelow_27 ?_
    refine bo_getR (pc := 28) X1 dX2_throwBelow_28 fX2_12 (by first | assumption | rfl) rfl (by first | assumption | rfl) ?_
    refine bo_V0r (pc := 31) X1 (c_X3_columnA hq) vX3_columnA lX2_86 rfl (by first | assumption | rfl) (by decide) dX2_throwBelow_31 (by exact Nat.le_of_ble_eq_true rfl) ?_
    rintro _ _ ⟨h9, h8⟩
    obtain rfl := h9.symm
    obtain rfl := h8.symm
    clear h9 h8
    refine bg_iload1 (pc := 34) X1 dX2_throwBelow_34 ?_
    refine bo_V1i (pc := 35) X1 (c_X0_depthOf s12 p1 hok.1.1 (by omega)) vX0_depthOf lX2_90 rfl s12.1 (by decide) dX2_throwBelow_35 (by exact Nat.le_of_ble_eq_true rfl) ?_
    rintro _ _ ⟨h9, h8⟩
    obtain rfl := h9.symm
    obtain rfl := h8.symm
    clear h9 h8
    refine bg_isub (pc := 38) X1 dX2_throwBelow_38 (by first | omega | (simp only [Int.toNat_natCast]; omega)) ?_
    refine bg_istore3 (pc := 39) X1 dX2_throwBelow_39 ?_
    refine bg_aload0 (pc := 40) X1 dX2_throwBelow_40 ?_
    refine bo_getR (pc := 41) X1 dX2_throwBelow_41 fX2_12 (by first | assumption | rfl) rfl (by first | assumption | rfl) ?_
    refine bo_V0r (pc := 44) X1 (c_X3_columnB hq) vX3_columnB lX2_95 rfl (by first | assumption | rfl) (by decide) dX2_throwBelow_44 (by exact Nat.le_of_ble_eq_true rfl) ?_
    rintro _ _ ⟨h9, h8⟩
    obtain rfl := h9.symm
    obtain rfl := h8.symm
    clear h9 h8
    refine bg_aload0 (pc := 47) X1 dX2_throwBelow_47 ?_
    refine bg_iconst (pc := 48) X1 dX2_throwBelow_48 (by decide) ?_
    refine bg_iload2 (pc := 49) X1 dX2_throwBelow_49 ?_
    refine bo_V2i (pc := 50) X1 (c_X2_partnerOf hq hM) vX2_partnerOf lX2_98 rfl (by first | assumption | rfl) (by decide) dX2_throwBelow_50 (by exact Nat.le_of_ble_eq_true rfl) ?_
    rintro _ _ ⟨h9, h8⟩
    obtain rfl := h9.symm
    obtain rfl := h8.symm
    clear h9 h8
    rw [if_pos (⟨by omega, by omega⟩ : 0 ≤ NX P k ∧ NX P k < 24), if_pos (rfl : (0 : Int) = 0), n2]
    refine bo_V1i (pc := 53) X1 (c_X0_depthOf s13 p2 hok.2.1.1 (by omega)) vX0_depthOf lX2_90 rfl s13.1 (by decide) dX2_throwBelow_53 (by exact Nat.le_of_ble_eq_true rfl) ?_
    rintro _ _ ⟨h9, h8⟩
    obtain rfl := h9.symm
    obtain rfl := h8.symm
    clear h9 h8
    refine bg_aload0 (pc := 56) X1 dX2_throwBelow_56 ?_
    refine bo_getR (pc := 57) X1 dX2_throwBelow_57 fX2_12 (by first | assumption | rfl) rfl (by first | assumption | rfl) ?_
    refine bo_V0r (pc := 60) X1 (c_X3_columnB hq) vX3_columnB lX2_95 rfl (by first | assumption | rfl) (by decide) dX2_throwBelow_60 (by exact Nat.le_of_ble_eq_true rfl) ?_
    rintro _ _ ⟨h9, h8⟩
    obtain rfl := h9.symm
    obtain rfl := h8.symm
    clear h9 h8
    refine bg_aload0 (pc := 63) X1 dX2_throwBelow_63 ?_
    refine bg_iconst (pc := 64) X1 dX2_throwBelow_64 (by decide) ?_
    refine bg_iload1 (pc := 65) X1 dX2_throwBelow_65 ?_
    refine bo_V2i (pc := 66) X1 (c_X2_partnerOf hq hM) vX2_partnerOf lX2_98 rfl (by first | assumption | rfl) (by decide) dX2_throwBelow_66 (by exact Nat.le_of_ble_eq_true rfl) ?_
    rintro _ _ ⟨h9, h8⟩
    obtain rfl := h9.symm
    obtain rfl := h8.symm
    clear h9 h8
    rw [if_pos (⟨by omega, by omega⟩ : 0 ≤ (k : Int) ∧ (k : Int) < 24), if_pos (rfl : (0 : Int) = 0), Int.toNat_natCast, n3]
    refine bo_V1i (pc := 69) X1 (c_X0_depthOf s13 p2 hok.2.1.1 (by omega)) vX0_depthOf lX2_90 rfl s13.1 (by decide) dX2_throwBelow_69 (by exact Nat.le_of_ble_eq_true rfl) ?_
    rintro _ _ ⟨h9, h8⟩
    obtain rfl := h9.symm
    obtain rfl := h8.symm
    clear h9 h8
    refine bg_isub (pc := 72) X1 dX2_throwBelow_72 (by omega) ?_
    refine bg_istore4 (pc := 73) X1 dX2_throwBelow_73 ?_
    refine bg_iload3 (pc := 75) X1 dX2_throwBelow_75 ?_
    refine bg_iload4 (pc := 76) X1 dX2_throwBelow_76 ?_
    refine bg_isub (pc := 78) X1 dX2_throwBelow_78 (by first | omega | (simp only [Int.toNat_natCast]; omega)) ?_
    exact bo_iret (pc := 79) X rfl dX2_throwBelow_79 (fun hi => ⟨by rw [if_pos u5]; rfl, rfl⟩)
  · refine bg_iconst (pc := 8) X1 dX2_throwBelow_8 (by decide) ?_
    exact bo_iret (pc := 9) X rfl dX2_throwBelow_9 (fun hi => ⟨by rw [if_neg u5], rfl⟩)
theorem c_X2_hasFault {y : bg_Y} {g : bg_E} {q k : Nat} {P : bm_P} {t : Int} (hq : bg_mat q) (hM : matR g q P t) (hok : okP P) (hk : k < 24) : bg_Si y 4 mX2_hasFault [.inr q, .inl (k : Int)] g (fun r g' => r = b2i (FT P t k) ∧ g' = g) := by
  obtain ⟨s1, -⟩ := id hq
  have h5 := hM.2.2.1
  refine bg_enter pnX2 (Nat.le_of_ble_eq_true rfl) (fun κ X hR hg => ?_)
  have X1 : bg_X κ y cX2_hasFault RX2 4 0 0 := X.1
  have hg : ∀ a k, R32 (g a k) := hg
  show bg_g κ y 0 [some (.inr q), some (.inl (k : Int))] [] g
  refine bg_aload0 (pc := 0) X1 dX2_hasFault_0 ?_
  refine bg_iload1 (pc := 1) X1 dX2_hasFault_1 ?_
  refine bo_V1i (pc := 2) X1 (c_X2_hasThrow hq hM hk) vX2_hasThrow lX2_82 rfl (by first | assumption | rfl) (by decide) dX2_hasFault_2 (by exact Nat.le_of_ble_eq_true rfl) ?_
  rintro _ _ ⟨h9, h8⟩
  obtain rfl := h9.symm
  obtain rfl := h8.symm
  clear h9 h8
  refine bo_ifeq_b (pc := 5) X1 (tgt := 27) dX2_hasFault_5 (by decide) (fun u5 => ?_) (fun u5 => ?_)
  · refine bg_iconst (pc := 27) X1 dX2_hasFault_27 (by decide) ?_
    exact bo_zret (pc := 28) X rfl (by first | exact Or.inl rfl | exact Or.inr rfl | exact b2i_01 _) dX2_hasFault_28 (⟨by first | exact (b2i_t ⟨u5, by omega⟩).symm | exact (b2i_f (fun h => by have := h.2; omega)).symm | exact (b2i_f (fun h => u5 h.1)).symm, rfl⟩)
  · have z1 := TH_R hok u5
    refine bg_aload0 (pc := 8) X1 dX2_hasFault_8 ?_
    refine bg_iload1 (pc := 9) X1 dX2_hasFault_9 ?_
    refine bo_V1i (pc := 10) X1 (c_X2_throwBelow hq hM hok hk) vX2_throwBelow lX2_101 rfl (by first | assumption | rfl) (by decide) dX2_hasFault_10 (by exact Nat.le_of_ble_eq_true rfl) ?_
    rintro _ _ ⟨h9, h8⟩
    obtain rfl := h9.symm
    obtain rfl := h8.symm
    clear h9 h8
    rw [if_pos u5]
    refine bo_abs (pc := 13) X1 lX2_104 (by decide) (by omega) dX2_hasFault_13 (by exact Nat.le_of_ble_eq_true rfl) ?_
    refine bg_aload0 (pc := 16) X1 dX2_hasFault_16 ?_
    refine bo_getI (pc := 17) X1 dX2_hasFault_17 fX2_31 (by first | assumption | rfl) rfl ?_
    refine bg_icmp_lt (pc := 20) X1 (tgt := 27) dX2_hasFault_20 (by decide) (fun u20 => ?_) (fun u20 => ?_)
    · refine bg_iconst (pc := 27) X1 dX2_hasFault_27 (by decide) ?_
      exact bo_zret (pc := 28) X rfl (by first | exact Or.inl rfl | exact Or.inr rfl | exact b2i_01 _) dX2_hasFault_28 (⟨by first | exact (b2i_t ⟨u5, by omega⟩).symm | exact (b2i_f (fun h => by have := h.2; omega)).symm | exact (b2i_f (fun h => u5 h.1)).symm, rfl⟩)
    · refine bg_iconst (pc := 23) X1 dX2_hasFault_23 (by decide) ?_
      refine bg_goto (pc := 24) X1 (tgt := 28) dX2_hasFault_24 (by decide) ?_
      exact bo_zret (pc := 28) X rfl (by first | exact Or.inl rfl | exact Or.inr rfl | exact b2i_01 _) dX2_hasFault_28 (⟨by first | exact (b2i_t ⟨u5, by omega⟩).symm | exact (b2i_f (fun h => by have := h.2; omega)).symm | exact (b2i_f (fun h => u5 h.1)).symm, rfl⟩)
theorem c_X2_faultCount {y : bg_Y} {g : bg_E} {q : Nat} {P : bm_P} {t : Int} (hq : bg_mat q) (hM : matR g q P t) (hok : okP P) : bg_Si y 5 mX2_faultCount [.inr q] g (fun r g' => r = (((TT P).filter (fF t)).length : Int) ∧ g' = g) := by
  obtain ⟨s1, -⟩ := id hq
  refine bg_enter pnX2 (Nat.le_of_ble_eq_true rfl) (fun κ X hR hg => ?_)
  have X1 : bg_X κ y cX2_faultCount RX2 5 0 0 := X.1
  have hg : ∀ a k, R32 (g a k) := hg
  show bg_g κ y 0 [some (.inr q), none, none] [] g
  have loop : ∀ (n k : Nat) (r : Int), k + n = 24 → r = (((TTn P k).filter (fF t)).length : Int) → bg_g κ y 4 [some (.inr q), some (.inl r), some (.inl (k : Int))] [] g := by
    intro n
    induction n with
    | zero =>
      intro k r hn hr
      refine bg_iload2 (pc := 4) X1 dX2_faultCount_4 ?_
      refine bg_bipush (pc := 5) X1 dX2_faultCount_5 rfl (by decide) ?_
      refine bg_icmp_ge (pc := 7) X1 (tgt := 27) dX2_faultCount_7 (by decide) (fun u7 => ?_) (fun u7 => ?_)
      · refine bg_iload1 (pc := 27) X1 dX2_faultCount_27 ?_
        exact bo_iret (pc := 28) X rfl dX2_faultCount_28 (fun hi => ⟨by rw [hr, show k = 24 by omega]; rfl, rfl⟩)
      · exfalso; omega
    | succ n ih =>
      intro k r hn hr
      have := TTf_len P t k
      refine bg_iload2 (pc := 4) X1 dX2_faultCount_4 ?_
      refine bg_bipush (pc := 5) X1 dX2_faultCount_5 rfl (by decide) ?_
      refine bg_icmp_ge (pc := 7) X1 (tgt := 27) dX2_faultCount_7 (by decide) (fun u7 => ?_) (fun u7 => ?_)
      · exfalso; omega
      · refine bg_aload0 (pc := 10) X1 dX2_faultCount_10 ?_
        refine bg_iload2 (pc := 11) X1 dX2_faultCount_11 ?_
        refine bo_V1i (pc := 12) X1 (c_X2_hasFault hq hM hok (by omega)) vX2_hasFault lX2_112 rfl (by first | assumption | rfl) (by decide) dX2_faultCount_12 (by exact Nat.le_of_ble_eq_true rfl) ?_
        rintro _ _ ⟨h9, h8⟩
        obtain rfl := h9.symm
        obtain rfl := h8.symm
        clear h9 h8
        refine bo_ifeq_b (pc := 15) X1 (tgt := 21) dX2_faultCount_15 (by decide) (fun u15 => ?_) (fun u15 => ?_)
        · refine bg_iinc2 (pc := 21) X1 dX2_faultCount_21 (by omega) ?_
          refine bg_goto (pc := 24) X1 (tgt := 4) dX2_faultCount_24 (by decide) ?_
          exact ih (k + 1) _ (by omega) (by rw [hr, TTf_s, List.length_append]; first | (rw [if_pos u15]; rfl) | (rw [if_neg u15]; rfl))
        · refine bg_iinc1 (pc := 18) X1 dX2_faultCount_18 (by omega) ?_
          refine bg_iinc2 (pc := 21) X1 dX2_faultCount_21 (by omega) ?_
          refine bg_goto (pc := 24) X1 (tgt := 4) dX2_faultCount_24 (by decide) ?_
          exact ih (k + 1) _ (by omega) (by rw [hr, TTf_s, List.length_append]; first | (rw [if_pos u15]; rfl) | (rw [if_neg u15]; rfl))
  refine bg_iconst (pc := 0) X1 dX2_faultCount_0 (by decide) ?_
  refine bg_istore1 (pc := 1) X1 dX2_faultCount_1 ?_
  refine bg_iconst (pc := 2) X1 dX2_faultCount_2 (by decide) ?_
  refine bg_istore2 (pc := 3) X1 dX2_faultCount_3 ?_
  exact loop 24 0 _ rfl rfl
def getT (l : List bm_T) (i : Nat) : Int := match l[i]? with
  | some e => e.1
  | none => -1000009
theorem c_X2_bedAheadOfFault {y : bg_Y} {g : bg_E} {q : Nat} {i : Int} {P : bm_P} {t : Int} (hq : bg_mat q) (hM : matR g q P t) (hok : okP P) (hi : 0 ≤ i) : bg_Si y 5 mX2_bedAheadOfFault [.inr q, .inl i] g (fun r g' => r = getT ((TT P).filter (fF t)) i.toNat ∧ g' = g) := by
  obtain ⟨s1, -⟩ := id hq
  refine bg_enter pnX2 (Nat.le_of_ble_eq_true rfl) (fun κ X hR hg => ?_)
  have X1 : bg_X κ y cX2_bedAheadOfFault RX2 5 0 0 := X.1
  have hg : ∀ a k, R32 (g a k) := hg
  show bg_g κ y 0 [some (.inr q), some (.inl i), none, none] [] g
  have loop : ∀ (n k : Nat) (r : Int), k + n = 24 → r = (((TTn P k).filter (fF t)).length : Int) → r ≤ i → bg_g κ y 4 [some (.inr q), some (.inl i), some (.inl r), some (.inl (k : Int))] [] g := by
    intro n
    induction n with
    | zero =>
      intro k r hn hr hri
      obtain rfl : k = 24 := by omega
      refine bg_iload3 (pc := 4) X1 dX2_bedAheadOfFault_4 ?_
      refine bg_bipush (pc := 5) X1 dX2_bedAheadOfFault_5 rfl (by decide) ?_
      refine bg_icmp_ge (pc := 7) X1 (tgt := 34) dX2_bedAheadOfFault_7 (by decide) (fun u7 => ?_) (fun u7 => ?_)
      · refine bg_ldc (pc := 34) X1 dX2_bedAheadOfFault_34 kX2_52 (by decide) ?_
        exact bo_iret (pc := 36) X rfl dX2_bedAheadOfFault_36 (fun hi => ⟨by unfold getT TT; rw [List.getElem?_eq_none (by omega)], rfl⟩)
      · exfalso; omega
    | succ n ih =>
      intro k r hn hr hri
      have := TTf_len P t k
      refine bg_iload3 (pc := 4) X1 dX2_bedAheadOfFault_4 ?_
      refine bg_bipush (pc := 5) X1 dX2_bedAheadOfFault_5 rfl (by decide) ?_
      refine bg_icmp_ge (pc := 7) X1 (tgt := 34) dX2_bedAheadOfFault_7 (by decide) (fun u7 => ?_) (fun u7 => ?_)
      · exfalso; omega
      · refine bg_aload0 (pc := 10) X1 dX2_bedAheadOfFault_10 ?_
        refine bg_iload3 (pc := 11) X1 dX2_bedAheadOfFault_11 ?_
        refine bo_V1i (pc := 12) X1 (c_X2_hasFault hq hM hok (by omega)) vX2_hasFault lX2_112 rfl (by first | assumption | rfl) (by decide) dX2_bedAheadOfFault_12 (by exact Nat.le_of_ble_eq_true rfl) ?_
        rintro _ _ ⟨h9, h8⟩
        obtain rfl := h9.symm
        obtain rfl := h8.symm
        clear h9 h8
        refine bo_ifeq_b (pc := 15) X1 (tgt := 28) dX2_bedAheadOfFault_15 (by decide) (fun u15 => ?_) (fun u15 => ?_)
        · refine bg_iinc3 (pc := 28) X1 dX2_bedAheadOfFault_28 (by omega) ?_
          refine bg_goto (pc := 31) X1 (tgt := 4) dX2_bedAheadOfFault_31 (by decide) ?_
          exact ih (k + 1) _ (by omega) (by rw [hr, TTf_s, List.length_append]; first | (rw [if_pos u15]; rfl) | (rw [if_neg u15]; rfl)) (by omega)
        · refine bg_iload2 (pc := 18) X1 dX2_bedAheadOfFault_18 ?_
          refine bg_iload1 (pc := 19) X1 dX2_bedAheadOfFault_19 ?_
          refine bg_icmp_ne (pc := 20) X1 (tgt := 25) dX2_bedAheadOfFault_20 (by decide) (fun u20 => ?_) (fun u20 => ?_)
          · refine bg_iinc2 (pc := 25) X1 dX2_bedAheadOfFault_25 (by omega) ?_
            refine bg_iinc3 (pc := 28) X1 dX2_bedAheadOfFault_28 (by omega) ?_
            refine bg_goto (pc := 31) X1 (tgt := 4) dX2_bedAheadOfFault_31 (by decide) ?_
            exact ih (k + 1) _ (by omega) (by rw [hr, TTf_s, List.length_append]; first | (rw [if_pos u15]; rfl) | (rw [if_neg u15]; rfl)) (by omega)
          · refine bg_iload3 (pc := 23) X1 dX2_bedAheadOfFault_23 ?_
            exact bo_iret (pc := 24) X rfl dX2_bedAheadOfFault_24 (fun hi => ⟨by
                have e2 : (TTn P (k + 1)).filter (fF t) = (TTn P k).filter (fF t) ++ [((k : Int), TH P k, RS P k)] := by rw [TTf_s, if_pos u15]
                have e3 := TTf_get P t i.toNat (k + 1) (by rw [e2, List.length_append, List.length_singleton]; omega) (23 - k)
                rw [show k + 1 + (23 - k) = 24 by omega, e2, List.getElem?_append_right (by omega), show i.toNat - ((TTn P k).filter (fF t)).length = 0 by omega] at e3
                unfold getT TT
                rw [e3]; rfl, rfl⟩)
  refine bg_iconst (pc := 0) X1 dX2_bedAheadOfFault_0 (by decide) ?_
  refine bg_istore2 (pc := 1) X1 dX2_bedAheadOfFault_1 ?_
  refine bg_iconst (pc := 2) X1 dX2_bedAheadOfFault_2 (by decide) ?_
  refine bg_istore3 (pc := 3) X1 dX2_bedAheadOfFault_3 ?_
  exact loop 24 0 _ rfl rfl hi
theorem sumTn_R {P : bm_P} (h : okP P) (t : Int) (b : Bool) : ∀ n : Nat, -5000 * (n : Int) ≤ sumT (if b then (TTn P n).filter (fF t) else TTn P n) ∧ sumT (if b then (TTn P n).filter (fF t) else TTn P n) ≤ 5000 * n
  | 0 => by cases b <;> simp [TTn, sumT]
  | n + 1 => by
    have ih := sumTn_R h t b n
    cases b with
    | true =>
      simp only [if_true] at ih ⊢
      rw [TTf_s, sumT_app]
      by_cases hf : FT P t n
      · have := TH_R h hf.1
        rw [if_pos hf]
        show _ ≤ _ + (TH P n + 0) ∧ _ + (TH P n + 0) ≤ _
        omega
      · rw [if_neg hf]
        show _ ≤ _ + 0 ∧ _ + 0 ≤ _
        omega
    | false =>
      simp only [Bool.false_eq_true, if_false] at ih ⊢
      rw [TTn_s, sumT_app]
      by_cases hf : HT P n
      · have := TH_R h hf
        rw [if_pos hf]
        show _ ≤ _ + (TH P n + 0) ∧ _ + (TH P n + 0) ≤ _
        omega
      · rw [if_neg hf]
        show _ ≤ _ + 0 ∧ _ + 0 ≤ _
        omega
theorem c_X2_totalThrow {y : bg_Y} {g : bg_E} {q : Nat} {b : Bool} {P : bm_P} {t : Int} (hq : bg_mat q) (hM : matR g q P t) (hok : okP P) : bg_Si y 5 mX2_totalThrow [.inr q, .inl (if b then 1 else 0)] g (fun r g' => r = sumT (if b then (TT P).filter (fF t) else TT P) ∧ g' = g) := by
  obtain ⟨s1, -⟩ := id hq
  refine bg_enter pnX2 (Nat.le_of_ble_eq_true rfl) (fun κ X hR hg => ?_)
  have X1 : bg_X κ y cX2_totalThrow RX2 5 0 0 := X.1
  have hg : ∀ a k, R32 (g a k) := hg
  show bg_g κ y 0 [some (.inr q), some (.inl (if b then 1 else 0)), none, none] [] g
  have loop : ∀ (n k : Nat) (r : Int), k + n = 24 → r = sumT (if b then (TTn P k).filter (fF t) else TTn P k) → bg_g κ y 4 [some (.inr q), some (.inl (if b then 1 else 0)), some (.inl r), some (.inl (k : Int))] [] g := by
    intro n
    induction n with
    | zero =>
      intro k r hn hr
      refine bg_iload3 (pc := 4) X1 dX2_totalThrow_4 ?_
      refine bg_bipush (pc := 5) X1 dX2_totalThrow_5 rfl (by decide) ?_
      refine bg_icmp_ge (pc := 7) X1 (tgt := 36) dX2_totalThrow_7 (by decide) (fun u7 => ?_) (fun u7 => ?_)
      · refine bg_iload2 (pc := 36) X1 dX2_totalThrow_36 ?_
        exact bo_iret (pc := 37) X rfl dX2_totalThrow_37 (fun hi => ⟨by rw [hr, show k = 24 by omega]; rfl, rfl⟩)
      · exfalso; omega
    | succ n ih =>
      intro k r hn hr
      have hR := sumTn_R hok t b k
      rw [← hr] at hR
      have hTR : -5000 ≤ (if HT P k then TH P k else 0) ∧ (if HT P k then TH P k else 0) ≤ 5000 := by
        split
        · exact TH_R hok (by assumption)
        · omega
      have fin : bg_g κ y 22 [some (.inr q), some (.inl (if b then 1 else 0)), some (.inl r), some (.inl (k : Int))] [] g ∨ True := Or.inr trivial
      refine bg_iload3 (pc := 4) X1 dX2_totalThrow_4 ?_
      refine bg_bipush (pc := 5) X1 dX2_totalThrow_5 rfl (by decide) ?_
      refine bg_icmp_ge (pc := 7) X1 (tgt := 36) dX2_totalThrow_7 (by decide) (fun u7 => ?_) (fun u7 => ?_)
      · exfalso; omega
      · refine bg_iload1 (pc := 10) X1 dX2_totalThrow_10 ?_
        refine bg_if_eq (pc := 11) X1 (tgt := 22) dX2_totalThrow_11 (by decide) (fun u11 => ?_) (fun u11 => ?_)
        · have hb : b = false := by cases b with
            | true => simp at u11
            | false => rfl
          have e1 : sumT (if b then (TTn P (k + 1)).filter (fF t) else TTn P (k + 1)) = r + (if HT P k then TH P k else 0) := by
            subst hb
            simp only [Bool.false_eq_true, if_false] at hr ⊢
            rw [TTn_s, sumT_app, hr]
            by_cases h : HT P k
            · rw [if_pos h, if_pos h]; show _ + (TH P k + 0) = _; omega
            · rw [if_neg h, if_neg h]; rfl
          refine bg_iload2 (pc := 22) X1 dX2_totalThrow_22 ?_
          refine bg_aload0 (pc := 23) X1 dX2_totalThrow_23 ?_
          refine bg_iload3 (pc := 24) X1 dX2_totalThrow_24 ?_
          refine bo_V1i (pc := 25) X1 (c_X2_throwBelow hq hM hok (by omega)) vX2_throwBelow lX2_101 rfl (by first | assumption | rfl) (by decide) dX2_totalThrow_25 (by exact Nat.le_of_ble_eq_true rfl) ?_
          rintro _ _ ⟨h9, h8⟩
          obtain rfl := h9.symm
          obtain rfl := h8.symm
          clear h9 h8
          refine bg_iadd (pc := 28) X1 dX2_totalThrow_28 (by omega) ?_
          refine bg_istore2 (pc := 29) X1 dX2_totalThrow_29 ?_
          refine bg_iinc3 (pc := 30) X1 dX2_totalThrow_30 (by omega) ?_
          refine bg_goto (pc := 33) X1 (tgt := 4) dX2_totalThrow_33 (by decide) ?_
          exact ih (k + 1) _ (by omega) e1.symm
        · have hb : b = true := by cases b with
            | true => rfl
            | false => simp at u11
          refine bg_aload0 (pc := 14) X1 dX2_totalThrow_14 ?_
          refine bg_iload3 (pc := 15) X1 dX2_totalThrow_15 ?_
          refine bo_V1i (pc := 16) X1 (c_X2_hasFault hq hM hok (by omega)) vX2_hasFault lX2_112 rfl (by first | assumption | rfl) (by decide) dX2_totalThrow_16 (by exact Nat.le_of_ble_eq_true rfl) ?_
          rintro _ _ ⟨h9, h8⟩
          obtain rfl := h9.symm
          obtain rfl := h8.symm
          clear h9 h8
          refine bo_ifeq_b (pc := 19) X1 (tgt := 30) dX2_totalThrow_19 (by decide) (fun u19 => ?_) (fun u19 => ?_)
          · have e1 : sumT (if b then (TTn P (k + 1)).filter (fF t) else TTn P (k + 1)) = r := by
              subst hb
              simp only [if_true] at hr ⊢
              rw [TTf_s, sumT_app, hr, if_neg u19]
              exact Int.add_zero _
            refine bg_iinc3 (pc := 30) X1 dX2_totalThrow_30 (by omega) ?_
            refine bg_goto (pc := 33) X1 (tgt := 4) dX2_totalThrow_33 (by decide) ?_
            exact ih (k + 1) _ (by omega) e1.symm
          · have e1 : sumT (if b then (TTn P (k + 1)).filter (fF t) else TTn P (k + 1)) = r + (if HT P k then TH P k else 0) := by
              subst hb
              simp only [if_true] at hr ⊢
              rw [TTf_s, sumT_app, hr, if_pos u19, if_pos u19.1]
              show _ + (TH P k + 0) = _
              omega
            refine bg_iload2 (pc := 22) X1 dX2_totalThrow_22 ?_
            refine bg_aload0 (pc := 23) X1 dX2_totalThrow_23 ?_
            refine bg_iload3 (pc := 24) X1 dX2_totalThrow_24 ?_
            refine bo_V1i (pc := 25) X1 (c_X2_throwBelow hq hM hok (by omega)) vX2_throwBelow lX2_101 rfl (by first | assumption | rfl) (by decide) dX2_totalThrow_25 (by exact Nat.le_of_ble_eq_true rfl) ?_
            rintro _ _ ⟨h9, h8⟩
            obtain rfl := h9.symm
            obtain rfl := h8.symm
            clear h9 h8
            refine bg_iadd (pc := 28) X1 dX2_totalThrow_28 (by omega) ?_
            refine bg_istore2 (pc := 29) X1 dX2_totalThrow_29 ?_
            refine bg_iinc3 (pc := 30) X1 dX2_totalThrow_30 (by omega) ?_
            refine bg_goto (pc := 33) X1 (tgt := 4) dX2_totalThrow_33 (by decide) ?_
            exact ih (k + 1) _ (by omega) e1.symm
  refine bg_iconst (pc := 0) X1 dX2_totalThrow_0 (by decide) ?_
  refine bg_istore2 (pc := 1) X1 dX2_totalThrow_1 ?_
  refine bg_iconst (pc := 2) X1 dX2_totalThrow_2 (by decide) ?_
  refine bg_istore3 (pc := 3) X1 dX2_totalThrow_3 ?_
  exact loop 24 0 _ rfl (by cases b <;> rfl)
