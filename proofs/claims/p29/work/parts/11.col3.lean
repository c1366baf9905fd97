/-! columns that change -/
def insB (q : bm_Q) (i : Nat) (p : Int × Int) : bm_Q := q.take i ++ p :: q.drop i
def delB (q : bm_Q) (i : Nat) : bm_Q := q.take i ++ q.drop (i + 1)
theorem insB_length {q : bm_Q} {i : Nat} {p : Int × Int} (h : i ≤ q.length) : (insB q i p).length = q.length + 1 := by
  simp [insB]; omega
theorem delB_length {q : bm_Q} {i : Nat} (h : i < q.length) : (delB q i).length = q.length - 1 := by
  simp [delB]; omega
theorem insB_get {q : bm_Q} {i : Nat} {p : Int × Int} (h : i ≤ q.length) (k : Nat) : (insB q i p).getD k (0, 0) = if k < i then q.getD k (0, 0) else if k = i then p else q.getD (k - 1) (0, 0) := by
  simp only [insB, List.getD_eq_getElem?_getD]
  by_cases h1 : k < i
  · rw [if_pos h1, List.getElem?_append_left (by simp; omega), List.getElem?_take, if_pos h1]
  · rw [if_neg h1, List.getElem?_append_right (by simp; omega)]
    have e : (q.take i).length = i := by simp; omega
    rw [e]
    by_cases h2 : k = i
    · subst h2; simp
    · rw [if_neg h2, show k - i = (k - 1 - i) + 1 by omega, List.getElem?_cons_succ, List.getElem?_drop]
      congr 2
      omega
theorem delB_get {q : bm_Q} {i : Nat} (h : i < q.length) (k : Nat) : (delB q i).getD k (0, 0) = if k < i then q.getD k (0, 0) else q.getD (k + 1) (0, 0) := by
  simp only [delB, List.getD_eq_getElem?_getD]
  by_cases h1 : k < i
  · rw [if_pos h1, List.getElem?_append_left (by simp; omega), List.getElem?_take, if_pos h1]
  · rw [if_neg h1, List.getElem?_append_right (by simp; omega)]
    have e : (q.take i).length = i := by simp; omega
    rw [e, List.getElem?_drop]
    congr 2
    omega
theorem set_get {q : bm_Q} {i : Nat} {p : Int × Int} (h : i < q.length) (k : Nat) : (q.set i p).getD k (0, 0) = if k = i then p else q.getD k (0, 0) := by
  simp only [List.getD_eq_getElem?_getD]
  by_cases h1 : k = i
  · subst h1; rw [List.getElem?_set_self h]; simp
  · rw [if_neg h1, List.getElem?_set_ne (Ne.symm h1)]
theorem insB_OK {q : bm_Q} {i : Nat} {p : Int × Int} (h : colOK q) (hp : bedOK p) : colOK (insB q i p) := by
  intro x hx
  rcases List.mem_append.mp hx with h1 | h1
  · exact h x (List.mem_of_mem_take h1)
  · rcases List.mem_cons.mp h1 with rfl | h2
    · exact hp
    · exact h x (List.mem_of_mem_drop h2)
theorem delB_OK {q : bm_Q} {i : Nat} (h : colOK q) : colOK (delB q i) := by
  intro x hx
  rcases List.mem_append.mp hx with h1 | h1
  · exact h x (List.mem_of_mem_take h1)
  · exact h x (List.mem_of_mem_drop h1)
theorem set_OK {q : bm_Q} {i : Nat} {p : Int × Int} (h : colOK q) (hp : bedOK p) : colOK (q.set i p) := by
  intro x hx
  rcases List.mem_or_eq_of_mem_set hx with h1 | h1
  · exact h x h1
  · exact h1 ▸ hp
theorem c_X0_insertN {y : bg_Y} {g : bg_E} {c : Nat} {i m t : Int} {q : bm_Q} (hc : bg_col c) (hq : colR g c q) (hC : ¬ (q.length < 24 ∧ 0 ≤ i ∧ i ≤ q.length)) : bg_Si y 0 mX0_insert [.inr c, .inl i, .inl m, .inl t] g (fun r g' => r = 0 ∧ g' = g) := by
  obtain ⟨k1, k2, k3, k4, k5⟩ := id hc
  obtain ⟨q1, q2, q3⟩ := hq
  refine bg_enter pnX0 (Nat.le_of_ble_eq_true rfl) (fun κ X hR hg => ?_)
  have X1 : bg_X κ y cX0_insert RX0 0 0 0 := X.1
  have hg : ∀ a k, R32 (g a k) := hg
  show bg_g κ y 0 [some (.inr c), some (.inl i), some (.inl m), some (.inl t), none] [] g
  refine bg_aload0 (pc := 0) X1 dX0_insert_0 ?_
  refine bo_getI (pc := 1) X1 dX0_insert_1 fX0_15 (by first | assumption | rfl) rfl ?_
  refine bg_if_lt (pc := 4) X1 (tgt := 28) dX0_insert_4 (by decide) (fun u4 => ?_) (fun u4 => ?_)
  · refine bg_iconst (pc := 28) X1 dX0_insert_28 (by decide) ?_
    exact bo_zret (pc := 29) X rfl (by first | exact Or.inl rfl | exact Or.inr rfl | exact b2i_01 _) dX0_insert_29 (⟨by first | rfl | exact (b2i_t (by omega)).symm | exact (b2i_f (by omega)).symm, rfl⟩)
  · refine bg_aload0 (pc := 7) X1 dX0_insert_7 ?_
    refine bo_getI (pc := 8) X1 dX0_insert_8 fX0_15 (by first | assumption | rfl) rfl ?_
    refine bg_bipush (pc := 11) X1 dX0_insert_11 rfl (by decide) ?_
    refine bg_icmp_ge (pc := 13) X1 (tgt := 28) dX0_insert_13 (by decide) (fun u13 => ?_) (fun u13 => ?_)
    · refine bg_iconst (pc := 28) X1 dX0_insert_28 (by decide) ?_
      exact bo_zret (pc := 29) X rfl (by first | exact Or.inl rfl | exact Or.inr rfl | exact b2i_01 _) dX0_insert_29 (⟨by first | rfl | exact (b2i_t (by omega)).symm | exact (b2i_f (by omega)).symm, rfl⟩)
    · refine bg_iload1 (pc := 16) X1 dX0_insert_16 ?_
      refine bg_if_lt (pc := 17) X1 (tgt := 28) dX0_insert_17 (by decide) (fun u17 => ?_) (fun u17 => ?_)
      · refine bg_iconst (pc := 28) X1 dX0_insert_28 (by decide) ?_
        exact bo_zret (pc := 29) X rfl (by first | exact Or.inl rfl | exact Or.inr rfl | exact b2i_01 _) dX0_insert_29 (⟨by first | rfl | exact (b2i_t (by omega)).symm | exact (b2i_f (by omega)).symm, rfl⟩)
      · refine bg_iload1 (pc := 20) X1 dX0_insert_20 ?_
        refine bg_aload0 (pc := 21) X1 dX0_insert_21 ?_
        refine bo_getI (pc := 22) X1 dX0_insert_22 fX0_15 (by first | assumption | rfl) rfl ?_
        refine bg_icmp_le (pc := 25) X1 (tgt := 30) dX0_insert_25 (by decide) (fun u25 => ?_) (fun u25 => ?_)
        · exfalso; omega
        · refine bg_iconst (pc := 28) X1 dX0_insert_28 (by decide) ?_
          exact bo_zret (pc := 29) X rfl (by first | exact Or.inl rfl | exact Or.inr rfl | exact b2i_01 _) dX0_insert_29 (⟨by first | rfl | exact (b2i_t (by omega)).symm | exact (b2i_f (by omega)).symm, rfl⟩)
/-- column c holds what it held, with what lay from the i-th bed on to the b-th moved down by one -/
def insI (g g1 : bg_E) (c : Nat) (q : bm_Q) (b : Nat) : Prop := (∀ x, x ≠ c + 1 → x ≠ c + 2 → g1 x = g x) ∧ ∀ k, k ≤ q.length → (b < k → g1 (c + 1) k = mrk q (k - 1) ∧ g1 (c + 2) k = th q (k - 1)) ∧ (k ≤ b → k < q.length → g1 (c + 1) k = mrk q k ∧ g1 (c + 2) k = th q k)
theorem c_X0_insert {y : bg_Y} {g : bg_E} {c : Nat} {i m t : Int} {q : bm_Q} (hc : bg_col c) (hq : colR g c q) (hC : q.length < 24 ∧ 0 ≤ i ∧ i ≤ q.length) : bg_Si y 0 mX0_insert [.inr c, .inl i, .inl m, .inl t] g (fun r g' => r = 1 ∧ colR g' c (insB q i.toNat (m, t)) ∧ frR c (c + 3) g g' ∧ g' c 0 = g c 0) := by
  obtain ⟨k1, k2, k3, k4, k5⟩ := id hc
  obtain ⟨q1, q2, q3⟩ := hq
  obtain ⟨C1, C2, C3⟩ := hC
  refine bg_enter pnX0 (Nat.le_of_ble_eq_true rfl) (fun κ X hR hg => ?_)
  have X1 : bg_X κ y cX0_insert RX0 0 0 0 := X.1
  have hg : ∀ a k, R32 (g a k) := hg
  show bg_g κ y 0 [some (.inr c), some (.inl i), some (.inl m), some (.inl t), none] [] g
  have loop : ∀ (n b : Nat) (a : Int) (g1 : bg_E), a = (b : Int) → i ≤ b → b ≤ q.length → (b : Int) = i + n → insI g g1 c q b → bg_g κ y 36 [some (.inr c), some (.inl i), some (.inl m), some (.inl t), some (.inl a)] [] g1 := by
    intro n
    induction n with
    | zero =>
      intro b a g1 ha h1 h2 h3 hI
      obtain ⟨I1, I2⟩ := hI
      have e0 : g1 c 1 = (q.length : Int) := by rw [I1 c (by omega) (by omega)]; exact q1
      refine bg_iload4 (pc := 36) X1 dX0_insert_36 ?_
      refine bg_iload1 (pc := 38) X1 dX0_insert_38 ?_
      refine bg_icmp_le (pc := 39) X1 (tgt := 80) dX0_insert_39 (by decide) (fun u39 => ?_) (fun u39 => ?_)
      · refine bg_aload0 (pc := 80) X1 dX0_insert_80 ?_
        refine bo_getR (pc := 81) X1 dX0_insert_81 fX0_18 (by first | assumption | rfl) rfl (by first | assumption | rfl) ?_
        refine bg_iload1 (pc := 84) X1 dX0_insert_84 ?_
        refine bg_iload2 (pc := 85) X1 dX0_insert_85 ?_
        refine bo_iastore (pc := 86) X1 dX0_insert_86 (by first | assumption | rfl) (by omega) ?_
        refine bg_aload0 (pc := 87) X1 dX0_insert_87 ?_
        refine bo_getR (pc := 88) X1 dX0_insert_88 fX0_22 (by first | assumption | rfl) rfl (by first | assumption | rfl) ?_
        refine bg_iload1 (pc := 91) X1 dX0_insert_91 ?_
        refine bg_iload3 (pc := 92) X1 dX0_insert_92 ?_
        refine bo_iastore (pc := 93) X1 dX0_insert_93 (by first | assumption | rfl) (by omega) ?_
        refine bg_aload0 (pc := 94) X1 dX0_insert_94 ?_
        refine bg_dup (pc := 95) X1 dX0_insert_95 ?_
        refine bo_getI (pc := 96) X1 dX0_insert_96 fX0_15 (by first | assumption | rfl) rfl ?_
        refine bg_iconst (pc := 99) X1 dX0_insert_99 (by decide) ?_
        refine bg_iadd (pc := 100) X1 dX0_insert_100 (by simp only [up_a (show c ≠ c + 1 by omega), up_a (show c ≠ c + 2 by omega), e0]; omega) ?_
        refine bo_putI (pc := 101) X1 dX0_insert_101 fX0_15 (by first | assumption | rfl) rfl ?_
        refine bg_iconst (pc := 104) X1 dX0_insert_104 (by decide) ?_
        exact bo_zret (pc := 105) X rfl (by first | exact Or.inl rfl | exact Or.inr rfl | exact b2i_01 _) dX0_insert_105 (by
            have hb : i.toNat = b := by omega
            rw [hb]
            refine ⟨rfl, ⟨?_, by rw [insB_length (by omega)]; omega, fun k hk => ?_⟩, ?_, ?_⟩
            · rw [up_eq, up_a (by omega), up_a (by omega), e0, insB_length (by omega)]; omega
            · rw [insB_length (by omega)] at hk
              have h5 := I2 k (by omega)
              simp only [mrk, th, insB_get (show b ≤ q.length by omega)] at h5 ⊢
              rw [up_a (show c + 1 ≠ c by omega), up_a (show c + 1 ≠ c + 2 by omega), up_a (show c + 2 ≠ c by omega)]
              by_cases hk1 : k = b
              · subst hk1
                rw [up_eq, up_eq]
                simp
              · rw [up_k hk1, up_k hk1, up_a (show c + 2 ≠ c + 1 by omega)]
                by_cases hk2 : k < b
                · rw [if_pos hk2]; exact h5.2 (by omega) (by omega)
                · rw [if_neg hk2, if_neg hk1]; exact h5.1 (by omega)
            · intro x hx
              rw [bg_up_ne (by omega), bg_up_ne (by omega), bg_up_ne (by omega)]
              exact I1 x (by omega) (by omega)
            · rw [up_k (by decide), up_a (by omega), up_a (by omega), I1 c (by omega) (by omega)])
      · exfalso; omega
    | succ n ih =>
      intro b a g1 ha h1 h2 h3 hI
      obtain ⟨I1, I2⟩ := id hI
      refine bg_iload4 (pc := 36) X1 dX0_insert_36 ?_
      refine bg_iload1 (pc := 38) X1 dX0_insert_38 ?_
      refine bg_icmp_le (pc := 39) X1 (tgt := 80) dX0_insert_39 (by decide) (fun u39 => ?_) (fun u39 => ?_)
      · exfalso; omega
      · refine bg_aload0 (pc := 42) X1 dX0_insert_42 ?_
        refine bo_getR (pc := 43) X1 dX0_insert_43 fX0_18 (by first | assumption | rfl) rfl (by first | assumption | rfl) ?_
        refine bg_iload4 (pc := 46) X1 dX0_insert_46 ?_
        refine bg_aload0 (pc := 48) X1 dX0_insert_48 ?_
        refine bo_getR (pc := 49) X1 dX0_insert_49 fX0_18 (by first | assumption | rfl) rfl (by first | assumption | rfl) ?_
        refine bg_iload4 (pc := 52) X1 dX0_insert_52 ?_
        refine bg_iconst (pc := 54) X1 dX0_insert_54 (by decide) ?_
        refine bg_isub (pc := 55) X1 dX0_insert_55 (by omega) ?_
        refine bo_iaload (pc := 56) X1 dX0_insert_56 (by first | assumption | rfl) (by omega) ?_
        refine bo_iastore (pc := 57) X1 dX0_insert_57 (by first | assumption | rfl) (by omega) ?_
        refine bg_aload0 (pc := 58) X1 dX0_insert_58 ?_
        refine bo_getR (pc := 59) X1 dX0_insert_59 fX0_22 (by first | assumption | rfl) rfl (by first | assumption | rfl) ?_
        refine bg_iload4 (pc := 62) X1 dX0_insert_62 ?_
        refine bg_aload0 (pc := 64) X1 dX0_insert_64 ?_
        refine bo_getR (pc := 65) X1 dX0_insert_65 fX0_22 (by first | assumption | rfl) rfl (by first | assumption | rfl) ?_
        refine bg_iload4 (pc := 68) X1 dX0_insert_68 ?_
        refine bg_iconst (pc := 70) X1 dX0_insert_70 (by decide) ?_
        refine bg_isub (pc := 71) X1 dX0_insert_71 (by omega) ?_
        refine bo_iaload (pc := 72) X1 dX0_insert_72 (by first | assumption | rfl) (by omega) ?_
        refine bo_iastore (pc := 73) X1 dX0_insert_73 (by first | assumption | rfl) (by omega) ?_
        refine bg_iinc4 (pc := 74) X1 dX0_insert_74 (by omega) ?_
        refine bg_goto (pc := 77) X1 (tgt := 36) dX0_insert_77 (by decide) ?_
        refine ih (b - 1) _ _ (by omega) (by omega) (by omega) (by omega) ⟨fun x h7 h8 => ?_, fun k hk => ?_⟩
        · rw [bg_up_ne h8, bg_up_ne h7]; exact I1 x h7 h8
        · have e1 : (a - 1).toNat = b - 1 := by omega
          have e2 : a.toNat = b := by omega
          have h5 := I2 k hk
          have h6 := (I2 (b - 1) (by omega)).2 (by omega) (by omega)
          rw [e1, e2, up_a (show c + 1 ≠ c + 2 by omega)]
          by_cases hk1 : k = b
          · subst hk1
            rw [up_eq, up_eq, up_a (by omega)]
            exact ⟨fun _ => h6, fun h9 => by omega⟩
          · rw [up_k hk1, up_k hk1, up_a (by omega)]
            exact ⟨fun h9 => h5.1 (by omega), fun h9 h10 => h5.2 (by omega) h10⟩
  refine bg_aload0 (pc := 0) X1 dX0_insert_0 ?_
  refine bo_getI (pc := 1) X1 dX0_insert_1 fX0_15 (by first | assumption | rfl) rfl ?_
  refine bg_if_lt (pc := 4) X1 (tgt := 28) dX0_insert_4 (by decide) (fun u4 => ?_) (fun u4 => ?_)
  · exfalso; omega
  · refine bg_aload0 (pc := 7) X1 dX0_insert_7 ?_
    refine bo_getI (pc := 8) X1 dX0_insert_8 fX0_15 (by first | assumption | rfl) rfl ?_
    refine bg_bipush (pc := 11) X1 dX0_insert_11 rfl (by decide) ?_
    refine bg_icmp_ge (pc := 13) X1 (tgt := 28) dX0_insert_13 (by decide) (fun u13 => ?_) (fun u13 => ?_)
    · exfalso; omega
    · refine bg_iload1 (pc := 16) X1 dX0_insert_16 ?_
      refine bg_if_lt (pc := 17) X1 (tgt := 28) dX0_insert_17 (by decide) (fun u17 => ?_) (fun u17 => ?_)
      · exfalso; omega
      · refine bg_iload1 (pc := 20) X1 dX0_insert_20 ?_
        refine bg_aload0 (pc := 21) X1 dX0_insert_21 ?_
        refine bo_getI (pc := 22) X1 dX0_insert_22 fX0_15 (by first | assumption | rfl) rfl ?_
        refine bg_icmp_le (pc := 25) X1 (tgt := 30) dX0_insert_25 (by decide) (fun u25 => ?_) (fun u25 => ?_)
        · refine bg_aload0 (pc := 30) X1 dX0_insert_30 ?_
          refine bo_getI (pc := 31) X1 dX0_insert_31 fX0_15 (by first | assumption | rfl) rfl ?_
          refine bg_istore4 (pc := 34) X1 dX0_insert_34 ?_
          exact loop (q.length - i.toNat) q.length _ _ q1 (by omega) (by omega) (by omega) ⟨fun _ _ _ => rfl, fun k hk => ⟨fun h => by omega, fun _ h => q3 k h⟩⟩
        · exfalso; omega
def delI (g g1 : bg_E) (c : Nat) (q : bm_Q) (b : Nat) : Prop := (∀ x, x ≠ c + 1 → x ≠ c + 2 → g1 x = g x) ∧ ∀ k, (b ≤ k → k < q.length → g1 (c + 1) k = mrk q k ∧ g1 (c + 2) k = th q k)
theorem c_X0_takeOut {y : bg_Y} {g : bg_E} {c : Nat} {i : Int} {q : bm_Q} (hc : bg_col c) (hq : colR g c q) (hC : 0 ≤ i ∧ i < q.length) : bg_Sv y 1 mX0_takeOut [.inr c, .inl i] g (fun g' => colR g' c (delB q i.toNat) ∧ frR c (c + 3) g g' ∧ g' c 0 = g c 0) := by
  obtain ⟨k1, k2, k3, k4, k5⟩ := id hc
  obtain ⟨q1, q2, q3⟩ := hq
  obtain ⟨C1, C2⟩ := hC
  refine bg_enter pnX0 (Nat.le_of_ble_eq_true rfl) (fun κ X hR hg => ?_)
  have X1 : bg_X κ y cX0_takeOut RX0 1 0 0 := X.1
  have hg : ∀ a k, R32 (g a k) := hg
  show bg_g κ y 0 [some (.inr c), some (.inl i), none] [] g
  have loop : ∀ (n b : Nat) (a : Int) (g1 : bg_E), a = (b : Int) → i ≤ b → b + n + 1 = q.length → ((∀ x, x ≠ c + 1 → x ≠ c + 2 → g1 x = g x) ∧ ∀ k, k < q.length → (b ≤ k → g1 (c + 1) k = mrk q k ∧ g1 (c + 2) k = th q k) ∧ (k < b → g1 (c + 1) k = mrk (delB q i.toNat) k ∧ g1 (c + 2) k = th (delB q i.toNat) k)) → bg_g κ y 11 [some (.inr c), some (.inl i), some (.inl a)] [] g1 := by
    intro n
    induction n with
    | zero =>
      intro b a g1 ha h1 h2 hI
      obtain ⟨I1, I2⟩ := hI
      have e0 : g1 c 1 = (q.length : Int) := by rw [I1 c (by omega) (by omega)]; exact q1
      refine bg_iload2 (pc := 11) X1 dX0_takeOut_11 ?_
      refine bg_iconst (pc := 12) X1 dX0_takeOut_12 (by decide) ?_
      refine bg_iadd (pc := 13) X1 dX0_takeOut_13 (by omega) ?_
      refine bg_bipush (pc := 14) X1 dX0_takeOut_14 rfl (by decide) ?_
      refine bg_icmp_ge (pc := 16) X1 (tgt := 63) dX0_takeOut_16 (by decide) (fun u16 => ?_) (fun u16 => ?_)
      · refine bg_aload0 (pc := 63) X1 dX0_takeOut_63 ?_
        refine bg_dup (pc := 64) X1 dX0_takeOut_64 ?_
        refine bo_getI (pc := 65) X1 dX0_takeOut_65 fX0_15 (by first | assumption | rfl) rfl ?_
        refine bg_iconst (pc := 68) X1 dX0_takeOut_68 (by decide) ?_
        refine bg_isub (pc := 69) X1 dX0_takeOut_69 (by omega) ?_
        refine bo_putI (pc := 70) X1 dX0_takeOut_70 fX0_15 (by first | assumption | rfl) rfl ?_
        exact bo_vret (pc := 73) X rfl dX0_takeOut_73 (fun hg9 => by
            refine ⟨⟨?_, by rw [delB_length (by omega)]; omega, fun k hk => ?_⟩, ?_, ?_⟩
            · rw [up_eq, e0, delB_length (by omega)]; omega
            · rw [delB_length (by omega)] at hk
              rw [up_a (by omega), up_a (by omega)]
              exact (I2 k (by omega)).2 (by omega)
            · intro x hx
              rw [bg_up_ne (by omega)]
              exact I1 x (by omega) (by omega)
            · rw [up_k (by decide), I1 c (by omega) (by omega)])
      · refine bg_aload0 (pc := 19) X1 dX0_takeOut_19 ?_
        refine bg_iload2 (pc := 20) X1 dX0_takeOut_20 ?_
        refine bg_iconst (pc := 21) X1 dX0_takeOut_21 (by decide) ?_
        refine bg_iadd (pc := 22) X1 dX0_takeOut_22 (by omega) ?_
        refine bo_V1i (pc := 23) X1 (c_X0_has hc) vX0_has lX0_25 rfl (by first | assumption | rfl) (by decide) dX0_takeOut_23 (by exact Nat.le_of_ble_eq_true rfl) ?_
        rintro _ _ ⟨h9, h8⟩
        obtain rfl := h9.symm
        obtain rfl := h8.symm
        clear h9 h8
        refine bo_ifeq_b (pc := 26) X1 (tgt := 63) dX0_takeOut_26 (by decide) (fun u26 => ?_) (fun u26 => ?_)
        · refine bg_aload0 (pc := 63) X1 dX0_takeOut_63 ?_
          refine bg_dup (pc := 64) X1 dX0_takeOut_64 ?_
          refine bo_getI (pc := 65) X1 dX0_takeOut_65 fX0_15 (by first | assumption | rfl) rfl ?_
          refine bg_iconst (pc := 68) X1 dX0_takeOut_68 (by decide) ?_
          refine bg_isub (pc := 69) X1 dX0_takeOut_69 (by omega) ?_
          refine bo_putI (pc := 70) X1 dX0_takeOut_70 fX0_15 (by first | assumption | rfl) rfl ?_
          exact bo_vret (pc := 73) X rfl dX0_takeOut_73 (fun hg9 => by
              refine ⟨⟨?_, by rw [delB_length (by omega)]; omega, fun k hk => ?_⟩, ?_, ?_⟩
              · rw [up_eq, e0, delB_length (by omega)]; omega
              · rw [delB_length (by omega)] at hk
                rw [up_a (by omega), up_a (by omega)]
                exact (I2 k (by omega)).2 (by omega)
              · intro x hx
                rw [bg_up_ne (by omega)]
                exact I1 x (by omega) (by omega)
              · rw [up_k (by decide), I1 c (by omega) (by omega)])
        · exfalso; omega
    | succ n ih =>
      intro b a g1 ha h1 h2 hI
      obtain ⟨I1, I2⟩ := hI
      have e0 : g1 c 1 = (q.length : Int) := by rw [I1 c (by omega) (by omega)]; exact q1
      refine bg_iload2 (pc := 11) X1 dX0_takeOut_11 ?_
      refine bg_iconst (pc := 12) X1 dX0_takeOut_12 (by decide) ?_
      refine bg_iadd (pc := 13) X1 dX0_takeOut_13 (by omega) ?_
      refine bg_bipush (pc := 14) X1 dX0_takeOut_14 rfl (by decide) ?_
      refine bg_icmp_ge (pc := 16) X1 (tgt := 63) dX0_takeOut_16 (by decide) (fun u16 => ?_) (fun u16 => ?_)
      · exfalso; omega
      · refine bg_aload0 (pc := 19) X1 dX0_takeOut_19 ?_
        refine bg_iload2 (pc := 20) X1 dX0_takeOut_20 ?_
        refine bg_iconst (pc := 21) X1 dX0_takeOut_21 (by decide) ?_
        refine bg_iadd (pc := 22) X1 dX0_takeOut_22 (by omega) ?_
        refine bo_V1i (pc := 23) X1 (c_X0_has hc) vX0_has lX0_25 rfl (by first | assumption | rfl) (by decide) dX0_takeOut_23 (by exact Nat.le_of_ble_eq_true rfl) ?_
        rintro _ _ ⟨h9, h8⟩
        obtain rfl := h9.symm
        obtain rfl := h8.symm
        clear h9 h8
        refine bo_ifeq_b (pc := 26) X1 (tgt := 63) dX0_takeOut_26 (by decide) (fun u26 => ?_) (fun u26 => ?_)
        · exfalso; omega
        · refine bg_aload0 (pc := 29) X1 dX0_takeOut_29 ?_
          refine bo_getR (pc := 30) X1 dX0_takeOut_30 fX0_18 (by first | assumption | rfl) rfl (by first | assumption | rfl) ?_
          refine bg_iload2 (pc := 33) X1 dX0_takeOut_33 ?_
          refine bg_aload0 (pc := 34) X1 dX0_takeOut_34 ?_
          refine bo_getR (pc := 35) X1 dX0_takeOut_35 fX0_18 (by first | assumption | rfl) rfl (by first | assumption | rfl) ?_
          refine bg_iload2 (pc := 38) X1 dX0_takeOut_38 ?_
          refine bg_iconst (pc := 39) X1 dX0_takeOut_39 (by decide) ?_
          refine bg_iadd (pc := 40) X1 dX0_takeOut_40 (by omega) ?_
          refine bo_iaload (pc := 41) X1 dX0_takeOut_41 (by first | assumption | rfl) (by omega) ?_
          refine bo_iastore (pc := 42) X1 dX0_takeOut_42 (by first | assumption | rfl) (by omega) ?_
          refine bg_aload0 (pc := 43) X1 dX0_takeOut_43 ?_
          refine bo_getR (pc := 44) X1 dX0_takeOut_44 fX0_22 (by first | assumption | rfl) rfl (by first | assumption | rfl) ?_
          refine bg_iload2 (pc := 47) X1 dX0_takeOut_47 ?_
          refine bg_aload0 (pc := 48) X1 dX0_takeOut_48 ?_
          refine bo_getR (pc := 49) X1 dX0_takeOut_49 fX0_22 (by first | assumption | rfl) rfl (by first | assumption | rfl) ?_
          refine bg_iload2 (pc := 52) X1 dX0_takeOut_52 ?_
          refine bg_iconst (pc := 53) X1 dX0_takeOut_53 (by decide) ?_
          refine bg_iadd (pc := 54) X1 dX0_takeOut_54 (by omega) ?_
          refine bo_iaload (pc := 55) X1 dX0_takeOut_55 (by first | assumption | rfl) (by omega) ?_
          refine bo_iastore (pc := 56) X1 dX0_takeOut_56 (by first | assumption | rfl) (by omega) ?_
          refine bg_iinc2 (pc := 57) X1 dX0_takeOut_57 (by omega) ?_
          refine bg_goto (pc := 60) X1 (tgt := 11) dX0_takeOut_60 (by decide) ?_
          refine ih (b + 1) _ _ (by omega) (by omega) (by omega) ⟨fun x h7 h8 => ?_, fun k hk => ?_⟩
          · rw [bg_up_ne h8, bg_up_ne h7]; exact I1 x h7 h8
          · have e1 : (a + 1).toNat = b + 1 := by omega
            have e2 : a.toNat = b := by omega
            have h5 := I2 k hk
            have h6 := (I2 (b + 1) (by omega)).1 (by omega)
            rw [e1, e2, up_a (show c + 1 ≠ c + 2 by omega), up_a (show c + 2 ≠ c + 1 by omega)]
            by_cases hk1 : k = b
            · subst hk1
              rw [up_eq, up_eq]
              refine ⟨fun h9 => by omega, fun _ => ?_⟩
              simp only [mrk, th, delB_get (show i.toNat < q.length by omega)]
              rw [if_neg (by omega)]
              exact h6
            · rw [up_k hk1, up_k hk1, up_a (by omega)]
              exact ⟨fun h9 => h5.1 (by omega), fun h9 => h5.2 (by omega)⟩
  refine bg_aload0 (pc := 0) X1 dX0_takeOut_0 ?_
  refine bg_iload1 (pc := 1) X1 dX0_takeOut_1 ?_
  refine bo_V1i (pc := 2) X1 (c_X0_has (by assumption)) vX0_has lX0_25 rfl (by first | assumption | rfl) (by decide) dX0_takeOut_2 (by exact Nat.le_of_ble_eq_true rfl) ?_
  rintro _ _ ⟨h9, h8⟩
  obtain rfl := h9.symm
  obtain rfl := h8.symm
  clear h9 h8
  refine bo_ifne_b (pc := 5) X1 (tgt := 9) dX0_takeOut_5 (by decide) (fun u5 => ?_) (fun u5 => ?_)
  · refine bg_iload1 (pc := 9) X1 dX0_takeOut_9 ?_
    refine bg_istore2 (pc := 10) X1 dX0_takeOut_10 ?_
    refine loop (q.length - 1 - i.toNat) i.toNat _ _ (by omega) (by omega) (by omega) ⟨fun _ _ _ => rfl, fun k hk => ⟨fun _ => q3 k hk, fun h => ?_⟩⟩
    have h5 := q3 k hk
    simp only [mrk, th, delB_get (show i.toNat < q.length by omega)] at h5 ⊢
    rw [if_pos h]
    exact h5
  · exfalso; omega
theorem c_X0_takeBedsOf {y : bg_Y} {g : bg_E} {c s : Nat} {q : bm_Q} (hc : bg_col c) (hs : bg_col s) (hne : c + 2 < s ∨ s + 2 < c) (hq : colR g s q) : bg_Sv y 1 mX0_takeBedsOf [.inr c, .inr s] g (fun g' => colR g' c q ∧ frR c (c + 3) g g' ∧ g' c 0 = g c 0) := by
  obtain ⟨k1, k2, k3, k4, k5⟩ := id hc
  obtain ⟨m1, m2, m3, m4, m5⟩ := id hs
  obtain ⟨q1, q2, q3⟩ := hq
  refine bg_enter pnX0 (Nat.le_of_ble_eq_true rfl) (fun κ X hR hg => ?_)
  have X1 : bg_X κ y cX0_takeBedsOf RX0 1 0 0 := X.1
  have hg : ∀ a k, R32 (g a k) := hg
  show bg_g κ y 0 [some (.inr c), some (.inr s)] [] g
  refine bg_aload0 (pc := 0) X1 dX0_takeBedsOf_0 ?_
  refine bg_aload1 (pc := 1) X1 dX0_takeBedsOf_1 ?_
  refine bo_getI (pc := 2) X1 dX0_takeBedsOf_2 fX0_15 (by first | assumption | rfl) rfl ?_
  refine bo_putI (pc := 5) X1 dX0_takeBedsOf_5 fX0_15 (by first | assumption | rfl) rfl ?_
  refine bg_aload1 (pc := 8) X1 dX0_takeBedsOf_8 ?_
  refine bo_getR (pc := 9) X1 dX0_takeBedsOf_9 fX0_18 (by first | assumption | rfl) rfl (by first | assumption | rfl) ?_
  refine bg_iconst (pc := 12) X1 dX0_takeBedsOf_12 (by decide) ?_
  refine bg_aload0 (pc := 13) X1 dX0_takeBedsOf_13 ?_
  refine bo_getR (pc := 14) X1 dX0_takeBedsOf_14 fX0_18 (by first | assumption | rfl) rfl (by first | assumption | rfl) ?_
  refine bg_iconst (pc := 17) X1 dX0_takeBedsOf_17 (by decide) ?_
  refine bg_bipush (pc := 18) X1 dX0_takeBedsOf_18 rfl (by decide) ?_
  refine bo_copy (pc := 20) X1 lX0_53 (by first | assumption | rfl) (by first | assumption | rfl) (by omega) (by decide) dX0_takeBedsOf_20 (by exact Nat.le_of_ble_eq_true rfl) ?_
  refine bg_aload1 (pc := 23) X1 dX0_takeBedsOf_23 ?_
  refine bo_getR (pc := 24) X1 dX0_takeBedsOf_24 fX0_22 (by first | assumption | rfl) rfl (by first | assumption | rfl) ?_
  refine bg_iconst (pc := 27) X1 dX0_takeBedsOf_27 (by decide) ?_
  refine bg_aload0 (pc := 28) X1 dX0_takeBedsOf_28 ?_
  refine bo_getR (pc := 29) X1 dX0_takeBedsOf_29 fX0_22 (by first | assumption | rfl) rfl (by first | assumption | rfl) ?_
  refine bg_iconst (pc := 32) X1 dX0_takeBedsOf_32 (by decide) ?_
  refine bg_bipush (pc := 33) X1 dX0_takeBedsOf_33 rfl (by decide) ?_
  refine bo_copy (pc := 35) X1 lX0_53 (by first | assumption | rfl) (by first | assumption | rfl) (by omega) (by decide) dX0_takeBedsOf_35 (by exact Nat.le_of_ble_eq_true rfl) ?_
  exact bo_vret (pc := 38) X rfl dX0_takeBedsOf_38 (fun hg9 => by
      refine ⟨⟨?_, q2, fun k hk => ?_⟩, ?_, ?_⟩
      · simp only [show ¬ c = c + 1 by omega, show ¬ c = c + 2 by omega, false_and, if_false]
        rw [up_eq]; exact q1
      · have h24 : k < (24 : Int).toNat := by show k < 24; omega
        simp only [show ¬ c + 1 = c + 2 by omega, show ¬ s + 2 = c + 1 by omega, false_and, if_false, true_and, h24, if_true]
        rw [up_a (by omega), up_a (by omega)]
        exact q3 k hk
      · intro x hx
        funext j
        simp only [show ¬ x = c + 1 by omega, show ¬ x = c + 2 by omega, false_and, if_false]
        rw [up_a (by omega)]
      · simp only [show ¬ c = c + 1 by omega, show ¬ c = c + 2 by omega, false_and, if_false]
        rw [up_k (by decide)])
theorem colR.fr {g g' : bg_E} {c lo hi : Nat} {q : bm_Q} (h : colR g c q) (hf : frR lo hi g g') (hx : c + 2 < lo ∨ hi ≤ c) : colR g' c q := by
  unfold colR
  rw [hf c (by omega), hf (c + 1) (by omega), hf (c + 2) (by omega)]
  exact h
theorem colR.up {g : bg_E} {c a k : Nat} {v : Int} {q : bm_Q} (h : colR g c q) (hx : a < c ∨ c + 2 < a) : colR (bg_up g a k v) c q := by
  unfold colR
  rw [bg_up_ne (show c ≠ a by omega), bg_up_ne (show c + 1 ≠ a by omega), bg_up_ne (show c + 2 ≠ a by omega)]
  exact h
theorem colR.up0 {g : bg_E} {c : Nat} {v : Int} {q : bm_Q} (h : colR g c q) : colR (bg_up g c 0 v) c q := by
  unfold colR
  rw [up_k (by decide), bg_up_ne (show c + 1 ≠ c by omega), bg_up_ne (show c + 2 ≠ c by omega)]
  exact h
theorem c_X0_copyFrom {y : bg_Y} {g : bg_E} {c s : Nat} {q : bm_Q} (hc : bg_col c) (hs : bg_col s) (hne : c + 2 < s ∨ s + 2 < c) (hq : colR g s q) : bg_Sv y 2 mX0_copyFrom [.inr c, .inr s] g (fun g' => colR g' c q ∧ frR c (c + 3) g g' ∧ g' c 0 = g s 0) := by
  obtain ⟨k1, k2, k3, k4, k5⟩ := id hc
  obtain ⟨m1, m2, m3, m4, m5⟩ := id hs
  refine bg_enter pnX0 (Nat.le_of_ble_eq_true rfl) (fun κ X hR hg => ?_)
  have X1 : bg_X κ y cX0_copyFrom RX0 2 0 0 := X.1
  have hg : ∀ a k, R32 (g a k) := hg
  show bg_g κ y 0 [some (.inr c), some (.inr s)] [] g
  refine bg_aload0 (pc := 0) X1 dX0_copyFrom_0 ?_
  refine bg_aload1 (pc := 1) X1 dX0_copyFrom_1 ?_
  refine bo_getI (pc := 2) X1 dX0_copyFrom_2 fX0_9 (by first | assumption | rfl) rfl ?_
  refine bo_putI (pc := 5) X1 dX0_copyFrom_5 fX0_9 (by first | assumption | rfl) rfl ?_
  refine bg_aload0 (pc := 8) X1 dX0_copyFrom_8 ?_
  refine bg_aload1 (pc := 9) X1 dX0_copyFrom_9 ?_
  refine bo_V1v (pc := 10) X1 (c_X0_takeBedsOf (q := q) hc hs hne (hq.up (by omega))) vX0_takeBedsOf lX0_59 rfl (by first | assumption | rfl) (by decide) dX0_copyFrom_10 (by exact Nat.le_of_ble_eq_true rfl) ?_
  rintro g2 ⟨p1, p2, p3⟩
  exact bo_vret (pc := 13) X rfl dX0_copyFrom_13 (fun hg9 => ⟨p1, fun x hx => by rw [p2 x hx, bg_up_ne (by omega)], by rw [p3, up_eq]⟩)
