/-! the text -/
def chr (t : List Int) (p : Nat) : Int := t.getD p (-1)
def cntS : List Int → Nat
  | [] => 0
  | a :: l => if a = 32 then cntS l + 1 else 0
def skp (t : List Int) (p : Nat) : Nat := p + cntS (t.drop p)
def txOK (t : List Int) : Prop := ∀ x ∈ t, 0 ≤ x ∧ x ≤ 255
theorem cntS_le : ∀ l : List Int, cntS l ≤ l.length
  | [] => Nat.le_refl _
  | a :: l => by
    have := cntS_le l
    simp only [cntS, List.length_cons]
    split <;> omega
theorem skp_le {t : List Int} {p : Nat} (h : p ≤ t.length) : p ≤ skp t p ∧ skp t p ≤ t.length := by
  have := cntS_le (t.drop p)
  rw [List.length_drop] at this
  unfold skp
  omega
theorem chr_lt {t : List Int} {p : Nat} (h : p < t.length) : t.drop p = chr t p :: t.drop (p + 1) := by
  unfold chr
  rw [List.getD_eq_getElem?_getD, List.getElem?_eq_getElem h, Option.getD_some]
  exact List.drop_eq_getElem_cons h
theorem chr_ge {t : List Int} {p : Nat} (h : t.length ≤ p) : chr t p = -1 := by
  unfold chr
  rw [List.getD_eq_getElem?_getD, List.getElem?_eq_none h]
  rfl
theorem chr_ok {t : List Int} (ht : txOK t) {p : Nat} : (p < t.length → 0 ≤ chr t p) ∧ -1 ≤ chr t p ∧ chr t p ≤ 255 := by
  rcases Nat.lt_or_ge p t.length with h | h
  · have h1 := ht (t[p]) (List.getElem_mem h)
    have e : chr t p = t[p] := by
      unfold chr
      rw [List.getD_eq_getElem?_getD, List.getElem?_eq_getElem h, Option.getD_some]
    omega
  · have := chr_ge h
    omega
theorem skp_32 {t : List Int} {p : Nat} (h : chr t p = 32) : skp t p = skp t (p + 1) := by
  rcases Nat.lt_or_ge p t.length with h1 | h1
  · unfold skp
    rw [chr_lt h1, cntS, if_pos h]
    omega
  · rw [chr_ge h1] at h
    exact absurd h (by decide)
theorem skp_no {t : List Int} {p : Nat} (h : ¬ chr t p = 32) : skp t p = p := by
  unfold skp
  rcases Nat.lt_or_ge p t.length with h1 | h1
  · rw [chr_lt h1, cntS, if_neg h]; rfl
  · rw [List.drop_eq_nil_of_le h1]; rfl
/-- the text, and where the reading stands -/
def txR (g : bg_E) (t : List Int) (p : Nat) : Prop := g 148 1 = (t.length : Int) ∧ t.length ≤ 100 ∧ (∀ k, k < t.length → g 149 k = chr t k) ∧ txOK t ∧ g 148 2 = (p : Int) ∧ p ≤ t.length
def fr1 (g g' : bg_E) : Prop := ∀ x j : Nat, ¬ (x = 148 ∧ j = 2) → g' x j = g x j
def frB (g g' : bg_E) : Prop := ∀ x j : Nat, ¬ (x = 148 ∧ j = 2) → ¬ (150 ≤ x ∧ x < 153) → g' x j = g x j
theorem fr1.rf {g : bg_E} : fr1 g g := fun _ _ _ => rfl
theorem fr1.tr {g g1 g2 : bg_E} (h : fr1 g g1) (h2 : fr1 g1 g2) : fr1 g g2 := fun x j hx => (h2 x j hx).trans (h x j hx)
theorem fr1.up {g g1 : bg_E} {v : Int} (h : fr1 g g1) : fr1 g (bg_up g1 148 2 v) := fun x j hx => by
  unfold bg_up
  rw [if_neg hx]
  exact h x j hx
theorem fr1.col {g g1 : bg_E} {q : bm_Q} (h : fr1 g g1) (hq : colR g 150 q) : colR g1 150 q := by
  unfold colR
  have e1 : g1 150 = g 150 := funext fun j => h 150 j (by omega)
  have e2 : g1 (150 + 1) = g (150 + 1) := funext fun j => h _ j (by omega)
  have e3 : g1 (150 + 2) = g (150 + 2) := funext fun j => h _ j (by omega)
  rw [e1, e2, e3]
  exact hq
theorem frB.tr {g g1 g2 : bg_E} (h : frB g g1) (h2 : frB g1 g2) : frB g g2 := fun x j hx hy => (h2 x j hx hy).trans (h x j hx hy)
theorem fr1.B {g g1 : bg_E} (h : fr1 g g1) : frB g g1 := fun x j hx _ => h x j hx
theorem frR.B {g g1 : bg_E} (h : frR 150 153 g g1) : frB g g1 := fun x j _ hy => by rw [h x (by omega)]
theorem txR.pos {g g' : bg_E} {t : List Int} {p p' : Nat} (h : txR g t p) (hf : frB g g') (h2 : g' 148 2 = (p' : Int)) (hp : p' ≤ t.length) : txR g' t p' := by
  obtain ⟨h1, h2', h3, h4, h5, h6⟩ := h
  exact ⟨by rw [hf 148 1 (by decide) (by decide)]; exact h1, h2', fun k hk => by rw [hf 149 k (by omega) (by omega)]; exact h3 k hk, h4, h2, hp⟩
theorem txR.up {g : bg_E} {t : List Int} {p p' : Nat} {v : Int} (h : txR g t p) (hv : v = (p' : Int)) (hp : p' ≤ t.length) : txR (bg_up g 148 2 v) t p' := h.pos (fr1.rf.up).B (by rw [up_eq, hv]) hp
theorem txR.R {g : bg_E} {t : List Int} {p : Nat} (h : txR g t p) : g 148 2 = (p : Int) ∧ p ≤ 100 ∧ g 148 1 = (t.length : Int) ∧ t.length ≤ 100 := ⟨h.2.2.2.2.1, by have := h.2.1; have := h.2.2.2.2.2; omega, h.1, h.2.1⟩
theorem c_X5_size {y : bg_Y} {g : bg_E} : bg_Si y 0 mX5_size [.inr 148] g (fun r g' => r = g 148 1 ∧ g' = g) := by
  refine bg_enter pnX5 (Nat.le_of_ble_eq_true rfl) (fun κ X hR hg => ?_)
  have X1 : bg_X κ y cX5_size RX5 0 0 0 := X.1
  have hg : ∀ a k, R32 (g a k) := hg
  show bg_g κ y 0 [some (.inr 148)] [] g
  refine bg_aload0 (pc := 0) X1 dX5_size_0 ?_
  refine bo_getI (pc := 1) X1 dX5_size_1 fX5_15 (by first | assumption | rfl) rfl ?_
  exact bo_iret (pc := 4) X rfl dX5_size_4 (fun hi => ⟨by first | rfl | omega, rfl⟩)
theorem c_X5_parsedTo {y : bg_Y} {g : bg_E} : bg_Si y 0 mX5_parsedTo [.inr 148] g (fun r g' => r = g 148 2 ∧ g' = g) := by
  refine bg_enter pnX5 (Nat.le_of_ble_eq_true rfl) (fun κ X hR hg => ?_)
  have X1 : bg_X κ y cX5_parsedTo RX5 0 0 0 := X.1
  have hg : ∀ a k, R32 (g a k) := hg
  show bg_g κ y 0 [some (.inr 148)] [] g
  refine bg_aload0 (pc := 0) X1 dX5_parsedTo_0 ?_
  refine bo_getI (pc := 1) X1 dX5_parsedTo_1 fX5_19 (by first | assumption | rfl) rfl ?_
  exact bo_iret (pc := 4) X rfl dX5_parsedTo_4 (fun hi => ⟨by first | rfl | omega, rfl⟩)
theorem c_X5_parsedHole {y : bg_Y} {g : bg_E} : bg_Si y 0 mX5_parsedHole [.inr 148] g (fun r g' => r = g 148 3 ∧ g' = g) := by
  refine bg_enter pnX5 (Nat.le_of_ble_eq_true rfl) (fun κ X hR hg => ?_)
  have X1 : bg_X κ y cX5_parsedHole RX5 0 0 0 := X.1
  have hg : ∀ a k, R32 (g a k) := hg
  show bg_g κ y 0 [some (.inr 148)] [] g
  refine bg_aload0 (pc := 0) X1 dX5_parsedHole_0 ?_
  refine bo_getI (pc := 1) X1 dX5_parsedHole_1 fX5_22 (by first | assumption | rfl) rfl ?_
  exact bo_iret (pc := 4) X rfl dX5_parsedHole_4 (fun hi => ⟨by first | rfl | omega, rfl⟩)
theorem c_X5_parsedBeds {y : bg_Y} {g : bg_E} : bg_Sr y 0 mX5_parsedBeds [.inr 148] g (fun r g' => r = 150 ∧ g' = g) := by
  refine bg_enter pnX5 (Nat.le_of_ble_eq_true rfl) (fun κ X hR hg => ?_)
  have X1 : bg_X κ y cX5_parsedBeds RX5 0 0 0 := X.1
  have hg : ∀ a k, R32 (g a k) := hg
  show bg_g κ y 0 [some (.inr 148)] [] g
  refine bg_aload0 (pc := 0) X1 dX5_parsedBeds_0 ?_
  refine bo_getR (pc := 1) X1 dX5_parsedBeds_1 fX5_28 (by first | assumption | rfl) rfl (by first | assumption | rfl) ?_
  exact bo_aret (pc := 4) X rfl dX5_parsedBeds_4 (⟨rfl, rfl⟩)
theorem c_X5_clear {y : bg_Y} {g : bg_E} : bg_Sv y 0 mX5_clear [.inr 148] g (fun g' => g' = bg_up g 148 1 0) := by
  refine bg_enter pnX5 (Nat.le_of_ble_eq_true rfl) (fun κ X hR hg => ?_)
  have X1 : bg_X κ y cX5_clear RX5 0 0 0 := X.1
  have hg : ∀ a k, R32 (g a k) := hg
  show bg_g κ y 0 [some (.inr 148)] [] g
  refine bg_aload0 (pc := 0) X1 dX5_clear_0 ?_
  refine bg_iconst (pc := 1) X1 dX5_clear_1 (by decide) ?_
  refine bo_putI (pc := 2) X1 dX5_clear_2 fX5_15 (by first | assumption | rfl) rfl ?_
  exact bo_vret (pc := 5) X rfl dX5_clear_5 (fun hg9 => rfl)
theorem c_X5_append {y : bg_Y} {g : bg_E} {v : Int} (h1 : 0 ≤ g 148 1 ∧ g 148 1 ≤ 100) : bg_Si y 0 mX5_append [.inr 148, .inl v] g (fun r g' => r = b2i (g 148 1 < 100) ∧ g' = if g 148 1 < 100 then bg_up (bg_up g 149 (g 148 1).toNat v) 148 1 (g 148 1 + 1) else g) := by
  refine bg_enter pnX5 (Nat.le_of_ble_eq_true rfl) (fun κ X hR hg => ?_)
  have X1 : bg_X κ y cX5_append RX5 0 0 0 := X.1
  have hg : ∀ a k, R32 (g a k) := hg
  show bg_g κ y 0 [some (.inr 148), some (.inl v)] [] g
  refine bg_aload0 (pc := 0) X1 dX5_append_0 ?_
  refine bo_getI (pc := 1) X1 dX5_append_1 fX5_15 (by first | assumption | rfl) rfl ?_
  refine bg_if_lt (pc := 4) X1 (tgt := 16) dX5_append_4 (by decide) (fun u4 => ?_) (fun u4 => ?_)
  · exfalso; omega
  · refine bg_aload0 (pc := 7) X1 dX5_append_7 ?_
    refine bo_getI (pc := 8) X1 dX5_append_8 fX5_15 (by first | assumption | rfl) rfl ?_
    refine bg_bipush (pc := 11) X1 dX5_append_11 rfl (by decide) ?_
    refine bg_icmp_lt (pc := 13) X1 (tgt := 18) dX5_append_13 (by decide) (fun u13 => ?_) (fun u13 => ?_)
    · refine bg_aload0 (pc := 18) X1 dX5_append_18 ?_
      refine bo_getR (pc := 19) X1 dX5_append_19 fX5_9 (by first | assumption | rfl) rfl (by first | assumption | rfl) ?_
      refine bg_aload0 (pc := 22) X1 dX5_append_22 ?_
      refine bo_getI (pc := 23) X1 dX5_append_23 fX5_15 (by first | assumption | rfl) rfl ?_
      refine bg_iload1 (pc := 26) X1 dX5_append_26 ?_
      refine bo_iastore (pc := 27) X1 dX5_append_27 (by first | assumption | rfl) (by omega) ?_
      refine bg_aload0 (pc := 28) X1 dX5_append_28 ?_
      refine bg_dup (pc := 29) X1 dX5_append_29 ?_
      have e1 : bg_up g 149 (g 148 1).toNat v 148 1 = g 148 1 := up_a (by decide)
      refine bo_getI (pc := 30) X1 dX5_append_30 fX5_15 (by first | assumption | rfl) rfl ?_
      rw [e1]
      refine bg_iconst (pc := 33) X1 dX5_append_33 (by decide) ?_
      refine bg_iadd (pc := 34) X1 dX5_append_34 (by omega) ?_
      refine bo_putI (pc := 35) X1 dX5_append_35 fX5_15 (by first | assumption | rfl) rfl ?_
      refine bg_iconst (pc := 38) X1 dX5_append_38 (by decide) ?_
      exact bo_zret (pc := 39) X rfl (by first | exact Or.inl rfl | exact Or.inr rfl | exact b2i_01 _) dX5_append_39 (⟨(b2i_t (by omega)).symm, by rw [if_pos (by omega)]⟩)
    · refine bg_iconst (pc := 16) X1 dX5_append_16 (by decide) ?_
      exact bo_zret (pc := 17) X rfl (by first | exact Or.inl rfl | exact Or.inr rfl | exact b2i_01 _) dX5_append_17 (⟨(b2i_f (by omega)).symm, by rw [if_neg (by omega)]⟩)
theorem c_X5_current {y : bg_Y} {g : bg_E} {t : List Int} {p : Nat} (hT : txR g t p) : bg_Si y 0 mX5_current [.inr 148] g (fun r g' => r = chr t p ∧ g' = g) := by
  obtain ⟨h1, h2, h3, h4, h5, h6⟩ := id hT
  refine bg_enter pnX5 (Nat.le_of_ble_eq_true rfl) (fun κ X hR hg => ?_)
  have X1 : bg_X κ y cX5_current RX5 0 0 0 := X.1
  have hg : ∀ a k, R32 (g a k) := hg
  show bg_g κ y 0 [some (.inr 148)] [] g
  refine bg_aload0 (pc := 0) X1 dX5_current_0 ?_
  refine bo_getI (pc := 1) X1 dX5_current_1 fX5_19 (by first | assumption | rfl) rfl ?_
  refine bg_if_lt (pc := 4) X1 (tgt := 39) dX5_current_4 (by decide) (fun u4 => ?_) (fun u4 => ?_)
  · exfalso; omega
  · refine bg_aload0 (pc := 7) X1 dX5_current_7 ?_
    refine bo_getI (pc := 8) X1 dX5_current_8 fX5_19 (by first | assumption | rfl) rfl ?_
    refine bg_aload0 (pc := 11) X1 dX5_current_11 ?_
    refine bo_getI (pc := 12) X1 dX5_current_12 fX5_15 (by first | assumption | rfl) rfl ?_
    refine bg_icmp_ge (pc := 15) X1 (tgt := 39) dX5_current_15 (by decide) (fun u15 => ?_) (fun u15 => ?_)
    · have e2 : chr t p = -1 := chr_ge (by omega)
      refine bg_iconst (pc := 39) X1 dX5_current_39 (by decide) ?_
      exact bo_iret (pc := 40) X rfl dX5_current_40 (fun hi => ⟨by first | rfl | exact e2.symm, rfl⟩)
    · refine bg_aload0 (pc := 18) X1 dX5_current_18 ?_
      refine bo_getI (pc := 19) X1 dX5_current_19 fX5_19 (by first | assumption | rfl) rfl ?_
      refine bg_bipush (pc := 22) X1 dX5_current_22 rfl (by decide) ?_
      refine bg_icmp_ge (pc := 24) X1 (tgt := 39) dX5_current_24 (by decide) (fun u24 => ?_) (fun u24 => ?_)
      · exfalso; omega
      · refine bg_aload0 (pc := 27) X1 dX5_current_27 ?_
        refine bo_getR (pc := 28) X1 dX5_current_28 fX5_9 (by first | assumption | rfl) rfl (by first | assumption | rfl) ?_
        refine bg_aload0 (pc := 31) X1 dX5_current_31 ?_
        refine bo_getI (pc := 32) X1 dX5_current_32 fX5_19 (by first | assumption | rfl) rfl ?_
        refine bo_iaload (pc := 35) X1 dX5_current_35 (by first | assumption | rfl) (by omega) ?_
        rw [show (g 148 2).toNat = p by omega, h3 p (by omega)]
        refine bg_goto (pc := 36) X1 (tgt := 40) dX5_current_36 (by decide) ?_
        exact bo_iret (pc := 40) X rfl dX5_current_40 (fun hi => ⟨by first | rfl | exact e2.symm, rfl⟩)
theorem c_X5_skipSpaces {y : bg_Y} {g : bg_E} {t : List Int} {p : Nat} (hT : txR g t p) : bg_Sv y 1 mX5_skipSpaces [.inr 148] g (fun g' => txR g' t (skp t p) ∧ fr1 g g') := by
  obtain ⟨h1, h2, h3, h4, h5, h6⟩ := id hT
  refine bg_enter pnX5 (Nat.le_of_ble_eq_true rfl) (fun κ X hR hg => ?_)
  have X1 : bg_X κ y cX5_skipSpaces RX5 1 0 0 := X.1
  have hg : ∀ a k, R32 (g a k) := hg
  show bg_g κ y 0 [some (.inr 148)] [] g
  have loop : ∀ (n p1 : Nat) (g1 : bg_E), txR g1 t p1 → p1 + n = t.length → skp t p1 = skp t p → fr1 g g1 → bg_g κ y 0 [some (.inr 148)] [] g1 := by
    intro n
    induction n with
    | zero =>
      intro p1 g1 hT1 hn hs hF
      obtain ⟨r1, r2, r3, r4⟩ := hT1.R
      refine bg_aload0 (pc := 0) X1 dX5_skipSpaces_0 ?_
      refine bo_getI (pc := 1) X1 dX5_skipSpaces_1 fX5_19 (by first | assumption | rfl) rfl ?_
      refine bg_aload0 (pc := 4) X1 dX5_skipSpaces_4 ?_
      refine bo_getI (pc := 5) X1 dX5_skipSpaces_5 fX5_15 (by first | assumption | rfl) rfl ?_
      refine bg_icmp_ge (pc := 8) X1 (tgt := 33) dX5_skipSpaces_8 (by decide) (fun u8 => ?_) (fun u8 => ?_)
      · exact bo_vret (pc := 33) X rfl dX5_skipSpaces_33 (fun hg9 => ⟨by rw [← hs, skp_no (by rw [chr_ge (by omega)]; decide)]; exact hT1, hF⟩)
      · exfalso; omega
    | succ n ih =>
      intro p1 g1 hT1 hn hs hF
      obtain ⟨r1, r2, r3, r4⟩ := hT1.R
      refine bg_aload0 (pc := 0) X1 dX5_skipSpaces_0 ?_
      refine bo_getI (pc := 1) X1 dX5_skipSpaces_1 fX5_19 (by first | assumption | rfl) rfl ?_
      refine bg_aload0 (pc := 4) X1 dX5_skipSpaces_4 ?_
      refine bo_getI (pc := 5) X1 dX5_skipSpaces_5 fX5_15 (by first | assumption | rfl) rfl ?_
      refine bg_icmp_ge (pc := 8) X1 (tgt := 33) dX5_skipSpaces_8 (by decide) (fun u8 => ?_) (fun u8 => ?_)
      · exfalso; omega
      · refine bg_aload0 (pc := 11) X1 dX5_skipSpaces_11 ?_
        refine bo_V0i (pc := 12) X1 (c_X5_current hT1) vX5_current lX5_49 rfl (by first | assumption | rfl) (by decide) dX5_skipSpaces_12 (by exact Nat.le_of_ble_eq_true rfl) ?_
        rintro _ _ ⟨h9, h8⟩
        obtain rfl := h9.symm
        obtain rfl := h8.symm
        clear h9 h8
        refine bg_bipush (pc := 15) X1 dX5_skipSpaces_15 rfl (by decide) ?_
        refine bg_icmp_ne (pc := 17) X1 (tgt := 33) dX5_skipSpaces_17 (by decide) (fun u17 => ?_) (fun u17 => ?_)
        · exact bo_vret (pc := 33) X rfl dX5_skipSpaces_33 (fun hg9 => ⟨by rw [← hs, skp_no u17]; exact hT1, hF⟩)
        · refine bg_aload0 (pc := 20) X1 dX5_skipSpaces_20 ?_
          refine bg_dup (pc := 21) X1 dX5_skipSpaces_21 ?_
          refine bo_getI (pc := 22) X1 dX5_skipSpaces_22 fX5_19 (by first | assumption | rfl) rfl ?_
          refine bg_iconst (pc := 25) X1 dX5_skipSpaces_25 (by decide) ?_
          refine bg_iadd (pc := 26) X1 dX5_skipSpaces_26 (by omega) ?_
          refine bo_putI (pc := 27) X1 dX5_skipSpaces_27 fX5_19 (by first | assumption | rfl) rfl ?_
          refine bg_goto (pc := 30) X1 (tgt := 0) dX5_skipSpaces_30 (by decide) ?_
          exact ih (p1 + 1) _ (hT1.up (by omega) (by omega)) (by omega) (by rw [← skp_32 u17]; exact hs) hF.up
  exact loop (t.length - p) p g hT (by omega) rfl fr1.rf
theorem c_X5_parseSign {y : bg_Y} {g : bg_E} {t : List Int} {p : Nat} {s : Int} (hT : txR g t p) (hs : 0 ≤ s) : bg_Si y 2 mX5_parseSign [.inr 148, .inl s] g (fun r g' => r = b2i (chr t (skp t p) = s) ∧ txR g' t (if chr t (skp t p) = s then skp t p + 1 else skp t p) ∧ fr1 g g') := by
  have h4 := hT.2.2.2.1
  refine bg_enter pnX5 (Nat.le_of_ble_eq_true rfl) (fun κ X hR hg => ?_)
  have X1 : bg_X κ y cX5_parseSign RX5 2 0 0 := X.1
  have hg : ∀ a k, R32 (g a k) := hg
  show bg_g κ y 0 [some (.inr 148), some (.inl s)] [] g
  refine bg_aload0 (pc := 0) X1 dX5_parseSign_0 ?_
  refine bo_V0v (pc := 1) X1 (c_X5_skipSpaces hT) vX5_skipSpaces lX5_46 rfl (by first | assumption | rfl) (by decide) dX5_parseSign_1 (by exact Nat.le_of_ble_eq_true rfl) ?_
  rintro g1 ⟨p1, p2⟩
  obtain ⟨r1, r2, r3, r4⟩ := p1.R
  refine bg_aload0 (pc := 4) X1 dX5_parseSign_4 ?_
  refine bo_V0i (pc := 5) X1 (c_X5_current p1) vX5_current lX5_49 rfl (by first | assumption | rfl) (by decide) dX5_parseSign_5 (by exact Nat.le_of_ble_eq_true rfl) ?_
  rintro _ _ ⟨h9, h8⟩
  obtain rfl := h9.symm
  obtain rfl := h8.symm
  clear h9 h8
  refine bg_iload1 (pc := 8) X1 dX5_parseSign_8 ?_
  refine bg_icmp_eq (pc := 9) X1 (tgt := 14) dX5_parseSign_9 (by decide) (fun u9 => ?_) (fun u9 => ?_)
  · have e1 : skp t p < t.length := by
      rcases Nat.lt_or_ge (skp t p) t.length with h | h
      · exact h
      · rw [chr_ge h] at u9; omega
    refine bg_aload0 (pc := 14) X1 dX5_parseSign_14 ?_
    refine bg_dup (pc := 15) X1 dX5_parseSign_15 ?_
    refine bo_getI (pc := 16) X1 dX5_parseSign_16 fX5_19 (by first | assumption | rfl) rfl ?_
    refine bg_iconst (pc := 19) X1 dX5_parseSign_19 (by decide) ?_
    refine bg_iadd (pc := 20) X1 dX5_parseSign_20 (by omega) ?_
    refine bo_putI (pc := 21) X1 dX5_parseSign_21 fX5_19 (by first | assumption | rfl) rfl ?_
    refine bg_iconst (pc := 24) X1 dX5_parseSign_24 (by decide) ?_
    exact bo_zret (pc := 25) X rfl (by first | exact Or.inl rfl | exact Or.inr rfl | exact b2i_01 _) dX5_parseSign_25 (⟨(b2i_t u9).symm, by rw [if_pos u9]; exact p1.up (by omega) (by omega), p2.up⟩)
  · refine bg_iconst (pc := 12) X1 dX5_parseSign_12 (by decide) ?_
    exact bo_zret (pc := 13) X rfl (by first | exact Or.inl rfl | exact Or.inr rfl | exact b2i_01 _) dX5_parseSign_13 (⟨(b2i_f u9).symm, by rw [if_neg u9]; exact p1, p2⟩)
theorem c_X5_parseHole {y : bg_Y} {g : bg_E} {t : List Int} {p : Nat} (hT : txR g t p) : bg_Si y 2 mX5_parseHole [.inr 148] g (fun r g' => r = b2i (isHo (chr t (skp t p) - 48)) ∧ txR g' t (if isHo (chr t (skp t p) - 48) then skp t p + 1 else skp t p) ∧ (isHo (chr t (skp t p) - 48) → g' 148 3 = chr t (skp t p) - 48) ∧ (∀ x j, ¬ (x = 148 ∧ (j = 2 ∨ j = 3)) → g' x j = g x j)) := by
  have h4 := hT.2.2.2.1
  refine bg_enter pnX5 (Nat.le_of_ble_eq_true rfl) (fun κ X hR hg => ?_)
  have X1 : bg_X κ y cX5_parseHole RX5 2 0 0 := X.1
  have hg : ∀ a k, R32 (g a k) := hg
  show bg_g κ y 0 [some (.inr 148), none] [] g
  refine bg_aload0 (pc := 0) X1 dX5_parseHole_0 ?_
  refine bo_V0v (pc := 1) X1 (c_X5_skipSpaces hT) vX5_skipSpaces lX5_46 rfl (by first | assumption | rfl) (by decide) dX5_parseHole_1 (by exact Nat.le_of_ble_eq_true rfl) ?_
  rintro g1 ⟨p1, p2⟩
  obtain ⟨r1, r2, r3, r4⟩ := p1.R
  have c1 := chr_ok h4 (p := skp t p)
  refine bg_aload0 (pc := 4) X1 dX5_parseHole_4 ?_
  refine bo_V0i (pc := 5) X1 (c_X5_current p1) vX5_current lX5_49 rfl (by first | assumption | rfl) (by decide) dX5_parseHole_5 (by exact Nat.le_of_ble_eq_true rfl) ?_
  rintro _ _ ⟨h9, h8⟩
  obtain rfl := h9.symm
  obtain rfl := h8.symm
  clear h9 h8
  refine bg_bipush (pc := 8) X1 dX5_parseHole_8 rfl (by decide) ?_
  refine bg_isub (pc := 10) X1 dX5_parseHole_10 (by omega) ?_
  refine bg_istore1 (pc := 11) X1 dX5_parseHole_11 ?_
  refine bg_iload1 (pc := 12) X1 dX5_parseHole_12 ?_
  refine bo_N1i (pc := 13) X1 (c_X6_isHole) sX6_isHole hX5_53 rfl (by decide) dX5_parseHole_13 (by exact Nat.le_of_ble_eq_true rfl) ?_
  rintro _ _ ⟨h9, h8⟩
  obtain rfl := h9.symm
  obtain rfl := h8.symm
  clear h9 h8
  refine bo_ifne_b (pc := 16) X1 (tgt := 21) dX5_parseHole_16 (by decide) (fun u16 => ?_) (fun u16 => ?_)
  · have e1 : skp t p < t.length := by
      rcases Nat.lt_or_ge (skp t p) t.length with h | h
      · exact h
      · rw [chr_ge h] at u16; omega
    refine bg_aload0 (pc := 21) X1 dX5_parseHole_21 ?_
    refine bg_iload1 (pc := 22) X1 dX5_parseHole_22 ?_
    refine bo_putI (pc := 23) X1 dX5_parseHole_23 fX5_22 (by first | assumption | rfl) rfl ?_
    refine bg_aload0 (pc := 26) X1 dX5_parseHole_26 ?_
    refine bg_dup (pc := 27) X1 dX5_parseHole_27 ?_
    have e2 : bg_up g1 148 3 (chr t (skp t p) - 48) 148 2 = ((skp t p : Nat) : Int) := by rw [up_k (by decide)]; exact r1
    refine bo_getI (pc := 28) X1 dX5_parseHole_28 fX5_19 (by first | assumption | rfl) rfl ?_
    rw [e2]
    refine bg_iconst (pc := 31) X1 dX5_parseHole_31 (by decide) ?_
    refine bg_iadd (pc := 32) X1 dX5_parseHole_32 (by omega) ?_
    refine bo_putI (pc := 33) X1 dX5_parseHole_33 fX5_19 (by first | assumption | rfl) rfl ?_
    refine bg_iconst (pc := 36) X1 dX5_parseHole_36 (by decide) ?_
    exact bo_zret (pc := 37) X rfl (by first | exact Or.inl rfl | exact Or.inr rfl | exact b2i_01 _) dX5_parseHole_37 (by
        refine ⟨(b2i_t u16).symm, ?_, fun _ => by rw [up_k (by decide), up_eq], fun x j hx => ?_⟩
        · rw [if_pos u16]
          obtain ⟨h1, h2, h3, h5, h6, h7⟩ := p1
          exact ⟨by rw [up_k (by decide), up_k (by decide)]; exact h1, h2, fun k hk => by rw [up_a (by decide), up_a (by decide)]; exact h3 k hk, h5, by rw [up_eq]; rfl, by omega⟩
        · have q1 : ¬ (x = 148 ∧ j = 2) := by omega
          have q2 : ¬ (x = 148 ∧ j = 3) := by omega
          unfold bg_up
          rw [if_neg q1, if_neg q2]
          exact p2 x j q1)
  · refine bg_iconst (pc := 19) X1 dX5_parseHole_19 (by decide) ?_
    exact bo_zret (pc := 20) X rfl (by first | exact Or.inl rfl | exact Or.inr rfl | exact b2i_01 _) dX5_parseHole_20 (⟨(b2i_f u16).symm, by rw [if_neg u16]; exact p1, fun h => absurd h u16, fun x j hx => p2 x j (by omega)⟩)
def prsT (t : List Int) (p : Nat) : Int × Nat := if chr t p - 48 < 1 ∨ 9 < chr t p - 48 then (0, p) else if chr t (p + 1) - 48 < 0 ∨ 9 < chr t (p + 1) - 48 then (chr t p - 48, p + 1) else (10 * (chr t p - 48) + (chr t (p + 1) - 48), p + 2)
theorem c_X5_parseThickness {y : bg_Y} {g : bg_E} {t : List Int} {p : Nat} (hT : txR g t p) : bg_Si y 1 mX5_parseThickness [.inr 148] g (fun r g' => r = (prsT t p).1 ∧ txR g' t (prsT t p).2 ∧ fr1 g g') := by
  have h4 := hT.2.2.2.1
  obtain ⟨r1, r2, r3, r4⟩ := hT.R
  have c1 := chr_ok h4 (p := p)
  have c2 := chr_ok h4 (p := p + 1)
  have lt : ∀ i, -1 < chr t i → i < t.length := fun i hi => by
    rcases Nat.lt_or_ge i t.length with h | h
    · exact h
    · rw [chr_ge h] at hi; omega
  refine bg_enter pnX5 (Nat.le_of_ble_eq_true rfl) (fun κ X hR hg => ?_)
  have X1 : bg_X κ y cX5_parseThickness RX5 1 0 0 := X.1
  have hg : ∀ a k, R32 (g a k) := hg
  show bg_g κ y 0 [some (.inr 148), none, none] [] g
  refine bg_aload0 (pc := 0) X1 dX5_parseThickness_0 ?_
  refine bo_V0i (pc := 1) X1 (c_X5_current hT) vX5_current lX5_49 rfl (by first | assumption | rfl) (by decide) dX5_parseThickness_1 (by exact Nat.le_of_ble_eq_true rfl) ?_
  rintro _ _ ⟨h9, h8⟩
  obtain rfl := h9.symm
  obtain rfl := h8.symm
  clear h9 h8
  refine bg_bipush (pc := 4) X1 dX5_parseThickness_4 rfl (by decide) ?_
  refine bg_isub (pc := 6) X1 dX5_parseThickness_6 (by omega) ?_
  refine bg_istore1 (pc := 7) X1 dX5_parseThickness_7 ?_
  refine bg_iload1 (pc := 8) X1 dX5_parseThickness_8 ?_
  refine bg_iconst (pc := 9) X1 dX5_parseThickness_9 (by decide) ?_
  refine bg_icmp_lt (pc := 10) X1 (tgt := 19) dX5_parseThickness_10 (by decide) (fun u10 => ?_) (fun u10 => ?_)
  · refine bg_iconst (pc := 19) X1 dX5_parseThickness_19 (by decide) ?_
    exact bo_iret (pc := 20) X rfl dX5_parseThickness_20 (fun hi => by unfold prsT; rw [if_pos (by omega)]; exact ⟨rfl, hT, fr1.rf⟩)
  · refine bg_iload1 (pc := 13) X1 dX5_parseThickness_13 ?_
    refine bg_bipush (pc := 14) X1 dX5_parseThickness_14 rfl (by decide) ?_
    refine bg_icmp_le (pc := 16) X1 (tgt := 21) dX5_parseThickness_16 (by decide) (fun u16 => ?_) (fun u16 => ?_)
    · have l1 := lt p (by omega)
      refine bg_aload0 (pc := 21) X1 dX5_parseThickness_21 ?_
      refine bg_dup (pc := 22) X1 dX5_parseThickness_22 ?_
      refine bo_getI (pc := 23) X1 dX5_parseThickness_23 fX5_19 (by first | assumption | rfl) rfl ?_
      refine bg_iconst (pc := 26) X1 dX5_parseThickness_26 (by decide) ?_
      refine bg_iadd (pc := 27) X1 dX5_parseThickness_27 (by omega) ?_
      refine bo_putI (pc := 28) X1 dX5_parseThickness_28 fX5_19 (by first | assumption | rfl) rfl ?_
      have hT1 : txR (bg_up g 148 2 (g 148 2 + 1)) t (p + 1) := hT.up (by omega) (by omega)
      refine bg_aload0 (pc := 31) X1 dX5_parseThickness_31 ?_
      refine bo_V0i (pc := 32) X1 (c_X5_current hT1) vX5_current lX5_49 rfl (by first | assumption | rfl) (by decide) dX5_parseThickness_32 (by exact Nat.le_of_ble_eq_true rfl) ?_
      rintro _ _ ⟨h9, h8⟩
      obtain rfl := h9.symm
      obtain rfl := h8.symm
      clear h9 h8
      refine bg_bipush (pc := 35) X1 dX5_parseThickness_35 rfl (by decide) ?_
      refine bg_isub (pc := 37) X1 dX5_parseThickness_37 (by omega) ?_
      refine bg_istore2 (pc := 38) X1 dX5_parseThickness_38 ?_
      refine bg_iload2 (pc := 39) X1 dX5_parseThickness_39 ?_
      refine bg_if_lt (pc := 40) X1 (tgt := 49) dX5_parseThickness_40 (by decide) (fun u40 => ?_) (fun u40 => ?_)
      · refine bg_iload1 (pc := 49) X1 dX5_parseThickness_49 ?_
        exact bo_iret (pc := 50) X rfl dX5_parseThickness_50 (fun hi => by unfold prsT; rw [if_neg (by omega), if_pos (by omega)]; exact ⟨rfl, hT1, fr1.rf.up⟩)
      · refine bg_iload2 (pc := 43) X1 dX5_parseThickness_43 ?_
        refine bg_bipush (pc := 44) X1 dX5_parseThickness_44 rfl (by decide) ?_
        refine bg_icmp_le (pc := 46) X1 (tgt := 51) dX5_parseThickness_46 (by decide) (fun u46 => ?_) (fun u46 => ?_)
        · have l2 := lt (p + 1) (by omega)
          refine bg_aload0 (pc := 51) X1 dX5_parseThickness_51 ?_
          refine bg_dup (pc := 52) X1 dX5_parseThickness_52 ?_
          have e2 : bg_up g 148 2 (g 148 2 + 1) 148 2 = (p : Int) + 1 := by rw [up_eq, r1]
          refine bo_getI (pc := 53) X1 dX5_parseThickness_53 fX5_19 (by first | assumption | rfl) rfl ?_
          refine bg_iconst (pc := 56) X1 dX5_parseThickness_56 (by decide) ?_
          refine bg_iadd (pc := 57) X1 dX5_parseThickness_57 (by omega) ?_
          refine bo_putI (pc := 58) X1 dX5_parseThickness_58 fX5_19 (by first | assumption | rfl) rfl ?_
          refine bg_bipush (pc := 61) X1 dX5_parseThickness_61 rfl (by decide) ?_
          refine bg_iload1 (pc := 63) X1 dX5_parseThickness_63 ?_
          refine bg_imul (pc := 64) X1 dX5_parseThickness_64 (by omega) ?_
          refine bg_iload2 (pc := 65) X1 dX5_parseThickness_65 ?_
          refine bg_iadd (pc := 66) X1 dX5_parseThickness_66 (by omega) ?_
          exact bo_iret (pc := 67) X rfl dX5_parseThickness_67 (fun hi => by unfold prsT; rw [if_neg (by omega), if_neg (by omega)]; exact ⟨rfl, hT1.up (by rw [e2]; omega) (by omega), fr1.rf.up.up⟩)
        · refine bg_iload1 (pc := 49) X1 dX5_parseThickness_49 ?_
          exact bo_iret (pc := 50) X rfl dX5_parseThickness_50 (fun hi => by unfold prsT; rw [if_neg (by omega), if_pos (by omega)]; exact ⟨rfl, hT1, fr1.rf.up⟩)
    · refine bg_iconst (pc := 19) X1 dX5_parseThickness_19 (by decide) ?_
      exact bo_iret (pc := 20) X rfl dX5_parseThickness_20 (fun hi => by unfold prsT; rw [if_pos (by omega)]; exact ⟨rfl, hT, fr1.rf⟩)
/-- reads beds: whether it goes well, where it ends, the beds -/
def prsB (t : List Int) : Nat → Nat → bm_Q → Bool × Nat × bm_Q
  | 0, p, a => (true, p, a)
  | f + 1, p, a => if ¬ isMa (chr t (skp t p) - 97) then (true, skp t p, a) else if (prsT t (skp t (skp t p + 1))).1 = 0 then (false, (prsT t (skp t (skp t p + 1))).2, a) else prsB t f (prsT t (skp t (skp t p + 1))).2 (a ++ [(chr t (skp t p) - 97, (prsT t (skp t (skp t p + 1))).1)])
theorem c_X5_parseBeds {y : bg_Y} {g : bg_E} {t : List Int} {p : Nat} (hT : txR g t p) (hq : colR g 150 []) : bg_Si y 2 mX5_parseBeds [.inr 148] g (fun r g' => r = b2i ((prsB t 24 p []).1 = true) ∧ txR g' t (prsB t 24 p []).2.1 ∧ colR g' 150 (prsB t 24 p []).2.2 ∧ frB g g') := by
  have h4 := hT.2.2.2.1
  have k0 : bg_col 150 := bg_cols 150 (by simp)
  obtain ⟨m1, m2, m3, m4, m5⟩ := id k0
  refine bg_enter pnX5 (Nat.le_of_ble_eq_true rfl) (fun κ X hR hg => ?_)
  have X1 : bg_X κ y cX5_parseBeds RX5 2 0 0 := X.1
  have hg : ∀ a k, R32 (g a k) := hg
  show bg_g κ y 0 [some (.inr 148), none, none, none] [] g
  have loop : ∀ (n k p1 : Nat) (b : Int) (a : bm_Q) (l2 l3 : Option bg_V) (g1 : bg_E), b = (k : Int) → k + n = 24 → a.length = k → txR g1 t p1 → colR g1 150 a → prsB t 24 p [] = prsB t n p1 a → frB g g1 → bg_g κ y 2 [some (.inr 148), some (.inl b), l2, l3] [] g1 := by
    intro n
    induction n with
    | zero =>
      intro k p1 b a l2 l3 g1 hb hk ha hT1 hq1 hP hF
      refine bg_iload1 (pc := 2) X1 dX5_parseBeds_2 ?_
      refine bg_bipush (pc := 3) X1 dX5_parseBeds_3 rfl (by decide) ?_
      refine bg_icmp_ge (pc := 5) X1 (tgt := 71) dX5_parseBeds_5 (by decide) (fun u5 => ?_) (fun u5 => ?_)
      · refine bg_iconst (pc := 71) X1 dX5_parseBeds_71 (by decide) ?_
        exact bo_zret (pc := 72) X rfl (by first | exact Or.inl rfl | exact Or.inr rfl | exact b2i_01 _) dX5_parseBeds_72 (by rw [hP]; exact ⟨(b2i_t rfl).symm, hT1, hq1, hF⟩)
      · exfalso; omega
    | succ n ih =>
      intro k p1 b a l2 l3 g1 hb hk ha hT1 hq1 hP hF
      conv at hP => rhs; rw [prsB]
      refine bg_iload1 (pc := 2) X1 dX5_parseBeds_2 ?_
      refine bg_bipush (pc := 3) X1 dX5_parseBeds_3 rfl (by decide) ?_
      refine bg_icmp_ge (pc := 5) X1 (tgt := 71) dX5_parseBeds_5 (by decide) (fun u5 => ?_) (fun u5 => ?_)
      · exfalso; omega
      · refine bg_aload0 (pc := 8) X1 dX5_parseBeds_8 ?_
        refine bo_V0v (pc := 9) X1 (c_X5_skipSpaces hT1) vX5_skipSpaces lX5_46 rfl (by first | assumption | rfl) (by decide) dX5_parseBeds_9 (by exact Nat.le_of_ble_eq_true rfl) ?_
        rintro g2 ⟨x1, x2⟩
        obtain ⟨r1, r2, r3, r4⟩ := x1.R
        have c1 := chr_ok h4 (p := skp t p1)
        refine bg_aload0 (pc := 12) X1 dX5_parseBeds_12 ?_
        refine bo_V0i (pc := 13) X1 (c_X5_current x1) vX5_current lX5_49 rfl (by first | assumption | rfl) (by decide) dX5_parseBeds_13 (by exact Nat.le_of_ble_eq_true rfl) ?_
        rintro _ _ ⟨h9, h8⟩
        obtain rfl := h9.symm
        obtain rfl := h8.symm
        clear h9 h8
        refine bg_bipush (pc := 16) X1 dX5_parseBeds_16 rfl (by decide) ?_
        refine bg_isub (pc := 18) X1 dX5_parseBeds_18 (by omega) ?_
        refine bg_istore2 (pc := 19) X1 dX5_parseBeds_19 ?_
        refine bg_iload2 (pc := 20) X1 dX5_parseBeds_20 ?_
        refine bo_N1i (pc := 21) X1 (c_X6_isMark) sX6_isMark hX5_56 rfl (by decide) dX5_parseBeds_21 (by exact Nat.le_of_ble_eq_true rfl) ?_
        rintro _ _ ⟨h9, h8⟩
        obtain rfl := h9.symm
        obtain rfl := h8.symm
        clear h9 h8
        refine bo_ifne_b (pc := 24) X1 (tgt := 29) dX5_parseBeds_24 (by decide) (fun u24 => ?_) (fun u24 => ?_)
        · rw [if_neg (fun h => h u24)] at hP
          have l1 : skp t p1 < t.length := by
            rcases Nat.lt_or_ge (skp t p1) t.length with h | h
            · exact h
            · rw [chr_ge h] at u24; omega
          refine bg_aload0 (pc := 29) X1 dX5_parseBeds_29 ?_
          refine bg_dup (pc := 30) X1 dX5_parseBeds_30 ?_
          refine bo_getI (pc := 31) X1 dX5_parseBeds_31 fX5_19 (by first | assumption | rfl) rfl ?_
          refine bg_iconst (pc := 34) X1 dX5_parseBeds_34 (by decide) ?_
          refine bg_iadd (pc := 35) X1 dX5_parseBeds_35 (by omega) ?_
          refine bo_putI (pc := 36) X1 dX5_parseBeds_36 fX5_19 (by first | assumption | rfl) rfl ?_
          have x3 : txR (bg_up g2 148 2 (g2 148 2 + 1)) t (skp t p1 + 1) := x1.up (by omega) (by omega)
          refine bg_aload0 (pc := 39) X1 dX5_parseBeds_39 ?_
          refine bo_V0v (pc := 40) X1 (c_X5_skipSpaces x3) vX5_skipSpaces lX5_46 rfl (by first | assumption | rfl) (by decide) dX5_parseBeds_40 (by exact Nat.le_of_ble_eq_true rfl) ?_
          rintro g3 ⟨y1, y2⟩
          refine bg_aload0 (pc := 43) X1 dX5_parseBeds_43 ?_
          refine bo_V0i (pc := 44) X1 (c_X5_parseThickness y1) vX5_parseThickness lX5_59 rfl (by first | assumption | rfl) (by decide) dX5_parseBeds_44 (by exact Nat.le_of_ble_eq_true rfl) ?_
          rintro r44 g4 ⟨z0, z1, z2⟩
          subst z0
          have w1 : fr1 g1 g4 := (x2.up.tr y2).tr z2
          refine bg_istore3 (pc := 47) X1 dX5_parseBeds_47 ?_
          refine bg_iload3 (pc := 48) X1 dX5_parseBeds_48 ?_
          refine bg_if_ne (pc := 49) X1 (tgt := 54) dX5_parseBeds_49 (by decide) (fun u49 => ?_) (fun u49 => ?_)
          · rw [if_neg u49] at hP
            have z3 := w1.col hq1
            have z4 : b = g4 150 1 := by have := z3.1; omega
            refine bg_aload0 (pc := 54) X1 dX5_parseBeds_54 ?_
            refine bo_getR (pc := 55) X1 dX5_parseBeds_55 fX5_28 (by first | assumption | rfl) rfl (by first | assumption | rfl) ?_
            refine bg_iload1 (pc := 58) X1 dX5_parseBeds_58 ?_
            refine bg_iload2 (pc := 59) X1 dX5_parseBeds_59 ?_
            refine bg_iload3 (pc := 60) X1 dX5_parseBeds_60 ?_
            rw [z4]
            refine bo_V3i (pc := 61) X1 (c_X0_insertE k0 z3) vX0_insert lX5_62 rfl (by first | assumption | rfl) (by decide) dX5_parseBeds_61 (by exact Nat.le_of_ble_eq_true rfl) ?_
            rintro r61 g5 h61
            refine bg_pop (pc := 64) X1 dX5_parseBeds_64 ?_
            refine bg_iinc1 (pc := 65) X1 dX5_parseBeds_65 (by omega) ?_
            refine bg_goto (pc := 68) X1 (tgt := 2) dX5_parseBeds_68 (by decide) ?_
            rcases h61 with ⟨v1, v2, v3, v4, v5⟩ | ⟨v1, v2, v3⟩
            · exact ih (k + 1) _ _ _ _ _ _ (by omega) (by omega) (by rw [List.length_append, ha]; rfl) (z1.pos v4.B (by rw [v4 148 (by omega)]; exact z1.2.2.2.2.1) z1.2.2.2.2.2) v3 hP ((hF.tr w1.B).tr v4.B)
            · omega
          · refine bg_iconst (pc := 52) X1 dX5_parseBeds_52 (by decide) ?_
            exact bo_zret (pc := 53) X rfl (by first | exact Or.inl rfl | exact Or.inr rfl | exact b2i_01 _) dX5_parseBeds_53 (by rw [hP, if_pos u49]; exact ⟨(b2i_f (by simp)).symm, z1, w1.col hq1, hF.tr w1.B⟩)
        · rw [if_pos u24] at hP
          refine bg_iconst (pc := 27) X1 dX5_parseBeds_27 (by decide) ?_
          exact bo_zret (pc := 28) X rfl (by first | exact Or.inl rfl | exact Or.inr rfl | exact b2i_01 _) dX5_parseBeds_28 (by rw [hP]; exact ⟨(b2i_t rfl).symm, x1, x2.col hq1, hF.tr x2.B⟩)
  refine bg_iconst (pc := 0) X1 dX5_parseBeds_0 (by decide) ?_
  refine bg_istore1 (pc := 1) X1 dX5_parseBeds_1 ?_
  exact loop 24 0 p _ [] _ _ g rfl rfl rfl hT hq rfl (fun _ _ _ _ => rfl)
