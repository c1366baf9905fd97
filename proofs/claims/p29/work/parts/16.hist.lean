/-! the saved states: a ring of six -/
theorem bg_hist : ∀ p, p < 6 → bg_F 18 p = some (19 + 16 * p) ∧ bg_sta (19 + 16 * p) := by
  intro p hp
  have h1 : bg_F 18 p = some (19 + 16 * p) := by
    revert p
    decide +kernel
  refine ⟨h1, bg_stas _ ?_⟩
  have : p = 0 ∨ p = 1 ∨ p = 2 ∨ p = 3 ∨ p = 4 ∨ p = 5 := by omega
  rcases this with rfl | rfl | rfl | rfl | rfl | rfl <;> simp
/-- the ring holds these states, the oldest one first -/
def histR (g : bg_E) (hs : List bm_S) : Prop := g 17 1 = (hs.length : Int) ∧ hs.length ≤ 6 ∧ 0 ≤ g 17 2 ∧ g 17 2 < 6 ∧ ∀ (j : Nat) (S : bm_S), hs[j]? = some S → staR g (19 + 16 * (((g 17 2).toNat + 6 - hs.length + j) % 6)) S
def hPush (hs : List bm_S) (S : bm_S) : List bm_S := (if hs.length = 6 then hs.drop 1 else hs) ++ [S]
theorem histR.fr {g g' : bg_E} {hs : List bm_S} {lo hi : Nat} (h : histR g hs) (hf : frR lo hi g g') (hx : hi ≤ 17 ∨ 115 ≤ lo) : histR g' hs := by
  obtain ⟨h1, h2, h3, h4, h5⟩ := h
  unfold histR
  rw [hf 17 (by omega)]
  exact ⟨h1, h2, h3, h4, fun j S hj => (h5 j S hj).fr hf (by omega)⟩
theorem c_X1_size {y : bg_Y} {g : bg_E} : bg_Si y 0 mX1_size [.inr 17] g (fun r g' => r = g 17 1 ∧ g' = g) := by
  refine bg_enter pnX1 (Nat.le_of_ble_eq_true rfl) (fun κ X hR hg => ?_)
  have X1 : bg_X κ y cX1_size RX1 0 0 0 := X.1
  have hg : ∀ a k, R32 (g a k) := hg
  show bg_g κ y 0 [some (.inr 17)] [] g
  refine bg_aload0 (pc := 0) X1 dX1_size_0 ?_
  refine bo_getI (pc := 1) X1 dX1_size_1 fX1_18 (by first | assumption | rfl) rfl ?_
  exact bo_iret (pc := 4) X rfl dX1_size_4 (fun hi => ⟨by first | rfl | omega, rfl⟩)
theorem c_X1_save {y : bg_Y} {g : bg_E} {hs : List bm_S} {S : bm_S} (hh : histR g hs) (hS : staR g 1 S) : bg_Sv y 4 mX1_save [.inr 17, .inr 1] g (fun g' => histR g' (hPush hs S) ∧ frR 17 115 g g') := by
  obtain ⟨h1, h2, h3, h4, h5⟩ := hh
  have hn : (g 17 2).toNat < 6 := by omega
  obtain ⟨f1, f2⟩ := bg_hist _ hn
  have b1 : bg_sta 1 := bg_stas 1 (by simp)
  obtain ⟨s1, s2, s3, s4, s5, s6, s7, s8, s9⟩ := id f2
  refine bg_enter pnX1 (Nat.le_of_ble_eq_true rfl) (fun κ X hR hg => ?_)
  have X1 : bg_X κ y cX1_save RX1 4 0 0 := X.1
  have hg : ∀ a k, R32 (g a k) := hg
  show bg_g κ y 0 [some (.inr 17), some (.inr 1)] [] g
  have fin : ∀ (g1 : bg_E) (v w : Int), staR g1 (19 + 16 * (g 17 2).toNat) S → frR (19 + 16 * (g 17 2).toNat) (19 + 16 * (g 17 2).toNat + 16) g g1 → v = (if g 17 2 + 1 < 6 then g 17 2 + 1 else 0) → w = min ((hs.length : Int) + 1) 6 → histR (bg_up (bg_up g1 17 2 v) 17 1 w) (hPush hs S) ∧ frR 17 115 g (bg_up (bg_up g1 17 2 v) 17 1 w) := by
    intro g1 v w p1 p2 hv hw
    have hlen : ((hPush hs S).length : Int) = w := by
      unfold hPush
      split
      · simp only [List.length_append, List.length_drop, List.length_singleton]; omega
      · simp only [List.length_append, List.length_singleton]; omega
    have e2 : (bg_up (bg_up g1 17 2 v) 17 1 w) 17 2 = v := by rw [up_k (by decide), up_eq]
    have fr2 : frR 17 18 g1 (bg_up (bg_up g1 17 2 v) 17 1 w) := (frR.rf.up (by omega) (by omega)).up (by omega) (by omega)
    refine ⟨⟨?_, by omega, ?_, ?_, fun j T hj => ?_⟩, fun x hx => ?_⟩
    · rw [up_eq]; exact hlen.symm
    · rw [e2, hv]; split <;> omega
    · rw [e2, hv]; split <;> omega
    · rw [e2]
      have hj2 : j < (hPush hs S).length := (List.getElem?_eq_some_iff.mp hj).1
      refine staR.fr ?_ fr2 (by omega)
      unfold hPush at hj hj2 hlen ⊢
      by_cases h6 : hs.length = 6
      · simp only [h6, if_true] at hj hj2 hlen ⊢
        by_cases hjl : j = 5
        · subst hjl
          rw [List.getElem?_append_right (by simp [h6])] at hj
          simp [h6] at hj
          subst hj
          have e3 : (v.toNat + 6 - (hs.drop 1 ++ [S]).length + 5) % 6 = (g 17 2).toNat := by
            simp only [List.length_append, List.length_drop, List.length_singleton, h6]
            split at hv <;> omega
          rw [e3]
          exact p1
        · have hj3 : j < 5 := by simp [h6] at hj2; omega
          rw [List.getElem?_append_left (by simp [h6]; omega), List.getElem?_drop] at hj
          have h7 := h5 (1 + j) T hj
          rw [h6] at h7
          have e3 : (v.toNat + 6 - (hs.drop 1 ++ [S]).length + j) % 6 = ((g 17 2).toNat + 6 - 6 + (1 + j)) % 6 := by
            simp only [List.length_append, List.length_drop, List.length_singleton, h6]
            split at hv <;> omega
          rw [e3]
          exact h7.fr p2 (by omega)
      · simp only [h6, if_false] at hj hj2 hlen ⊢
        by_cases hjl : j = hs.length
        · subst hjl
          rw [List.getElem?_append_right (Nat.le_refl _)] at hj
          simp at hj
          subst hj
          have e3 : (v.toNat + 6 - (hs ++ [S]).length + hs.length) % 6 = (g 17 2).toNat := by
            simp only [List.length_append, List.length_singleton]
            split at hv <;> omega
          rw [e3]
          exact p1
        · have hj3 : j < hs.length := by simp at hj2; omega
          rw [List.getElem?_append_left hj3] at hj
          have h7 := h5 j T hj
          have e3 : (v.toNat + 6 - (hs ++ [S]).length + j) % 6 = ((g 17 2).toNat + 6 - hs.length + j) % 6 := by
            simp only [List.length_append, List.length_singleton]
            split at hv <;> omega
          rw [e3]
          exact h7.fr p2 (by omega)
    · rw [fr2 x (by omega), p2 x (by omega)]
  refine bg_aload0 (pc := 0) X1 dX1_save_0 ?_
  refine bo_getI (pc := 1) X1 dX1_save_1 fX1_22 (by first | assumption | rfl) rfl ?_
  refine bg_if_lt (pc := 4) X1 (tgt := 16) dX1_save_4 (by decide) (fun u4 => ?_) (fun u4 => ?_)
  · exfalso; omega
  · refine bg_aload0 (pc := 7) X1 dX1_save_7 ?_
    refine bo_getI (pc := 8) X1 dX1_save_8 fX1_22 (by first | assumption | rfl) rfl ?_
    refine bg_bipush (pc := 11) X1 dX1_save_11 rfl (by decide) ?_
    refine bg_icmp_lt (pc := 13) X1 (tgt := 21) dX1_save_13 (by decide) (fun u13 => ?_) (fun u13 => ?_)
    · refine bg_aload0 (pc := 21) X1 dX1_save_21 ?_
      refine bo_getR (pc := 22) X1 dX1_save_22 fX1_11 (by first | assumption | rfl) rfl (by first | assumption | rfl) ?_
      refine bg_aload0 (pc := 25) X1 dX1_save_25 ?_
      refine bo_getI (pc := 26) X1 dX1_save_26 fX1_22 (by first | assumption | rfl) rfl ?_
      refine bo_aaload (pc := 29) X1 dX1_save_29 (by first | assumption | rfl) (by decide) (by omega) f1 ?_
      refine bg_aload1 (pc := 30) X1 dX1_save_30 ?_
      refine bo_V1v (pc := 31) X1 (c_X4_copyFrom f2 b1 (by omega) hS) vX4_copyFrom lX1_25 rfl s1 (by decide) dX1_save_31 (by exact Nat.le_of_ble_eq_true rfl) ?_
      rintro g1 ⟨p1, p2⟩
      have n1 : g1 17 2 = g 17 2 := by rw [p2 17 (by omega)]
      have n2 : g1 17 1 = (hs.length : Int) := by rw [p2 17 (by omega)]; exact h1
      refine bg_aload0 (pc := 34) X1 dX1_save_34 ?_
      refine bg_aload0 (pc := 35) X1 dX1_save_35 ?_
      refine bo_getI (pc := 36) X1 dX1_save_36 fX1_22 (by first | assumption | rfl) rfl ?_
      refine bg_iconst (pc := 39) X1 dX1_save_39 (by decide) ?_
      refine bg_iadd (pc := 40) X1 dX1_save_40 (by omega) ?_
      refine bg_bipush (pc := 41) X1 dX1_save_41 rfl (by decide) ?_
      refine bg_icmp_ge (pc := 43) X1 (tgt := 55) dX1_save_43 (by decide) (fun u43 => ?_) (fun u43 => ?_)
      · refine bg_iconst (pc := 55) X1 dX1_save_55 (by decide) ?_
        refine bo_putI (pc := 56) X1 dX1_save_56 fX1_22 (by first | assumption | rfl) rfl ?_
        refine bg_aload0 (pc := 59) X1 dX1_save_59 ?_
        refine bg_aload0 (pc := 60) X1 dX1_save_60 ?_
        refine bo_getI (pc := 61) X1 dX1_save_61 fX1_18 (by first | assumption | rfl) rfl ?_
        refine bg_iconst (pc := 64) X1 dX1_save_64 (by decide) ?_
        refine bg_iadd (pc := 65) X1 dX1_save_65 (by rw [up_k (by decide), n2]; omega) ?_
        refine bg_bipush (pc := 66) X1 dX1_save_66 rfl (by decide) ?_
        refine bo_min (pc := 68) X1 lX1_29 (by decide) dX1_save_68 (by exact Nat.le_of_ble_eq_true rfl) ?_
        refine bo_putI (pc := 71) X1 dX1_save_71 fX1_18 (by first | assumption | rfl) rfl ?_
        exact bo_vret (pc := 74) X rfl dX1_save_74 (fun hg9 => fin _ _ _ p1 p2 (by first | (rw [n1, if_pos (by omega)]) | (rw [if_neg (by omega)])) (by rw [up_k (by decide), n2]))
      · refine bg_aload0 (pc := 46) X1 dX1_save_46 ?_
        refine bo_getI (pc := 47) X1 dX1_save_47 fX1_22 (by first | assumption | rfl) rfl ?_
        refine bg_iconst (pc := 50) X1 dX1_save_50 (by decide) ?_
        refine bg_iadd (pc := 51) X1 dX1_save_51 (by omega) ?_
        refine bg_goto (pc := 52) X1 (tgt := 56) dX1_save_52 (by decide) ?_
        refine bo_putI (pc := 56) X1 dX1_save_56 fX1_22 (by first | assumption | rfl) rfl ?_
        refine bg_aload0 (pc := 59) X1 dX1_save_59 ?_
        refine bg_aload0 (pc := 60) X1 dX1_save_60 ?_
        refine bo_getI (pc := 61) X1 dX1_save_61 fX1_18 (by first | assumption | rfl) rfl ?_
        refine bg_iconst (pc := 64) X1 dX1_save_64 (by decide) ?_
        refine bg_iadd (pc := 65) X1 dX1_save_65 (by rw [up_k (by decide), n2]; omega) ?_
        refine bg_bipush (pc := 66) X1 dX1_save_66 rfl (by decide) ?_
        refine bo_min (pc := 68) X1 lX1_29 (by decide) dX1_save_68 (by exact Nat.le_of_ble_eq_true rfl) ?_
        refine bo_putI (pc := 71) X1 dX1_save_71 fX1_18 (by first | assumption | rfl) rfl ?_
        exact bo_vret (pc := 74) X rfl dX1_save_74 (fun hg9 => fin _ _ _ p1 p2 (by first | (rw [n1, if_pos (by omega)]) | (rw [if_neg (by omega)])) (by rw [up_k (by decide), n2]))
    · exfalso; omega
