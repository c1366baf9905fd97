/-! the walk of the matching, and the throws met on the way -/
theorem wS_keep {P : bm_P} {w : bm_W} {k : Nat} : (k < w.1 → k < (wS P w).1 ∧ (wS P w).2.2.1 k = w.2.2.1 k ∧ (wS P w).2.2.2.2.1 k = w.2.2.2.2.1 k) ∧ (k < w.2.1 → k < (wS P w).2.1 ∧ (wS P w).2.2.2.1 k = w.2.2.2.1 k ∧ (wS P w).2.2.2.2.2 k = w.2.2.2.2.2 k) := by
  obtain ⟨i, j, fa, fb, pa, pb⟩ := w
  unfold wS
  simp only
  split
  · refine ⟨fun h => ?_, fun h => ?_⟩ <;> simp only at h ⊢ <;> exact ⟨by omega, fup_ne (by omega), fup_ne (by omega)⟩
  · split
    · refine ⟨fun h => ?_, fun h => ?_⟩ <;> simp only at h ⊢
      · exact ⟨by omega, fup_ne (by omega), fup_ne (by omega)⟩
      · exact ⟨h, trivial, trivial⟩
    · split
      · refine ⟨fun h => ?_, fun h => ?_⟩ <;> simp only at h ⊢
        · exact ⟨h, trivial, trivial⟩
        · exact ⟨by omega, fup_ne (by omega), fup_ne (by omega)⟩
      · split
        · refine ⟨fun h => ?_, fun h => ?_⟩ <;> simp only at h ⊢
          · exact ⟨h, trivial, trivial⟩
          · exact ⟨by omega, fup_ne (by omega), fup_ne (by omega)⟩
        · exact ⟨fun h => ⟨h, rfl, rfl⟩, fun h => ⟨h, rfl, rfl⟩⟩
theorem wk_keep {P : bm_P} {n k : Nat} : ∀ m : Nat, (k < (wk P n).1 → k < (wk P (n + m)).1 ∧ (wk P (n + m)).2.2.1 k = (wk P n).2.2.1 k ∧ (wk P (n + m)).2.2.2.2.1 k = (wk P n).2.2.2.2.1 k) ∧ (k < (wk P n).2.1 → k < (wk P (n + m)).2.1 ∧ (wk P (n + m)).2.2.2.1 k = (wk P n).2.2.2.1 k ∧ (wk P (n + m)).2.2.2.2.2 k = (wk P n).2.2.2.2.2 k)
  | 0 => ⟨fun h => ⟨h, rfl, rfl⟩, fun h => ⟨h, rfl, rfl⟩⟩
  | m + 1 => by
    obtain ⟨h1, h2⟩ := wk_keep (P := P) (n := n) (k := k) m
    obtain ⟨h3, h4⟩ := wS_keep (P := P) (w := wk P (n + m)) (k := k)
    refine ⟨fun h => ?_, fun h => ?_⟩
    · have a := h1 h
      have b := h3 a.1
      exact ⟨b.1, b.2.1.trans a.2.1, b.2.2.trans a.2.2⟩
    · have a := h2 h
      have b := h4 a.1
      exact ⟨b.1, b.2.1.trans a.2.1, b.2.2.trans a.2.2⟩
theorem wk_A {P : bm_P} {n k : Nat} (hn : n ≤ 48) (h : k < (wk P n).1) : FA P k = (wk P n).2.2.1 k ∧ PA P k = (wk P n).2.2.2.2.1 k := by
  have := ((wk_keep (P := P) (n := n) (k := k) (48 - n)).1 h).2
  rw [show n + (48 - n) = 48 by omega] at this
  exact this
theorem wk_B {P : bm_P} {n k : Nat} (hn : n ≤ 48) (h : k < (wk P n).2.1) : FB P k = (wk P n).2.2.2.1 k ∧ PB P k = (wk P n).2.2.2.2.2 k := by
  have := ((wk_keep (P := P) (n := n) (k := k) (48 - n)).2 h).2
  rw [show n + (48 - n) = 48 by omega] at this
  exact this
theorem wk_1 {P : bm_P} {n : Nat} (hn : n + 1 ≤ 48) (h : fbs P (wk P n).1 (wk P n).2.1 = 1) : (wk P (n + 1)).1 = (wk P n).1 + 1 ∧ (wk P (n + 1)).2.1 = (wk P n).2.1 + 1 ∧ FA P (wk P n).1 = 1 ∧ PA P (wk P n).1 = ((wk P n).2.1 : Int) ∧ FB P (wk P n).2.1 = 1 ∧ PB P (wk P n).2.1 = ((wk P n).1 : Int) := by
  have e : wk P (n + 1) = ((wk P n).1 + 1, (wk P n).2.1 + 1, fup (wk P n).2.2.1 (wk P n).1 1, fup (wk P n).2.2.2.1 (wk P n).2.1 1, fup (wk P n).2.2.2.2.1 (wk P n).1 ((wk P n).2.1 : Int), fup (wk P n).2.2.2.2.2 (wk P n).2.1 ((wk P n).1 : Int)) := by
    show wS P (wk P n) = _
    unfold wS; rw [if_pos h]
  have a := wk_A (P := P) (k := (wk P n).1) hn (by rw [e]; exact Nat.lt_succ_self _)
  have b := wk_B (P := P) (k := (wk P n).2.1) hn (by rw [e]; exact Nat.lt_succ_self _)
  rw [e] at a b ⊢
  simp only [fup_eq] at a b
  exact ⟨rfl, rfl, a.1, a.2, b.1, b.2⟩
theorem wk_2 {P : bm_P} {n : Nat} (hn : n + 1 ≤ 48) (h : fbs P (wk P n).1 (wk P n).2.1 = 2) : (wk P (n + 1)).1 = (wk P n).1 + 1 ∧ (wk P (n + 1)).2.1 = (wk P n).2.1 ∧ FA P (wk P n).1 = 2 ∧ PA P (wk P n).1 = -1 := by
  have e : wk P (n + 1) = ((wk P n).1 + 1, (wk P n).2.1, fup (wk P n).2.2.1 (wk P n).1 2, (wk P n).2.2.2.1, fup (wk P n).2.2.2.2.1 (wk P n).1 (-1), (wk P n).2.2.2.2.2) := by
    show wS P (wk P n) = _
    unfold wS; rw [h, if_neg (by decide), if_pos rfl]
  have a := wk_A (P := P) (k := (wk P n).1) hn (by rw [e]; exact Nat.lt_succ_self _)
  rw [e] at a ⊢
  simp only [fup_eq] at a
  exact ⟨rfl, rfl, a.1, a.2⟩
theorem wk_3 {P : bm_P} {n : Nat} (hn : n + 1 ≤ 48) (h : fbs P (wk P n).1 (wk P n).2.1 = 3) : (wk P (n + 1)).1 = (wk P n).1 ∧ (wk P (n + 1)).2.1 = (wk P n).2.1 + 1 ∧ FB P (wk P n).2.1 = 3 ∧ PB P (wk P n).2.1 = rep P (wk P n).1 (wk P n).2.1 := by
  have e : wk P (n + 1) = ((wk P n).1, (wk P n).2.1 + 1, (wk P n).2.2.1, fup (wk P n).2.2.2.1 (wk P n).2.1 3, (wk P n).2.2.2.2.1, fup (wk P n).2.2.2.2.2 (wk P n).2.1 (rep P (wk P n).1 (wk P n).2.1)) := by
    show wS P (wk P n) = _
    unfold wS; rw [h, if_neg (by decide), if_neg (by decide), if_pos rfl]
  have b := wk_B (P := P) (k := (wk P n).2.1) hn (by rw [e]; exact Nat.lt_succ_self _)
  rw [e] at b ⊢
  simp only [fup_eq] at b
  exact ⟨rfl, rfl, b.1, b.2⟩
theorem wk_4 {P : bm_P} {n : Nat} (hn : n + 1 ≤ 48) (h : fbs P (wk P n).1 (wk P n).2.1 = 4) : (wk P (n + 1)).1 = (wk P n).1 ∧ (wk P (n + 1)).2.1 = (wk P n).2.1 + 1 ∧ FB P (wk P n).2.1 = 4 ∧ PB P (wk P n).2.1 = -1 := by
  have e : wk P (n + 1) = ((wk P n).1, (wk P n).2.1 + 1, (wk P n).2.2.1, fup (wk P n).2.2.2.1 (wk P n).2.1 4, (wk P n).2.2.2.2.1, fup (wk P n).2.2.2.2.2 (wk P n).2.1 (-1)) := by
    show wS P (wk P n) = _
    unfold wS; rw [h, if_neg (by decide), if_neg (by decide), if_neg (by decide), if_pos rfl]
  have b := wk_B (P := P) (k := (wk P n).2.1) hn (by rw [e]; exact Nat.lt_succ_self _)
  rw [e] at b ⊢
  simp only [fup_eq] at b
  exact ⟨rfl, rfl, b.1, b.2⟩
/-- the last match below n; -1: none -/
def lst (f : Nat → Int) : Nat → Int
  | 0 => -1
  | n + 1 => if f n = 1 then (n : Int) else lst f n
theorem lst_or (f : Nat → Int) : ∀ n : Nat, (lst f n = -1 ∧ ∀ k, k < n → ¬ f k = 1) ∨ (0 ≤ lst f n ∧ lst f n < n ∧ f (lst f n).toNat = 1 ∧ ∀ k : Nat, lst f n < k → k < n → ¬ f k = 1)
  | 0 => Or.inl ⟨rfl, fun k hk => by omega⟩
  | n + 1 => by
    rw [lst]
    split
    · rename_i h
      exact Or.inr ⟨by omega, by omega, by simpa using h, fun k h1 h2 => by omega⟩
    · rename_i h
      rcases lst_or f n with ⟨h1, h2⟩ | ⟨h1, h2, h3, h4⟩
      · refine Or.inl ⟨h1, fun k hk => ?_⟩
        by_cases e : k = n
        · rw [e]; exact h
        · exact h2 k (by omega)
      · refine Or.inr ⟨h1, by omega, h3, fun k h5 h6 => ?_⟩
        by_cases e : k = n
        · rw [e]; exact h
        · exact h4 k h5 (by omega)
theorem TTn_none {P : bm_P} {m : Nat} : ∀ n : Nat, (∀ k, m ≤ k → k < m + n → ¬ HT P k) → TTn P (m + n) = TTn P m
  | 0, _ => rfl
  | n + 1, h => by
    rw [show m + (n + 1) = (m + n) + 1 from rfl, TTn_s, if_neg (h (m + n) (by omega) (by omega)), List.append_nil]
    exact TTn_none n (fun k h1 h2 => h k h1 (by omega))
theorem TTn_len (P : bm_P) (n : Nat) : (TTn P n).length ≤ n := by
  unfold TTn
  rw [List.length_map]
  have := List.length_filter_le (fun k : Nat => decide (HT P k)) (List.range n)
  rw [List.length_range] at this
  exact this
/-- what the next match adds -/
theorem TTn_next {P : bm_P} {i : Nat} (hi : i < 24) (hf : FA P i = 1) (h0 : 0 ≤ lst (FA P) i) : NX P (lst (FA P) i).toNat = (i : Int) ∧ TTn P i = TTn P (lst (FA P) i).toNat ++ [(lst (FA P) i, TH P (lst (FA P) i).toNat, RS P (lst (FA P) i).toNat)] := by
  rcases lst_or (FA P) i with h | ⟨h1, h2, h3, h4⟩
  · omega
  · generalize hl : (lst (FA P) i).toNat = l at h3 ⊢
    have hl2 : lst (FA P) i = (l : Int) := by omega
    rw [hl2] at h2 h4 ⊢
    have hN : NX P l = (i : Int) := by
      rcases nxt_or (FA P) (23 - l) (l + 1) with ⟨g1, g2⟩ | ⟨g1, g2, g3, g4⟩
      · exact absurd hf (g2 i (by omega) (by omega))
      · show nxt (FA P) (23 - l) (l + 1) = _
        have g5 : ¬ (i : Int) < nxt (FA P) (23 - l) (l + 1) := fun h => g4 i (by omega) h hf
        have g6 : ¬ nxt (FA P) (23 - l) (l + 1) < (i : Int) := fun h => h4 _ (by omega) (by omega) g3
        omega
    refine ⟨hN, ?_⟩
    have e : TTn P (l + 1 + (i - (l + 1))) = TTn P (l + 1) := TTn_none _ (fun k g1 g2 g3 => h4 k (by omega) (by omega) g3.1)
    rw [show l + 1 + (i - (l + 1)) = i by omega] at e
    rw [e, TTn_s, if_pos ⟨h3, by rw [hN]; omega⟩]
theorem TTn_first {P : bm_P} {i : Nat} (h0 : lst (FA P) i = -1) : TTn P i = [] := by
  rcases lst_or (FA P) i with ⟨h1, h2⟩ | h
  · have e : TTn P (0 + i) = TTn P 0 := TTn_none _ (fun k g1 g2 g3 => h2 k (by omega) g3.1)
    rw [Nat.zero_add] at e
    rw [e]; rfl
  · omega
/-- with no match from n on all throws are there -/
theorem TTn_last {P : bm_P} {n : Nat} (hn : n ≤ 24) (h : ∀ k, n ≤ k → ¬ FA P k = 1) : TTn P (lst (FA P) n).toNat = TT P := by
  rcases lst_or (FA P) n with ⟨h1, h2⟩ | ⟨h1, h2, h3, h4⟩
  · rw [h1]
    have e : TTn P (0 + 24) = TTn P 0 := TTn_none _ (fun k g1 g2 g3 => by
      rcases Nat.lt_or_ge k n with g4 | g4
      · exact h2 k g4 g3.1
      · exact h k g4 g3.1)
    exact e.symm
  · have e : TTn P ((lst (FA P) n).toNat + (24 - (lst (FA P) n).toNat)) = TTn P (lst (FA P) n).toNat := TTn_none _ (fun k g1 g2 g3 => by
      have g0 : ∀ x : Nat, (lst (FA P) n).toNat < x → ¬ FA P x = 1 := fun x hx => by
        rcases Nat.lt_or_ge x n with g4 | g4
        · exact h4 x (by omega) g4
        · exact h x g4
      by_cases ek : k = (lst (FA P) n).toNat
      · have g5 := g3.2
        rcases nxt_or (FA P) (23 - k) (k + 1) with ⟨g6, -⟩ | ⟨g6, g7, g8, -⟩
        · rw [show NX P k = nxt (FA P) (23 - k) (k + 1) from rfl, g6] at g5
          exact absurd g5 (by decide)
        · exact g0 _ (by omega) g8
      · exact g0 k (by omega) g3.1)
    rw [show (lst (FA P) n).toNat + (24 - (lst (FA P) n).toNat) = 24 by omega] at e
    exact e.symm
theorem anyN_s (p : Nat → Bool) : ∀ n k : Nat, anyN p (n + 1) k = (anyN p n k || p (k + n))
  | 0, k => by simp [anyN]
  | n + 1, k => by
    rw [anyN, anyN_s p n (k + 1), anyN, Bool.or_assoc, show k + 1 + n = k + (n + 1) by omega]
/-- as many matches as beds of the other column that are matched -/
theorem cnt_AB {P : bm_P} : ∀ n, n ≤ 48 → cntF (FA P) 1 (wk P n).1 = cntF (FB P) 1 (wk P n).2.1
  | 0, _ => rfl
  | n + 1, hn => by
    have ih := cnt_AB (P := P) n (by omega)
    rcases fbs_or (P := P) (i := (wk P n).1) (j := (wk P n).2.1) with ⟨h, -⟩ | ⟨h, -⟩
    · rw [show wk P (n + 1) = wk P n from wS_end h]; exact ih
    · have hc : fbs P (wk P n).1 (wk P n).2.1 = 1 ∨ fbs P (wk P n).1 (wk P n).2.1 = 2 ∨ fbs P (wk P n).1 (wk P n).2.1 = 3 ∨ fbs P (wk P n).1 (wk P n).2.1 = 4 := by omega
      rcases hc with hc | hc | hc | hc
      · obtain ⟨e1, e2, e3, -, e4, -⟩ := wk_1 hn hc
        rw [e1, e2, cntF, cntF, e3, e4, ih]
      · obtain ⟨e1, e2, e3, -⟩ := wk_2 hn hc
        rw [e1, e2, cntF, e3, ih, if_neg (by decide)]; omega
      · obtain ⟨e1, e2, e3, -⟩ := wk_3 hn hc
        rw [e1, e2, cntF, e3, ih, if_neg (by decide)]; omega
      · obtain ⟨e1, e2, e3, -⟩ := wk_4 hn hc
        rw [e1, e2, cntF, e3, ih, if_neg (by decide)]; omega
theorem cntF_0 {f : Nat → Int} {v : Int} {m : Nat} : ∀ n : Nat, (∀ k, m ≤ k → ¬ f k = v) → cntF f v (m + n) = cntF f v m
  | 0, _ => rfl
  | n + 1, h => by
    rw [show m + (n + 1) = (m + n) + 1 from rfl, cntF, if_neg (h _ (by omega)), cntF_0 n h]; omega
theorem cnt_24 {P : bm_P} (h : okP P) {v : Int} (hv : ¬ v = 0) : cntF (FA P) v 24 = cntF (FA P) v (pA P).length ∧ cntF (FB P) v 24 = cntF (FB P) v (pB P).length := by
  obtain ⟨h1, h2, h3, h4⟩ := wE_I h
  have hA := h.1.2
  have hB := h.2.1.2
  have e1 := cntF_0 (f := FA P) (v := v) (m := (pA P).length) (24 - (pA P).length) (fun k hk e => hv (e.symm.trans (h2 k hk).1))
  have e2 := cntF_0 (f := FB P) (v := v) (m := (pB P).length) (24 - (pB P).length) (fun k hk e => hv (e.symm.trans (h4 k hk).1))
  rw [show (pA P).length + (24 - (pA P).length) = 24 by omega] at e1
  rw [show (pB P).length + (24 - (pB P).length) = 24 by omega] at e2
  exact ⟨e1, e2⟩
theorem cnt_11 {P : bm_P} (h : okP P) : cntF (FA P) 1 24 = cntF (FB P) 1 24 := by
  rw [(cnt_24 h (by decide)).1, (cnt_24 h (by decide)).2, ← (wE_end h).1, ← (wE_end h).2]
  exact cnt_AB 48 (Nat.le_refl _)
theorem tS_best {P : bm_P} {i j : Nat} {s : Int} (h : 0 ≤ bw P i j) : tS P (bw P) i j s = bw P i j ↔ best P s i j := by
  rcases Int.lt_or_le (sc P s i j) 0 with h1 | h1
  · rw [tS_ne h1]
    exact ⟨fun h2 => by omega, fun h2 => by have := h2.1; omega⟩
  · rw [tS_go h1]
    exact ⟨fun h2 => ⟨h1, h2⟩, fun h2 => h2.2⟩
theorem fbs_lt {P : bm_P} {i j : Nat} {s : Int} (h1 : 1 ≤ s) (h2 : s < fbs P i j) : ¬ best P s i j := by
  unfold fbs at h2
  have hb : s = 1 ∨ s = 2 ∨ s = 3 ∨ 4 ≤ s := by omega
  by_cases b1 : best P 1 i j
  · rw [if_pos b1] at h2; omega
  · rw [if_neg b1] at h2
    by_cases b2 : best P 2 i j
    · rw [if_pos b2] at h2
      rcases hb with rfl | rfl | rfl | hb
      · exact b1
      · omega
      · omega
      · omega
    · rw [if_neg b2] at h2
      by_cases b3 : best P 3 i j
      · rw [if_pos b3] at h2
        rcases hb with rfl | rfl | rfl | hb
        · exact b1
        · exact b2
        · omega
        · omega
      · rw [if_neg b3] at h2
        rcases hb with rfl | rfl | rfl | hb
        · exact b1
        · exact b2
        · exact b3
        · split at h2 <;> omega
def flgs (P : bm_P) (i j : Nat) (l6 : Int) : Int := rs3 (decide (l6 + 1 < (i : Int))) (anyN (fun j => decide (FB P j = 3)) (j - ((PA P l6.toNat).toNat + 1)) ((PA P l6.toNat).toNat + 1)) (anyN (fun j => !decide (FB P j = 3)) (j - ((PA P l6.toNat).toNat + 1)) ((PA P l6.toNat).toNat + 1))
theorem cntF_pos {f : Nat → Int} : ∀ n : Nat, 0 < cntF f 1 n ↔ 0 ≤ lst f n
  | 0 => by show (0 : Int) < 0 ↔ (0 : Int) ≤ -1; omega
  | n + 1 => by
    have := cntF_pos (f := f) n
    have := cntF_R f 1 n
    rw [cntF, lst]
    split <;> omega
theorem fl_2 {P : bm_P} {i j : Nat} {l6 : Int} (h : l6 < i) : flgs P (i + 1) j l6 = bg_bor (flgs P i j l6) 1 := by
  unfold flgs
  rw [bor_1]
  congr 1
  rw [decide_eq_true]
  omega
theorem fl_3 {P : bm_P} {i j : Nat} {l6 : Int} (h0 : 0 ≤ PA P l6.toNat) (h : PA P l6.toNat < j) (hf : FB P j = 3) : flgs P i (j + 1) l6 = bg_bor (flgs P i j l6) 2 := by
  unfold flgs
  rw [bor_2, show j + 1 - ((PA P l6.toNat).toNat + 1) = (j - ((PA P l6.toNat).toNat + 1)) + 1 by omega, anyN_s, anyN_s, show (PA P l6.toNat).toNat + 1 + (j - ((PA P l6.toNat).toNat + 1)) = j by omega, hf]
  simp
theorem fl_4 {P : bm_P} {i j : Nat} {l6 : Int} (h0 : 0 ≤ PA P l6.toNat) (h : PA P l6.toNat < j) (hf : FB P j = 4) : flgs P i (j + 1) l6 = bg_bor (flgs P i j l6) 4 := by
  unfold flgs
  rw [bor_4, show j + 1 - ((PA P l6.toNat).toNat + 1) = (j - ((PA P l6.toNat).toNat + 1)) + 1 by omega, anyN_s, anyN_s, show (PA P l6.toNat).toNat + 1 + (j - ((PA P l6.toNat).toNat + 1)) = j by omega, hf]
  simp
