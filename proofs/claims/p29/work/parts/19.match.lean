/-! matching: what the document says of it, as numbers -/
abbrev bm_P : Type := bm_Q × bm_Q × (Nat → Int) × Int × Int × Int
abbrev pA (P : bm_P) : bm_Q := P.1
abbrev pB (P : bm_P) : bm_Q := P.2.1
abbrev pM (P : bm_P) (m : Int) : Int := P.2.2.1 m.toNat
abbrev pR (P : bm_P) : Int := P.2.2.2.1
abbrev pU (P : bm_P) : Int := P.2.2.2.2.1
abbrev pW (P : bm_P) : Int := P.2.2.2.2.2
def okP (P : bm_P) : Prop := (colOK (pA P) ∧ (pA P).length ≤ 24) ∧ (colOK (pB P) ∧ (pB P).length ≤ 24) ∧ (∀ m : Int, isMa m → 1 ≤ pM P m ∧ pM P m ≤ 297) ∧ (1 ≤ pR P ∧ pR P ≤ 99) ∧ (0 ≤ pU P ∧ pU P ≤ 9) ∧ (1 ≤ pW P ∧ pW P ≤ 8)
/-- the latest bed with a mark among the n ahead of the i-th; -1: none -/
def rp (q : bm_Q) (m : Int) : Nat → Nat → Int
  | 0, _ => -1
  | _ + 1, 0 => -1
  | n + 1, i + 1 => if mrk q i = m then (i : Int) else rp q m n i
def rep (P : bm_P) (i j : Nat) : Int := rp (pA P) (mrk (pB P) j) (pW P).toNat i
def dif (P : bm_P) (i j : Nat) : Int := pU P * ((th (pA P) i - th (pB P) j).natAbs : Int)
/-- what a step costs; below 0: it can't be done -/
def sc (P : bm_P) (s : Int) (i j : Nat) : Int :=
  if s = 1 then (if i < (pA P).length ∧ j < (pB P).length ∧ mrk (pA P) i = mrk (pB P) j then dif P i j else -1)
  else if s = 2 then (if i < (pA P).length then pM P (mrk (pA P) i) else -1)
  else if s = 3 then (if j < (pB P).length ∧ 0 ≤ rep P i j then pR P + dif P (rep P i j).toNat j else -1)
  else if s = 4 then (if j < (pB P).length then pM P (mrk (pB P) j) else -1)
  else -1
def ni (s : Int) (i : Nat) : Nat := if s = 1 ∨ s = 2 then i + 1 else i
def nj (s : Int) (j : Nat) : Nat := if s = 2 then j else j + 1
def mn (a b : Int) : Int := if 0 ≤ b ∧ (a < 0 ∨ b < a) then b else a
def tS (P : bm_P) (T : Nat → Nat → Int) (i j : Nat) (s : Int) : Int := if sc P s i j < 0 then -1 else sc P s i j + T (ni s i) (nj s j)
def mnS (P : bm_P) (T : Nat → Nat → Int) (i j : Nat) : Nat → Int
  | 0 => if i = (pA P).length ∧ j = (pB P).length then 0 else -1
  | k + 1 => mn (mnS P T i j k) (tS P T i j ((k : Int) + 1))
def bwF (P : bm_P) : Nat → Nat → Nat → Int
  | 0, i, j => if i = (pA P).length ∧ j = (pB P).length then 0 else -1
  | f + 1, i, j => mnS P (bwF P f) i j 4
/-- the rest that is to be read -/
def rst (P : bm_P) (i j : Nat) : Nat := ((pA P).length - i) + ((pB P).length - j)
/-- the least cost of reading the rest -/
def bw (P : bm_P) (i j : Nat) : Int := bwF P (rst P i j) i j
theorem rp_lt {q : bm_Q} {m : Int} : ∀ (n i : Nat), rp q m n i = -1 ∨ (0 ≤ rp q m n i ∧ rp q m n i < i ∧ mrk q (rp q m n i).toNat = m)
  | 0, _ => Or.inl rfl
  | _ + 1, 0 => Or.inl rfl
  | n + 1, i + 1 => by
    rw [rp]
    split
    · rename_i h
      exact Or.inr ⟨by omega, by omega, by simpa using h⟩
    · rcases rp_lt (q := q) (m := m) n i with h | h
      · exact Or.inl h
      · exact Or.inr ⟨h.1, by omega, h.2.2⟩
theorem rep_lt {P : bm_P} {i j : Nat} : rep P i j = -1 ∨ (0 ≤ rep P i j ∧ rep P i j < i ∧ mrk (pA P) (rep P i j).toNat = mrk (pB P) j) := rp_lt _ _
theorem dif_R {P : bm_P} (h : okP P) {i j : Nat} (hi : i < (pA P).length) (hj : j < (pB P).length) : 0 ≤ dif P i j ∧ dif P i j ≤ 882 := by
  have h1 := thOK h.1.1 hi
  have h2 := thOK h.2.1.1 hj
  have h3 := h.2.2.2.2.1
  unfold dif
  have h4 : ((th (pA P) i - th (pB P) j).natAbs : Int) ≤ 98 := by omega
  have h5 : 0 ≤ ((th (pA P) i - th (pB P) j).natAbs : Int) := by omega
  generalize ((th (pA P) i - th (pB P) j).natAbs : Int) = d at h4 h5 ⊢
  have h6 : pU P * d ≤ 9 * d := Int.mul_le_mul_of_nonneg_right h3.2 h5
  exact ⟨Int.mul_nonneg h3.1 h5, by omega⟩
/-- a step that can be done -/
theorem sc_go {P : bm_P} (h : okP P) {s : Int} {i j : Nat} (hi : i ≤ (pA P).length) (hs : 0 ≤ sc P s i j) : (1 ≤ s ∧ s ≤ 4) ∧ ni s i ≤ (pA P).length ∧ nj s j ≤ (j + 1) ∧ (j ≤ (pB P).length → nj s j ≤ (pB P).length) ∧ rst P (ni s i) (nj s j) < rst P i j ∧ sc P s i j ≤ 981 ∧ (i < ni s i ∨ (i = ni s i ∧ j < nj s j)) := by
  have hm := h.2.2.1
  unfold sc at hs ⊢
  unfold rst ni nj
  by_cases h1 : s = 1
  · subst h1
    simp only [if_true, true_or] at hs ⊢
    rw [if_neg (show ¬ (1 : Int) = 2 by decide)]
    split at hs
    · rename_i hc
      have := dif_R h hc.1 hc.2.1
      rw [if_pos hc]
      omega
    · omega
  · rw [if_neg h1] at hs ⊢
    by_cases h2 : s = 2
    · subst h2
      simp only [if_true, or_true] at hs ⊢
      split at hs
      · rename_i hc
        have h5 := mkOK h.1.1 hc
        have := hm _ ⟨h5.1, by omega⟩
        rw [if_pos hc]
        omega
      · omega
    · rw [if_neg h2] at hs ⊢
      rw [if_neg (show ¬ (s = 1 ∨ s = 2) by omega), if_neg h2]
      by_cases h3 : s = 3
      · subst h3
        simp only [if_true] at hs ⊢
        split at hs
        · rename_i hc
          rcases rep_lt (P := P) (i := i) (j := j) with h6 | h6
          · omega
          · have := dif_R h (i := (rep P i j).toNat) (j := j) (by omega) hc.1
            have := h.2.2.2.1
            rw [if_pos hc]
            exact ⟨by omega, by omega, by omega, by omega, by omega, by omega, Or.inr ⟨by simp, by omega⟩⟩
        · omega
      · rw [if_neg h3] at hs ⊢
        by_cases h4 : s = 4
        · subst h4
          simp only [if_true] at hs ⊢
          split at hs
          · rename_i hc
            have h5 := mkOK h.2.1.1 hc
            have := hm _ ⟨h5.1, by omega⟩
            rw [if_pos hc]
            exact ⟨by omega, by omega, by omega, by omega, by omega, by omega, Or.inr ⟨by simp, by omega⟩⟩
          · omega
        · rw [if_neg h4] at hs
          omega
theorem mn_R {a b : Int} (h : 0 ≤ a) : 0 ≤ mn a b ∧ mn a b ≤ a := by
  unfold mn
  split <;> omega
theorem mn_b {a b : Int} (h : 0 ≤ b) : 0 ≤ mn a b ∧ mn a b ≤ b := by
  unfold mn
  split <;> omega
theorem mn_or (a b : Int) : mn a b = a ∨ (mn a b = b ∧ 0 ≤ b) := by
  unfold mn
  split
  · rename_i h; exact Or.inr ⟨rfl, h.1⟩
  · exact Or.inl rfl
theorem tS_ne {P : bm_P} {T : Nat → Nat → Int} {i j : Nat} {s : Int} (h : sc P s i j < 0) : tS P T i j s = -1 := if_pos h
theorem tS_go {P : bm_P} {T : Nat → Nat → Int} {i j : Nat} {s : Int} (h : 0 ≤ sc P s i j) : tS P T i j s = sc P s i j + T (ni s i) (nj s j) := if_neg (by omega)
/-- among the first k steps, the least -/
theorem mnS_le {P : bm_P} {T : Nat → Nat → Int} {i j : Nat} : ∀ (k : Nat) (s : Int), 1 ≤ s → s ≤ k → 0 ≤ tS P T i j s → 0 ≤ mnS P T i j k ∧ mnS P T i j k ≤ tS P T i j s
  | 0, s, h1, h2, _ => by omega
  | k + 1, s, h1, h2, h3 => by
    show 0 ≤ mn (mnS P T i j k) (tS P T i j ((k : Int) + 1)) ∧ mn (mnS P T i j k) (tS P T i j ((k : Int) + 1)) ≤ _
    by_cases hk : s = (k : Int) + 1
    · subst hk; exact mn_b h3
    · have h4 := mnS_le k s h1 (by omega) h3
      have h5 := mn_R (b := tS P T i j ((k : Int) + 1)) h4.1
      omega
theorem mnS_or {P : bm_P} {T : Nat → Nat → Int} {i j : Nat} : ∀ k : Nat, (mnS P T i j k = -1) ∨ (i = (pA P).length ∧ j = (pB P).length ∧ mnS P T i j k = 0) ∨ ∃ s : Int, 1 ≤ s ∧ s ≤ k ∧ mnS P T i j k = tS P T i j s ∧ 0 ≤ tS P T i j s
  | 0 => by
    show (if _ then (0 : Int) else -1) = -1 ∨ (_ ∧ _ ∧ (if _ then (0 : Int) else -1) = 0) ∨ _
    split
    · rename_i h; exact Or.inr (Or.inl ⟨h.1, h.2, rfl⟩)
    · exact Or.inl rfl
  | k + 1 => by
    show mn (mnS P T i j k) (tS P T i j ((k : Int) + 1)) = -1 ∨ (_ ∧ _ ∧ mn (mnS P T i j k) (tS P T i j ((k : Int) + 1)) = 0) ∨ ∃ s : Int, 1 ≤ s ∧ s ≤ ((k + 1 : Nat) : Int) ∧ mn (mnS P T i j k) (tS P T i j ((k : Int) + 1)) = tS P T i j s ∧ 0 ≤ tS P T i j s
    rcases mn_or (mnS P T i j k) (tS P T i j ((k : Int) + 1)) with h | h
    · rw [h]
      rcases mnS_or (P := P) (T := T) (i := i) (j := j) k with h1 | h1 | ⟨s, h1, h2, h3⟩
      · exact Or.inl h1
      · exact Or.inr (Or.inl h1)
      · exact Or.inr (Or.inr ⟨s, h1, by omega, h3⟩)
    · exact Or.inr (Or.inr ⟨(k : Int) + 1, by omega, by omega, h.1, h.2⟩)
theorem mnS_congr {P : bm_P} {T T' : Nat → Nat → Int} {i j : Nat} (h : ∀ s : Int, 0 ≤ sc P s i j → T (ni s i) (nj s j) = T' (ni s i) (nj s j)) : ∀ k, mnS P T i j k = mnS P T' i j k
  | 0 => rfl
  | k + 1 => by
    have h1 : tS P T i j ((k : Int) + 1) = tS P T' i j ((k : Int) + 1) := by
      rcases Int.lt_or_le (sc P ((k : Int) + 1) i j) 0 with h2 | h2
      · rw [tS_ne h2, tS_ne h2]
      · rw [tS_go h2, tS_go h2, h _ h2]
    show mn _ _ = mn _ _
    rw [mnS_congr h k, h1]
theorem sc_end {P : bm_P} {s : Int} : sc P s (pA P).length (pB P).length < 0 := by
  unfold sc
  split
  · rw [if_neg (by omega)]; decide
  · split
    · rw [if_neg (by omega)]; decide
    · split
      · rw [if_neg (by omega)]; decide
      · split
        · rw [if_neg (by omega)]; decide
        · decide
theorem mnS_end {P : bm_P} {T : Nat → Nat → Int} : ∀ k, mnS P T (pA P).length (pB P).length k = 0
  | 0 => if_pos ⟨rfl, rfl⟩
  | k + 1 => by
    show mn _ _ = 0
    rw [mnS_end k, tS_ne sc_end]
    rfl
theorem bwF_fuel {P : bm_P} (h : okP P) : ∀ (n i j : Nat), rst P i j = n → i ≤ (pA P).length → j ≤ (pB P).length → ∀ f, n ≤ f → bwF P f i j = bw P i j := by
  intro n
  induction n using Nat.strongRecOn with
  | ind n ih =>
    intro i j hr hi hj f hf
    by_cases he : i = (pA P).length ∧ j = (pB P).length
    · obtain ⟨rfl, rfl⟩ := he
      have e : ∀ f, bwF P f (pA P).length (pB P).length = 0 := by
        intro f
        cases f with
        | zero => exact if_pos ⟨rfl, rfl⟩
        | succ f => exact mnS_end 4
      rw [bw, e, e]
    · have hn : 0 < n := by unfold rst at hr; omega
      obtain ⟨n, rfl⟩ : ∃ m, n = m + 1 := ⟨n - 1, by omega⟩
      obtain ⟨f, rfl⟩ : ∃ m, f = m + 1 := ⟨f - 1, by omega⟩
      rw [bw, hr]
      show mnS P (bwF P f) i j 4 = mnS P (bwF P n) i j 4
      refine mnS_congr (fun s hs => ?_) 4
      obtain ⟨g1, g2, g3, g4, g5, g6⟩ := sc_go h hi hs
      rw [ih (rst P (ni s i) (nj s j)) (by omega) _ _ rfl g2 (g4 hj) f (by omega), ih (rst P (ni s i) (nj s j)) (by omega) _ _ rfl g2 (g4 hj) n (by omega)]
theorem bw_eq {P : bm_P} (h : okP P) {i j : Nat} (hi : i ≤ (pA P).length) (hj : j ≤ (pB P).length) : bw P i j = mnS P (bw P) i j 4 := by
  rw [← bwF_fuel h _ i j rfl hi hj (rst P i j + 1) (by omega)]
  show mnS P (bwF P (rst P i j)) i j 4 = _
  refine mnS_congr (fun s hs => ?_) 4
  obtain ⟨g1, g2, g3, g4, g5, g6⟩ := sc_go h hi hs
  exact bwF_fuel h _ _ _ rfl g2 (g4 hj) _ (by omega)
theorem sc_2 {P : bm_P} {i j : Nat} (hi : i < (pA P).length) : sc P 2 i j = pM P (mrk (pA P) i) := by
  unfold sc
  rw [if_neg (by decide), if_pos rfl, if_pos hi]
theorem sc_4 {P : bm_P} {i j : Nat} (hj : j < (pB P).length) : sc P 4 i j = pM P (mrk (pB P) j) := by
  unfold sc
  rw [if_neg (by decide), if_neg (by decide), if_neg (by decide), if_pos rfl, if_pos hj]
theorem bw_R {P : bm_P} (h : okP P) : ∀ (n i j : Nat), rst P i j = n → i ≤ (pA P).length → j ≤ (pB P).length → 0 ≤ bw P i j ∧ bw P i j ≤ 297 * n := by
  intro n
  induction n using Nat.strongRecOn with
  | ind n ih =>
    intro i j hr hi hj
    by_cases he : i = (pA P).length ∧ j = (pB P).length
    · obtain ⟨rfl, rfl⟩ := he
      rw [bw_eq h hi hj, mnS_end]
      omega
    · have step : ∀ s : Int, 0 ≤ sc P s i j → sc P s i j ≤ 297 → 0 ≤ bw P i j ∧ bw P i j ≤ 297 * n := by
        intro s h0 h1
        obtain ⟨g1, g2, g3, g4, g5, g6⟩ := sc_go h hi h0
        have h2 := ih _ (by omega) _ _ rfl g2 (g4 hj)
        have h3 := tS_go (T := bw P) h0
        have h4 := mnS_le (T := bw P) (i := i) (j := j) (P := P) 4 s g1.1 g1.2 (by omega)
        rw [← bw_eq h hi hj] at h4
        omega
      by_cases hi2 : i < (pA P).length
      · have h5 := mkOK h.1.1 hi2
        have h6 := h.2.2.1 _ ⟨h5.1, by omega⟩
        exact step 2 (by rw [sc_2 hi2]; omega) (by rw [sc_2 hi2]; omega)
      · have hj2 : j < (pB P).length := by omega
        have h5 := mkOK h.2.1.1 hj2
        have h6 := h.2.2.1 _ ⟨h5.1, by omega⟩
        exact step 4 (by rw [sc_4 hj2]; omega) (by rw [sc_4 hj2]; omega)
theorem bw_B {P : bm_P} (h : okP P) {i j : Nat} (hi : i ≤ (pA P).length) (hj : j ≤ (pB P).length) : 0 ≤ bw P i j ∧ bw P i j ≤ 14256 := by
  have h1 := bw_R h _ i j rfl hi hj
  have h2 := h.1.2
  have h3 := h.2.1.2
  unfold rst at h1
  omega
theorem bw_end {P : bm_P} (h : okP P) : bw P (pA P).length (pB P).length = 0 := by
  rw [bw_eq h (Nat.le_refl _) (Nat.le_refl _), mnS_end]
theorem bw_le {P : bm_P} (h : okP P) {i j : Nat} {s : Int} (hi : i ≤ (pA P).length) (hj : j ≤ (pB P).length) (hs : 0 ≤ sc P s i j) : bw P i j ≤ sc P s i j + bw P (ni s i) (nj s j) := by
  obtain ⟨g1, g2, g3, g4, g5, g6⟩ := sc_go h hi hs
  have h2 := bw_B h g2 (g4 hj)
  have h3 := tS_go (T := bw P) hs
  have h4 := mnS_le (T := bw P) (i := i) (j := j) (P := P) 4 s g1.1 g1.2 (by omega)
  rw [← bw_eq h hi hj] at h4
  omega
theorem bw_at {P : bm_P} (h : okP P) {i j : Nat} (hi : i ≤ (pA P).length) (hj : j ≤ (pB P).length) : (i = (pA P).length ∧ j = (pB P).length) ∨ ∃ s : Int, (1 ≤ s ∧ s ≤ 4) ∧ 0 ≤ sc P s i j ∧ bw P i j = sc P s i j + bw P (ni s i) (nj s j) := by
  have hb := bw_B h hi hj
  rw [bw_eq h hi hj] at hb
  rcases mnS_or (P := P) (T := bw P) (i := i) (j := j) 4 with h1 | h1 | ⟨s, h1, h2, h3, h4⟩
  · omega
  · exact Or.inl ⟨h1.1, h1.2.1⟩
  · rcases Int.lt_or_le (sc P s i j) 0 with h5 | h5
    · rw [tS_ne h5] at h4; omega
    · exact Or.inr ⟨s, ⟨h1, h2⟩, h5, by rw [bw_eq h hi hj, h3, tS_go h5]⟩
/-- whether a step is one of the best -/
abbrev best (P : bm_P) (s : Int) (i j : Nat) : Prop := 0 ≤ sc P s i j ∧ sc P s i j + bw P (ni s i) (nj s j) = bw P i j
/-- the first of the best steps; 0: none -/
def fbs (P : bm_P) (i j : Nat) : Int := if best P 1 i j then 1 else if best P 2 i j then 2 else if best P 3 i j then 3 else if best P 4 i j then 4 else 0
