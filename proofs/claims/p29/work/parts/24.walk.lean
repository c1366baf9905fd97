/-! the matching, step by step -/
abbrev bm_W : Type := Nat × Nat × (Nat → Int) × (Nat → Int) × (Nat → Int) × (Nat → Int)
def wS (P : bm_P) (w : bm_W) : bm_W :=
  if fbs P w.1 w.2.1 = 1 then (w.1 + 1, w.2.1 + 1, fup w.2.2.1 w.1 1, fup w.2.2.2.1 w.2.1 1, fup w.2.2.2.2.1 w.1 (w.2.1 : Int), fup w.2.2.2.2.2 w.2.1 (w.1 : Int))
  else if fbs P w.1 w.2.1 = 2 then (w.1 + 1, w.2.1, fup w.2.2.1 w.1 2, w.2.2.2.1, fup w.2.2.2.2.1 w.1 (-1), w.2.2.2.2.2)
  else if fbs P w.1 w.2.1 = 3 then (w.1, w.2.1 + 1, w.2.2.1, fup w.2.2.2.1 w.2.1 3, w.2.2.2.2.1, fup w.2.2.2.2.2 w.2.1 (rep P w.1 w.2.1))
  else if fbs P w.1 w.2.1 = 4 then (w.1, w.2.1 + 1, w.2.2.1, fup w.2.2.2.1 w.2.1 4, w.2.2.2.2.1, fup w.2.2.2.2.2 w.2.1 (-1))
  else w
def w0 : bm_W := (0, 0, (fun _ => 0), (fun _ => 0), (fun _ => -1), (fun _ => -1))
def wk (P : bm_P) : Nat → bm_W
  | 0 => w0
  | n + 1 => wS P (wk P n)
def wE (P : bm_P) : bm_W := wk P 48
def FA (P : bm_P) : Nat → Int := (wE P).2.2.1
def FB (P : bm_P) : Nat → Int := (wE P).2.2.2.1
def PA (P : bm_P) : Nat → Int := (wE P).2.2.2.2.1
def PB (P : bm_P) : Nat → Int := (wE P).2.2.2.2.2
theorem fbs_or {P : bm_P} {i j : Nat} : (fbs P i j = 0 ∧ ∀ s : Int, 1 ≤ s → s ≤ 4 → ¬ best P s i j) ∨ ((1 ≤ fbs P i j ∧ fbs P i j ≤ 4) ∧ best P (fbs P i j) i j) := by
  unfold fbs
  by_cases h1 : best P 1 i j
  · rw [if_pos h1]; exact Or.inr ⟨by decide, h1⟩
  · rw [if_neg h1]
    by_cases h2 : best P 2 i j
    · rw [if_pos h2]; exact Or.inr ⟨by decide, h2⟩
    · rw [if_neg h2]
      by_cases h3 : best P 3 i j
      · rw [if_pos h3]; exact Or.inr ⟨by decide, h3⟩
      · rw [if_neg h3]
        by_cases h4 : best P 4 i j
        · rw [if_pos h4]; exact Or.inr ⟨by decide, h4⟩
        · rw [if_neg h4]
          refine Or.inl ⟨rfl, fun s hs1 hs2 => ?_⟩
          have h5 : s = 1 ∨ s = 2 ∨ s = 3 ∨ s = 4 := by omega
          rcases h5 with rfl | rfl | rfl | rfl <;> assumption
theorem fbs_0 {P : bm_P} (h : okP P) {i j : Nat} (hi : i ≤ (pA P).length) (hj : j ≤ (pB P).length) : fbs P i j = 0 ↔ i = (pA P).length ∧ j = (pB P).length := by
  rcases fbs_or (P := P) (i := i) (j := j) with ⟨h1, h2⟩ | ⟨h1, h2⟩
  · refine ⟨fun _ => ?_, fun _ => h1⟩
    rcases bw_at h hi hj with h3 | ⟨s, h3, h4, h5⟩
    · exact h3
    · exact absurd ⟨h4, h5.symm⟩ (h2 s h3.1 h3.2)
  · refine ⟨fun h3 => by omega, fun h3 => ?_⟩
    obtain ⟨rfl, rfl⟩ := h3
    have h4 := h2.1
    have := sc_end (P := P) (s := fbs P (pA P).length (pB P).length)
    omega
/-- what a first best step asks -/
theorem fbs_go {P : bm_P} {i j : Nat} : (fbs P i j = 1 → i < (pA P).length ∧ j < (pB P).length) ∧ (fbs P i j = 2 → i < (pA P).length) ∧ (fbs P i j = 3 → j < (pB P).length ∧ 0 ≤ rep P i j ∧ rep P i j < i) ∧ (fbs P i j = 4 → j < (pB P).length) := by
  rcases fbs_or (P := P) (i := i) (j := j) with ⟨h1, h2⟩ | ⟨h1, h2, h3⟩
  · omega
  · refine ⟨fun h => ?_, fun h => ?_, fun h => ?_, fun h => ?_⟩
    · rw [h, sc_1] at h2
      split at h2
      · rename_i h4; exact ⟨h4.1, h4.2.1⟩
      · omega
    · rw [h] at h2
      by_cases h4 : i < (pA P).length
      · exact h4
      · rw [sc_2n h4] at h2; omega
    · rw [h, sc_3] at h2
      split at h2
      · rename_i h4
        rcases rep_lt (P := P) (i := i) (j := j) with h5 | h5
        · omega
        · exact ⟨h4.1, h4.2, h5.2.1⟩
      · omega
    · rw [h] at h2
      by_cases h4 : j < (pB P).length
      · exact h4
      · rw [sc_4n h4] at h2; omega
/-- what holds of the matching at any time -/
def wI (P : bm_P) (w : bm_W) : Prop := w.1 ≤ (pA P).length ∧ w.2.1 ≤ (pB P).length ∧ (∀ k, k < w.1 → (w.2.2.1 k = 1 ∧ 0 ≤ w.2.2.2.2.1 k ∧ w.2.2.2.2.1 k < w.2.1) ∨ (w.2.2.1 k = 2 ∧ w.2.2.2.2.1 k = -1)) ∧ (∀ k, w.1 ≤ k → w.2.2.1 k = 0 ∧ w.2.2.2.2.1 k = -1) ∧ (∀ k, k < w.2.1 → (w.2.2.2.1 k = 1 ∧ 0 ≤ w.2.2.2.2.2 k ∧ w.2.2.2.2.2 k < w.1) ∨ (w.2.2.2.1 k = 3 ∧ 0 ≤ w.2.2.2.2.2 k ∧ w.2.2.2.2.2 k < w.1) ∨ (w.2.2.2.1 k = 4 ∧ w.2.2.2.2.2 k = -1)) ∧ ∀ k, w.2.1 ≤ k → w.2.2.2.1 k = 0 ∧ w.2.2.2.2.2 k = -1
theorem wS_I {P : bm_P} {w : bm_W} (h : wI P w) : wI P (wS P w) := by
  obtain ⟨i, j, fa, fb, pa, pb⟩ := w
  obtain ⟨h1, h2, h3, h4, h5, h6⟩ := h
  simp only at h1 h2 h3 h4 h5 h6
  obtain ⟨g1, g2, g3, g4⟩ := fbs_go (P := P) (i := i) (j := j)
  unfold wS
  simp only
  split
  · rename_i hs
    have g := g1 hs
    refine ⟨g.1, g.2, fun k hk => ?_, fun k hk => ?_, fun k hk => ?_, fun k hk => ?_⟩ <;> simp only at hk ⊢
    · by_cases hki : k = i
      · subst hki; rw [fup_eq, fup_eq]; exact Or.inl ⟨rfl, by omega, by omega⟩
      · rw [fup_ne hki, fup_ne hki]; have := h3 k (by omega); omega
    · rw [fup_ne (by omega), fup_ne (by omega)]; exact h4 k (by omega)
    · by_cases hki : k = j
      · subst hki; rw [fup_eq, fup_eq]; exact Or.inl ⟨rfl, by omega, by omega⟩
      · rw [fup_ne hki, fup_ne hki]; have := h5 k (by omega); omega
    · rw [fup_ne (by omega), fup_ne (by omega)]; exact h6 k (by omega)
  · split
    · rename_i hs
      have g := g2 hs
      refine ⟨g, h2, fun k hk => ?_, fun k hk => ?_, fun k hk => ?_, fun k hk => ?_⟩ <;> simp only at hk ⊢
      · by_cases hki : k = i
        · subst hki; rw [fup_eq, fup_eq]; exact Or.inr ⟨rfl, rfl⟩
        · rw [fup_ne hki, fup_ne hki]; exact h3 k (by omega)
      · rw [fup_ne (by omega), fup_ne (by omega)]; exact h4 k (by omega)
      · have := h5 k hk; omega
      · exact h6 k hk
    · split
      · rename_i hs
        have g := g3 hs
        refine ⟨h1, g.1, fun k hk => ?_, fun k hk => ?_, fun k hk => ?_, fun k hk => ?_⟩ <;> simp only at hk ⊢
        · have := h3 k hk; omega
        · exact h4 k hk
        · by_cases hki : k = j
          · subst hki; rw [fup_eq, fup_eq]; exact Or.inr (Or.inl ⟨rfl, g.2.1, g.2.2⟩)
          · rw [fup_ne hki, fup_ne hki]; exact h5 k (by omega)
        · rw [fup_ne (by omega), fup_ne (by omega)]; exact h6 k (by omega)
      · split
        · rename_i hs
          have g := g4 hs
          refine ⟨h1, g, fun k hk => ?_, fun k hk => ?_, fun k hk => ?_, fun k hk => ?_⟩ <;> simp only at hk ⊢
          · have := h3 k hk; omega
          · exact h4 k hk
          · by_cases hki : k = j
            · subst hki; rw [fup_eq, fup_eq]; exact Or.inr (Or.inr ⟨rfl, rfl⟩)
            · rw [fup_ne hki, fup_ne hki]; exact h5 k (by omega)
          · rw [fup_ne (by omega), fup_ne (by omega)]; exact h6 k (by omega)
        · exact ⟨h1, h2, h3, h4, h5, h6⟩
theorem wk_I (P : bm_P) : ∀ n, wI P (wk P n)
  | 0 => ⟨Nat.zero_le _, Nat.zero_le _, fun k hk => by simp [wk, w0] at hk, fun _ _ => ⟨rfl, rfl⟩, fun k hk => by simp [wk, w0] at hk, fun _ _ => ⟨rfl, rfl⟩⟩
  | n + 1 => wS_I (wk_I P n)
theorem wS_end {P : bm_P} {w : bm_W} (h : fbs P w.1 w.2.1 = 0) : wS P w = w := by
  unfold wS
  rw [h, if_neg (by decide), if_neg (by decide), if_neg (by decide), if_neg (by decide)]
theorem wS_rst {P : bm_P} {w : bm_W} (hw : wI P w) (h : ¬ fbs P w.1 w.2.1 = 0) : rst P (wS P w).1 (wS P w).2.1 < rst P w.1 w.2.1 := by
  obtain ⟨g1, g2, g3, g4⟩ := fbs_go (P := P) (i := w.1) (j := w.2.1)
  have h1 := hw.1
  have h2 := hw.2.1
  rcases fbs_or (P := P) (i := w.1) (j := w.2.1) with ⟨h3, -⟩ | ⟨h3, -⟩
  · exact absurd h3 h
  · unfold wS rst
    split
    · rename_i hs; have := g1 hs; simp only; omega
    · split
      · rename_i hs; have := g2 hs; simp only; omega
      · split
        · rename_i hs; have := g3 hs; simp only; omega
        · split
          · rename_i hs; have := g4 hs; simp only; omega
          · omega
theorem wk_rst {P : bm_P} (h : okP P) : ∀ n, rst P (wk P n).1 (wk P n).2.1 + n ≤ 48 ∨ fbs P (wk P n).1 (wk P n).2.1 = 0
  | 0 => Or.inl (by have := h.1.2; have := h.2.1.2; show rst P 0 0 + 0 ≤ 48; unfold rst; omega)
  | n + 1 => by
    by_cases h0 : fbs P (wk P n).1 (wk P n).2.1 = 0
    · refine Or.inr ?_
      show fbs P (wS P (wk P n)).1 (wS P (wk P n)).2.1 = 0
      rw [wS_end h0]
      exact h0
    · rcases wk_rst h n with h1 | h1
      · have h2 := wS_rst (wk_I P n) h0
        exact Or.inl (by show rst P (wS P (wk P n)).1 (wS P (wk P n)).2.1 + (n + 1) ≤ 48; omega)
      · exact absurd h1 h0
/-- once the end is reached, nothing changes -/
theorem wk_stay {P : bm_P} {n : Nat} (h : fbs P (wk P n).1 (wk P n).2.1 = 0) : ∀ k, wk P (n + k) = wk P n
  | 0 => rfl
  | k + 1 => by
    show wS P (wk P (n + k)) = _
    rw [wk_stay h k, wS_end h]
theorem wk_fin {P : bm_P} {n : Nat} (hn : n ≤ 48) (h : fbs P (wk P n).1 (wk P n).2.1 = 0) : wk P n = wE P := by
  have h1 := wk_stay h (48 - n)
  rw [show n + (48 - n) = 48 by omega] at h1
  exact h1.symm
theorem wE_end {P : bm_P} (h : okP P) : (wE P).1 = (pA P).length ∧ (wE P).2.1 = (pB P).length := by
  have hI := wk_I P 48
  rcases wk_rst h 48 with h1 | h1
  · have h2 := hI.1
    have h3 := hI.2.1
    show (wk P 48).1 = _ ∧ (wk P 48).2.1 = _
    unfold rst at h1
    omega
  · exact (fbs_0 h hI.1 hI.2.1).mp h1
theorem wE_I {P : bm_P} (h : okP P) : (∀ k, k < (pA P).length → (FA P k = 1 ∧ 0 ≤ PA P k ∧ PA P k < (pB P).length) ∨ (FA P k = 2 ∧ PA P k = -1)) ∧ (∀ k, (pA P).length ≤ k → FA P k = 0 ∧ PA P k = -1) ∧ (∀ k, k < (pB P).length → (FB P k = 1 ∧ 0 ≤ PB P k ∧ PB P k < (pA P).length) ∨ (FB P k = 3 ∧ 0 ≤ PB P k ∧ PB P k < (pA P).length) ∨ (FB P k = 4 ∧ PB P k = -1)) ∧ ∀ k, (pB P).length ≤ k → FB P k = 0 ∧ PB P k = -1 := by
  obtain ⟨h1, h2, h3, h4, h5, h6⟩ := wk_I P 48
  obtain ⟨e1, e2⟩ := wE_end h
  have e1' : (wk P 48).1 = (pA P).length := e1
  have e2' : (wk P 48).2.1 = (pB P).length := e2
  rw [e1'] at h3 h4 h5
  rw [e2'] at h3 h5 h6
  exact ⟨h3, h4, h5, h6⟩
/-- the class writes NONE where there is no partner -/
def nn (x : Int) : Int := if x < 0 then -1000009 else x
/-- the next match from k on, among n beds; -1: none -/
def nxt (f : Nat → Int) : Nat → Nat → Int
  | 0, _ => -1
  | n + 1, k => if f k = 1 then (k : Int) else nxt f n (k + 1)
def NX (P : bm_P) (k : Nat) : Int := nxt (FA P) (23 - k) (k + 1)
abbrev HT (P : bm_P) (k : Nat) : Prop := FA P k = 1 ∧ 0 ≤ NX P k
def TH (P : bm_P) (k : Nat) : Int := (dep (pA P) (NX P k).toNat - dep (pA P) k) - (dep (pB P) (PA P (NX P k).toNat).toNat - dep (pB P) (PA P k).toNat)
def anyN (p : Nat → Bool) : Nat → Nat → Bool
  | 0, _ => false
  | n + 1, k => p k || anyN p n (k + 1)
def rs3 (a b c : Bool) : Int := (if a then 1 else 0) + (if b then 2 else 0) + (if c then 4 else 0)
def RS (P : bm_P) (k : Nat) : Int := rs3 (decide ((k : Int) + 1 < NX P k)) (anyN (fun j => decide (FB P j = 3)) ((PA P (NX P k).toNat).toNat - ((PA P k).toNat + 1)) ((PA P k).toNat + 1)) (anyN (fun j => !decide (FB P j = 3)) ((PA P (NX P k).toNat).toNat - ((PA P k).toNat + 1)) ((PA P k).toNat + 1))
abbrev FT (P : bm_P) (t : Int) (k : Nat) : Prop := HT P k ∧ t ≤ ((TH P k).natAbs : Int)
theorem nxt_or (f : Nat → Int) : ∀ (n k : Nat), (nxt f n k = -1 ∧ ∀ x, k ≤ x → x < k + n → ¬ f x = 1) ∨ ((k : Int) ≤ nxt f n k ∧ nxt f n k < k + n ∧ f (nxt f n k).toNat = 1 ∧ ∀ x : Nat, k ≤ x → (x : Int) < nxt f n k → ¬ f x = 1)
  | 0, k => Or.inl ⟨rfl, fun x h1 h2 => by omega⟩
  | n + 1, k => by
    rw [nxt]
    split
    · rename_i h
      exact Or.inr ⟨by omega, by omega, by simpa using h, fun x h1 h2 => by omega⟩
    · rename_i h
      rcases nxt_or f n (k + 1) with ⟨h1, h2⟩ | ⟨h1, h2, h3, h4⟩
      · refine Or.inl ⟨h1, fun x h3 h4 => ?_⟩
        by_cases hx : x = k
        · rw [hx]; exact h
        · exact h2 x (by omega) (by omega)
      · refine Or.inr ⟨by omega, by omega, h3, fun x h5 h6 => ?_⟩
        by_cases hx : x = k
        · rw [hx]; exact h
        · exact h4 x (by omega) h6
/-- a bed that a throw lies below -/
theorem HT_go {P : bm_P} (h : okP P) {k : Nat} (hT : HT P k) : k < (pA P).length ∧ (k : Int) < NX P k ∧ NX P k < (pA P).length ∧ FA P (NX P k).toNat = 1 ∧ (0 ≤ PA P k ∧ PA P k < (pB P).length) ∧ (0 ≤ PA P (NX P k).toNat ∧ PA P (NX P k).toNat < (pB P).length) := by
  obtain ⟨h1, h2, -, -⟩ := wE_I h
  have hl : ∀ x, FA P x = 1 → x < (pA P).length ∧ 0 ≤ PA P x ∧ PA P x < (pB P).length := by
    intro x hx
    rcases Nat.lt_or_ge x (pA P).length with h3 | h3
    · have := h1 x h3; exact ⟨h3, by omega⟩
    · have := h2 x h3; omega
  have h4 := hl k hT.1
  have h7 := hT.2
  rcases nxt_or (FA P) (23 - k) (k + 1) with ⟨h5, -⟩ | ⟨h5, h6, h8, -⟩
  · exact absurd h7 (by show ¬ 0 ≤ nxt (FA P) (23 - k) (k + 1); omega)
  · have h9 := hl _ h8
    have h10 : NX P k = nxt (FA P) (23 - k) (k + 1) := rfl
    rw [← h10] at h5 h6 h8 h9
    exact ⟨h4.1, by omega, by omega, h8, h4.2, h9.2⟩
theorem TH_R {P : bm_P} (h : okP P) {k : Nat} (hT : HT P k) : -5000 ≤ TH P k ∧ TH P k ≤ 5000 := by
  obtain ⟨h1, h2, h3, h4, h5, h6⟩ := HT_go h hT
  have a1 := dep_le h.1.1 (n := (NX P k).toNat) (by omega)
  have a2 := dep_le h.1.1 (n := k) (by omega)
  have a3 := dep_le h.2.1.1 (n := (PA P (NX P k).toNat).toNat) (by omega)
  have a4 := dep_le h.2.1.1 (n := (PA P k).toNat) (by omega)
  have := h.1.2
  have := h.2.1.2
  unfold TH
  omega
