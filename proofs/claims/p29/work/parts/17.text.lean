/-! the text -/
def chr (t : List Int) (p : Nat) : Int := t.getD p (-1)
def cntS : List Int → Nat
  | [] => 0
  | a :: l => if a = 32 then cntS l + 1 else 0
def skp (t : List Int) (p : Nat) : Nat := p + cntS (t.drop p)
def txOK (t : List Int) : Prop := ∀ x ∈ t, 0 ≤ x ∧ x ≤ 255
theorem cntS_le : ∀ l : List Int, cntS l ≤ l.length
  | [] => Nat.le_refl _
  | a :: l => by
    have := cntS_le l
    simp only [cntS, List.length_cons]
    split <;> omega
theorem skp_le {t : List Int} {p : Nat} (h : p ≤ t.length) : p ≤ skp t p ∧ skp t p ≤ t.length := by
  have := cntS_le (t.drop p)
  rw [List.length_drop] at this
  unfold skp
  omega
theorem chr_lt {t : List Int} {p : Nat} (h : p < t.length) : t.drop p = chr t p :: t.drop (p + 1) := by
  unfold chr
  rw [List.getD_eq_getElem?_getD, List.getElem?_eq_getElem h, Option.getD_some]
  exact List.drop_eq_getElem_cons h
theorem chr_ge {t : List Int} {p : Nat} (h : t.length ≤ p) : chr t p = -1 := by
  unfold chr
  rw [List.getD_eq_getElem?_getD, List.getElem?_eq_none h]
  rfl
theorem chr_ok {t : List Int} (ht : txOK t) {p : Nat} : (p < t.length → 0 ≤ chr t p) ∧ -1 ≤ chr t p ∧ chr t p ≤ 255 := by
  rcases Nat.lt_or_ge p t.length with h | h
  · have h1 := ht (t[p]) (List.getElem_mem h)
    have e : chr t p = t[p] := by
      unfold chr
      rw [List.getD_eq_getElem?_getD, List.getElem?_eq_getElem h, Option.getD_some]
    omega
  · have := chr_ge h
    omega
theorem skp_32 {t : List Int} {p : Nat} (h : chr t p = 32) : skp t p = skp t (p + 1) := by
  rcases Nat.lt_or_ge p t.length with h1 | h1
  · unfold skp
    rw [chr_lt h1, cntS, if_pos h]
    omega
  · rw [chr_ge h1] at h
    exact absurd h (by decide)
theorem skp_no {t : List Int} {p : Nat} (h : ¬ chr t p = 32) : skp t p = p := by
  unfold skp
  rcases Nat.lt_or_ge p t.length with h1 | h1
  · rw [chr_lt h1, cntS, if_neg h]; rfl
  · rw [List.drop_eq_nil_of_le h1]; rfl
/-- the text, and where the reading stands -/
def txR (g : bg_E) (t : List Int) (p : Nat) : Prop := g 148 1 = (t.length : Int) ∧ t.length ≤ 100 ∧ (∀ k, k < t.length → g 149 k = chr t k) ∧ txOK t ∧ g 148 2 = (p : Int) ∧ p ≤ t.length
def fr1 (g g' : bg_E) : Prop := ∀ x j : Nat, ¬ (x = 148 ∧ j = 2) → g' x j = g x j
def frB (g g' : bg_E) : Prop := ∀ x j : Nat, ¬ (x = 148 ∧ j = 2) → ¬ (150 ≤ x ∧ x < 153) → g' x j = g x j
theorem fr1.rf {g : bg_E} : fr1 g g := fun _ _ _ => rfl
theorem fr1.tr {g g1 g2 : bg_E} (h : fr1 g g1) (h2 : fr1 g1 g2) : fr1 g g2 := fun x j hx => (h2 x j hx).trans (h x j hx)
theorem fr1.up {g g1 : bg_E} {v : Int} (h : fr1 g g1) : fr1 g (bg_up g1 148 2 v) := fun x j hx => by
  unfold bg_up
  rw [if_neg hx]
  exact h x j hx
theorem fr1.col {g g1 : bg_E} {q : bm_Q} (h : fr1 g g1) (hq : colR g 150 q) : colR g1 150 q := by
  unfold colR
  have e1 : g1 150 = g 150 := funext fun j => h 150 j (by omega)
  have e2 : g1 (150 + 1) = g (150 + 1) := funext fun j => h _ j (by omega)
  have e3 : g1 (150 + 2) = g (150 + 2) := funext fun j => h _ j (by omega)
  rw [e1, e2, e3]
  exact hq
theorem frB.tr {g g1 g2 : bg_E} (h : frB g g1) (h2 : frB g1 g2) : frB g g2 := fun x j hx hy => (h2 x j hx hy).trans (h x j hx hy)
theorem fr1.B {g g1 : bg_E} (h : fr1 g g1) : frB g g1 := fun x j hx _ => h x j hx
theorem frR.B {g g1 : bg_E} (h : frR 150 153 g g1) : frB g g1 := fun x j _ hy => by rw [h x (by omega)]
theorem txR.pos {g g' : bg_E} {t : List Int} {p p' : Nat} (h : txR g t p) (hf : frB g g') (h2 : g' 148 2 = (p' : Int)) (hp : p' ≤ t.length) : txR g' t p' := by
  obtain ⟨h1, h2', h3, h4, h5, h6⟩ := h
  exact ⟨by rw [hf 148 1 (by decide) (by decide)]; exact h1, h2', fun k hk => by rw [hf 149 k (by omega) (by omega)]; exact h3 k hk, h4, h2, hp⟩
theorem txR.up {g : bg_E} {t : List Int} {p p' : Nat} {v : Int} (h : txR g t p) (hv : v = (p' : Int)) (hp : p' ≤ t.length) : txR (bg_up g 148 2 v) t p' := h.pos (fr1.rf.up).B (by rw [up_eq, hv]) hp
theorem txR.R {g : bg_E} {t : List Int} {p : Nat} (h : txR g t p) : g 148 2 = (p : Int) ∧ p ≤ 100 ∧ g 148 1 = (t.length : Int) ∧ t.length ≤ 100 := ⟨h.2.2.2.2.1, by have := h.2.1; have := h.2.2.2.2.2; omega, h.1, h.2.1⟩
theorem c_X5_size {y : bg_Y} {g : bg_E} : bg_Si y 0 mX5_size [.inr 148] g (fun r g' => r = g 148 1 ∧ g' = g) := by
  refine bg_enter pnX5 (Nat.le_of_ble_eq_true rfl) (fun κ X hR hg => ?_)
  have X1 : bg_X κ y cX5_size RX5 0 0 0 := X.1
  have hg : ∀ a k, R32 (g a k) := hg
  show bg_g κ y 0 [some (.inr 148)] [] g
  refine bg_aload0 (pc := 0) X1 dX5_size_0 ?_
  refine bo_getI (pc := 1) X1 dX5_size_1 fX5_15 (by first | assumption | rfl) rfl ?_
  exact bo_iret (pc := 4) X rfl dX5_size_4 (fun hi => ⟨by first | rfl | omega, rfl⟩)
def prsT (t : List Int) (p : Nat) : Int × Nat := if chr t p - 48 < 1 ∨ 9 < chr t p - 48 then (0, p) else if chr t (p + 1) - 48 < 0 ∨ 9 < chr t (p + 1) - 48 then (chr t p - 48, p + 1) else (10 * (chr t p - 48) + (chr t (p + 1) - 48), p + 2)
/-- reads beds: whether it goes well, where it ends, the beds -/
def prsB (t : List Int) : Nat → Nat → bm_Q → Bool × Nat × bm_Q
  | 0, p, a => (true, p, a)
  | f + 1, p, a => if ¬ isMa (chr t (skp t p) - 97) then (true, skp t p, a) else if (prsT t (skp t (skp t p + 1))).1 = 0 then (false, (prsT t (skp t (skp t p + 1))).2, a) else prsB t f (prsT t (skp t (skp t p + 1))).2 (a ++ [(chr t (skp t p) - 97, (prsT t (skp t (skp t p + 1))).1)])
