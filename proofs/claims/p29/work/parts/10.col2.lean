/-! a column as a list of beds (mark, thickness) -/
abbrev bm_Q : Type := List (Int × Int)
def mrk (q : bm_Q) (k : Nat) : Int := (q.getD k (0, 0)).1
def th (q : bm_Q) (k : Nat) : Int := (q.getD k (0, 0)).2
def dep (q : bm_Q) : Nat → Int
  | 0 => 0
  | n + 1 => dep q n + th q n
def colR (g : bg_E) (c : Nat) (q : bm_Q) : Prop := g c 1 = (q.length : Int) ∧ q.length ≤ 24 ∧ ∀ k : Nat, k < q.length → g (c + 1) k = mrk q k ∧ g (c + 2) k = th q k
def bedOK (p : Int × Int) : Prop := 0 ≤ p.1 ∧ p.1 ≤ 25 ∧ 1 ≤ p.2 ∧ p.2 ≤ 99
def colOK (q : bm_Q) : Prop := ∀ p ∈ q, bedOK p
/-- what lies outside lo .. hi - 1 is as it was -/
def frR (lo hi : Nat) (g g' : bg_E) : Prop := ∀ x : Nat, (x < lo ∨ hi ≤ x) → g' x = g x
theorem frR.rf {lo hi : Nat} {g : bg_E} : frR lo hi g g := fun _ _ => rfl
theorem frR.tr {lo hi : Nat} {g g1 g2 : bg_E} (h : frR lo hi g g1) (h2 : frR lo hi g1 g2) : frR lo hi g g2 := fun x hx => (h2 x hx).trans (h x hx)
theorem frR.wide {lo hi lo' hi' : Nat} {g g' : bg_E} (h : frR lo hi g g') (h1 : lo' ≤ lo) (h2 : hi ≤ hi') : frR lo' hi' g g' := fun x hx => h x (by omega)
theorem frR.up {lo hi a k : Nat} {v : Int} {g g' : bg_E} (h : frR lo hi g g') (h1 : lo ≤ a) (h2 : a < hi) : frR lo hi g (bg_up g' a k v) := fun x hx => by
  rw [bg_up_ne (by omega)]
  exact h x hx
theorem up_eq {g : bg_E} {a k : Nat} {v : Int} : bg_up g a k v a k = v := by simp [bg_up]
theorem up_k {g : bg_E} {a k j : Nat} {v : Int} (h : j ≠ k) : bg_up g a k v a j = g a j := by simp [bg_up, h]
theorem up_a {g : bg_E} {a x k j : Nat} {v : Int} (h : x ≠ a) : bg_up g a k v x j = g x j := by simp [bg_up, h]
theorem thOK {q : bm_Q} (h : colOK q) {k : Nat} (hk : k < q.length) : 1 ≤ th q k ∧ th q k ≤ 99 := by
  have h1 := h _ (List.getElem_mem hk)
  have e : th q k = q[k].2 := by simp only [th, List.getD_eq_getElem?_getD, List.getElem?_eq_getElem hk, Option.getD_some]
  rw [e]
  exact ⟨h1.2.2.1, h1.2.2.2⟩
theorem mkOK {q : bm_Q} (h : colOK q) {k : Nat} (hk : k < q.length) : 0 ≤ mrk q k ∧ mrk q k ≤ 25 := by
  have h1 := h _ (List.getElem_mem hk)
  have e : mrk q k = q[k].1 := by simp only [mrk, List.getD_eq_getElem?_getD, List.getElem?_eq_getElem hk, Option.getD_some]
  rw [e]
  exact ⟨h1.1, h1.2.1⟩
theorem dep_le {q : bm_Q} (h : colOK q) : ∀ {n : Nat}, n ≤ q.length → (n : Int) ≤ dep q n ∧ dep q n ≤ 99 * n
  | 0, _ => by simp [dep]
  | n + 1, hn => by
    have h1 := dep_le h (n := n) (by omega)
    have h2 := thOK h (k := n) (by omega)
    show ((n + 1 : Nat) : Int) ≤ dep q n + th q n ∧ dep q n + th q n ≤ 99 * ((n + 1 : Nat) : Int)
    omega
theorem c_X0_depthOf {y : bg_Y} {g : bg_E} {c : Nat} {bed : Int} {q : bm_Q} (hc : bg_col c) (hq : colR g c q) (hv : colOK q) (hb : 0 ≤ bed ∧ bed ≤ q.length) : bg_Si y 1 mX0_depthOf [.inr c, .inl bed] g (fun r g' => r = dep q bed.toNat ∧ g' = g) := by
  obtain ⟨k1, k2, k3, k4, k5⟩ := id hc
  obtain ⟨q1, q2, q3⟩ := hq
  refine bg_enter pnX0 (Nat.le_of_ble_eq_true rfl) (fun κ X hR hg => ?_)
  have X1 : bg_X κ y cX0_depthOf RX0 1 0 0 := X.1
  have hg : ∀ a k, R32 (g a k) := hg
  show bg_g κ y 0 [some (.inr c), some (.inl bed), none, none] [] g
  have loop : ∀ (n k : Nat) (s a : Int), s = dep q k → a = (k : Int) → (k : Int) ≤ bed → (k : Int) + n = bed + 1 → bg_g κ y 4 [some (.inr c), some (.inl bed), some (.inl s), some (.inl a)] [] g := by
    intro n
    induction n with
    | zero => intro k s a hs ha h1 h2; omega
    | succ n ih =>
      intro k s a hs ha h1 h2
      have h3 := dep_le hv (n := k) (by omega)
      refine bg_iload3 (pc := 4) X1 dX0_depthOf_4 ?_
      refine bg_iload1 (pc := 5) X1 dX0_depthOf_5 ?_
      refine bg_icmp_ge (pc := 6) X1 (tgt := 38) dX0_depthOf_6 (by decide) (fun u6 => ?_) (fun u6 => ?_)
      · refine bg_iload2 (pc := 38) X1 dX0_depthOf_38 ?_
        exact bo_iret (pc := 39) X rfl dX0_depthOf_39 (fun hi => ⟨by rw [hs]; congr 1; omega, rfl⟩)
      · refine bg_iload3 (pc := 9) X1 dX0_depthOf_9 ?_
        refine bg_bipush (pc := 10) X1 dX0_depthOf_10 rfl (by decide) ?_
        refine bg_icmp_ge (pc := 12) X1 (tgt := 38) dX0_depthOf_12 (by decide) (fun u12 => ?_) (fun u12 => ?_)
        · exfalso; omega
        · refine bg_aload0 (pc := 15) X1 dX0_depthOf_15 ?_
          refine bg_iload3 (pc := 16) X1 dX0_depthOf_16 ?_
          refine bo_V1i (pc := 17) X1 (c_X0_has (by assumption)) vX0_has lX0_25 rfl (by first | assumption | rfl) (by decide) dX0_depthOf_17 (by exact Nat.le_of_ble_eq_true rfl) ?_
          rintro _ _ ⟨h9, h8⟩
          obtain rfl := h9.symm
          obtain rfl := h8.symm
          clear h9 h8
          refine bo_ifeq_b (pc := 20) X1 (tgt := 38) dX0_depthOf_20 (by decide) (fun u20 => ?_) (fun u20 => ?_)
          · exfalso; omega
          · have h4 := thOK hv (k := k) (by omega)
            have e1 : g (c + 2) a.toNat = th q k := by rw [ha]; exact (q3 k (by omega)).2
            refine bg_iload2 (pc := 23) X1 dX0_depthOf_23 ?_
            refine bg_aload0 (pc := 24) X1 dX0_depthOf_24 ?_
            refine bo_getR (pc := 25) X1 dX0_depthOf_25 fX0_22 (by first | assumption | rfl) rfl (by first | assumption | rfl) ?_
            refine bg_iload3 (pc := 28) X1 dX0_depthOf_28 ?_
            refine bo_iaload (pc := 29) X1 dX0_depthOf_29 (by first | assumption | rfl) (by omega) ?_
            refine bg_iadd (pc := 30) X1 dX0_depthOf_30 (by omega) ?_
            refine bg_istore2 (pc := 31) X1 dX0_depthOf_31 ?_
            refine bg_iinc3 (pc := 32) X1 dX0_depthOf_32 (by omega) ?_
            refine bg_goto (pc := 35) X1 (tgt := 4) dX0_depthOf_35 (by decide) ?_
            exact ih (k + 1) _ _ (by rw [hs, e1]; rfl) (by omega) (by omega) (by omega)
  refine bg_iconst (pc := 0) X1 dX0_depthOf_0 (by decide) ?_
  refine bg_istore2 (pc := 1) X1 dX0_depthOf_1 ?_
  refine bg_iconst (pc := 2) X1 dX0_depthOf_2 (by decide) ?_
  refine bg_istore3 (pc := 3) X1 dX0_depthOf_3 ?_
  exact loop (bed.toNat + 1) 0 _ _ rfl rfl (by omega) (by omega)
theorem c_X0_elevationOf {y : bg_Y} {g : bg_E} {c : Nat} {bed : Int} {q : bm_Q} (hc : bg_col c) (hq : colR g c q) (hv : colOK q) (hb : 0 ≤ bed ∧ bed ≤ q.length) (he : -9999 ≤ g c 0 ∧ g c 0 ≤ 9999) : bg_Si y 2 mX0_elevationOf [.inr c, .inl bed] g (fun r g' => r = g c 0 - dep q bed.toNat ∧ g' = g) := by
  obtain ⟨k1, k2, k3, k4, k5⟩ := id hc
  have q2 := hq.2.1
  have h3 := dep_le hv (n := bed.toNat) (by omega)
  refine bg_enter pnX0 (Nat.le_of_ble_eq_true rfl) (fun κ X hR hg => ?_)
  have X1 : bg_X κ y cX0_elevationOf RX0 2 0 0 := X.1
  have hg : ∀ a k, R32 (g a k) := hg
  show bg_g κ y 0 [some (.inr c), some (.inl bed)] [] g
  refine bg_aload0 (pc := 0) X1 dX0_elevationOf_0 ?_
  refine bo_getI (pc := 1) X1 dX0_elevationOf_1 fX0_9 (by first | assumption | rfl) rfl ?_
  refine bg_aload0 (pc := 4) X1 dX0_elevationOf_4 ?_
  refine bg_iload1 (pc := 5) X1 dX0_elevationOf_5 ?_
  refine bo_V1i (pc := 6) X1 (c_X0_depthOf hc hq hv hb) vX0_depthOf lX0_30 rfl (by first | assumption | rfl) (by decide) dX0_elevationOf_6 (by exact Nat.le_of_ble_eq_true rfl) ?_
  rintro _ _ ⟨h9, h8⟩
  obtain rfl := h9.symm
  obtain rfl := h8.symm
  clear h9 h8
  refine bg_isub (pc := 9) X1 dX0_elevationOf_9 (by omega) ?_
  exact bo_iret (pc := 10) X rfl dX0_elevationOf_10 (fun hi => ⟨by first | rfl | omega, rfl⟩)
theorem c_X0_totalThickness {y : bg_Y} {g : bg_E} {c : Nat} {q : bm_Q} (hc : bg_col c) (hq : colR g c q) (hv : colOK q) : bg_Si y 2 mX0_totalThickness [.inr c] g (fun r g' => r = dep q q.length ∧ g' = g) := by
  obtain ⟨k1, k2, k3, k4, k5⟩ := id hc
  have q1 := hq.1
  refine bg_enter pnX0 (Nat.le_of_ble_eq_true rfl) (fun κ X hR hg => ?_)
  have X1 : bg_X κ y cX0_totalThickness RX0 2 0 0 := X.1
  have hg : ∀ a k, R32 (g a k) := hg
  show bg_g κ y 0 [some (.inr c)] [] g
  refine bg_aload0 (pc := 0) X1 dX0_totalThickness_0 ?_
  refine bg_aload0 (pc := 1) X1 dX0_totalThickness_1 ?_
  refine bo_getI (pc := 2) X1 dX0_totalThickness_2 fX0_15 (by first | assumption | rfl) rfl ?_
  refine bo_V1i (pc := 5) X1 (c_X0_depthOf hc hq hv (by omega)) vX0_depthOf lX0_30 rfl (by first | assumption | rfl) (by decide) dX0_totalThickness_5 (by exact Nat.le_of_ble_eq_true rfl) ?_
  rintro _ _ ⟨h9, h8⟩
  obtain rfl := h9.symm
  obtain rfl := h8.symm
  clear h9 h8
  exact bo_iret (pc := 8) X rfl dX0_totalThickness_8 (fun hi => ⟨by rw [q1]; rfl, rfl⟩)
/-- the bed with a mark, the w-th from the k-th on -/
def fndB (q : bm_Q) (m : Int) : Nat → Nat → Int → Int
  | 0, _, _ => -1000009
  | f + 1, k, w => if mrk q k = m then (if w = 0 then (k : Int) else fndB q m f (k + 1) (w - 1)) else fndB q m f (k + 1) w
theorem c_X0_bedWithMark {y : bg_Y} {g : bg_E} {c : Nat} {m w : Int} {q : bm_Q} (hc : bg_col c) (hq : colR g c q) (hw : 0 ≤ w) : bg_Si y 1 mX0_bedWithMark [.inr c, .inl m, .inl w] g (fun r g' => r = fndB q m q.length 0 w ∧ g' = g) := by
  obtain ⟨k1, k2, k3, k4, k5⟩ := id hc
  obtain ⟨q1, q2, q3⟩ := hq
  refine bg_enter pnX0 (Nat.le_of_ble_eq_true rfl) (fun κ X hR hg => ?_)
  have X1 : bg_X κ y cX0_bedWithMark RX0 1 0 0 := X.1
  have hg : ∀ a k, R32 (g a k) := hg
  show bg_g κ y 0 [some (.inr c), some (.inl m), some (.inl w), none, none] [] g
  have loop : ∀ (n k : Nat) (s a : Int), 0 ≤ s → s ≤ k → s ≤ w → a = (k : Int) → k + n = q.length → fndB q m q.length 0 w = fndB q m n k (w - s) → bg_g κ y 5 [some (.inr c), some (.inl m), some (.inl w), some (.inl s), some (.inl a)] [] g := by
    intro n
    induction n with
    | zero =>
      intro k s a hs hs2 hs3 ha h1 h2
      refine bg_iload4 (pc := 5) X1 dX0_bedWithMark_5 ?_
      refine bg_bipush (pc := 7) X1 dX0_bedWithMark_7 rfl (by decide) ?_
      refine bg_icmp_ge (pc := 9) X1 (tgt := 49) dX0_bedWithMark_9 (by decide) (fun u9 => ?_) (fun u9 => ?_)
      · refine bg_ldc (pc := 49) X1 dX0_bedWithMark_49 kX0_29 (by decide) ?_
        exact bo_iret (pc := 51) X rfl dX0_bedWithMark_51 (fun hi => ⟨h2.symm, rfl⟩)
      · refine bg_aload0 (pc := 12) X1 dX0_bedWithMark_12 ?_
        refine bg_iload4 (pc := 13) X1 dX0_bedWithMark_13 ?_
        refine bo_V1i (pc := 15) X1 (c_X0_has (by assumption)) vX0_has lX0_25 rfl (by first | assumption | rfl) (by decide) dX0_bedWithMark_15 (by exact Nat.le_of_ble_eq_true rfl) ?_
        rintro _ _ ⟨h9, h8⟩
        obtain rfl := h9.symm
        obtain rfl := h8.symm
        clear h9 h8
        refine bo_ifeq_b (pc := 18) X1 (tgt := 49) dX0_bedWithMark_18 (by decide) (fun u18 => ?_) (fun u18 => ?_)
        · refine bg_ldc (pc := 49) X1 dX0_bedWithMark_49 kX0_29 (by decide) ?_
          exact bo_iret (pc := 51) X rfl dX0_bedWithMark_51 (fun hi => ⟨h2.symm, rfl⟩)
        · exfalso; omega
    | succ n ih =>
      intro k s a hs hs2 hs3 ha h1 h2
      refine bg_iload4 (pc := 5) X1 dX0_bedWithMark_5 ?_
      refine bg_bipush (pc := 7) X1 dX0_bedWithMark_7 rfl (by decide) ?_
      refine bg_icmp_ge (pc := 9) X1 (tgt := 49) dX0_bedWithMark_9 (by decide) (fun u9 => ?_) (fun u9 => ?_)
      · exfalso; omega
      · refine bg_aload0 (pc := 12) X1 dX0_bedWithMark_12 ?_
        refine bg_iload4 (pc := 13) X1 dX0_bedWithMark_13 ?_
        refine bo_V1i (pc := 15) X1 (c_X0_has (by assumption)) vX0_has lX0_25 rfl (by first | assumption | rfl) (by decide) dX0_bedWithMark_15 (by exact Nat.le_of_ble_eq_true rfl) ?_
        rintro _ _ ⟨h9, h8⟩
        obtain rfl := h9.symm
        obtain rfl := h8.symm
        clear h9 h8
        refine bo_ifeq_b (pc := 18) X1 (tgt := 49) dX0_bedWithMark_18 (by decide) (fun u18 => ?_) (fun u18 => ?_)
        · exfalso; omega
        · have e1 : g (c + 1) a.toNat = mrk q k := by rw [ha]; exact (q3 k (by omega)).1
          rw [fndB] at h2
          refine bg_aload0 (pc := 21) X1 dX0_bedWithMark_21 ?_
          refine bo_getR (pc := 22) X1 dX0_bedWithMark_22 fX0_18 (by first | assumption | rfl) rfl (by first | assumption | rfl) ?_
          refine bg_iload4 (pc := 25) X1 dX0_bedWithMark_25 ?_
          refine bo_iaload (pc := 27) X1 dX0_bedWithMark_27 (by first | assumption | rfl) (by omega) ?_
          refine bg_iload1 (pc := 28) X1 dX0_bedWithMark_28 ?_
          refine bg_icmp_ne (pc := 29) X1 (tgt := 43) dX0_bedWithMark_29 (by decide) (fun u29 => ?_) (fun u29 => ?_)
          · have e2 := h2
            rw [if_neg (by rw [← e1]; exact u29)] at e2
            refine bg_iinc4 (pc := 43) X1 dX0_bedWithMark_43 (by omega) ?_
            refine bg_goto (pc := 46) X1 (tgt := 5) dX0_bedWithMark_46 (by decide) ?_
            exact ih (k + 1) _ _ (by omega) (by omega) (by omega) (by omega) (by omega) e2
          · refine bg_iload3 (pc := 32) X1 dX0_bedWithMark_32 ?_
            refine bg_iload2 (pc := 33) X1 dX0_bedWithMark_33 ?_
            refine bg_icmp_ne (pc := 34) X1 (tgt := 40) dX0_bedWithMark_34 (by decide) (fun u34 => ?_) (fun u34 => ?_)
            · have e2 := h2
              rw [if_pos (by rw [← e1]; exact u29), if_neg (by omega), show w - s - 1 = w - (s + 1) by omega] at e2
              refine bg_iinc3 (pc := 40) X1 dX0_bedWithMark_40 (by omega) ?_
              refine bg_iinc4 (pc := 43) X1 dX0_bedWithMark_43 (by omega) ?_
              refine bg_goto (pc := 46) X1 (tgt := 5) dX0_bedWithMark_46 (by decide) ?_
              exact ih (k + 1) _ _ (by omega) (by omega) (by omega) (by omega) (by omega) e2
            · refine bg_iload4 (pc := 37) X1 dX0_bedWithMark_37 ?_
              exact bo_iret (pc := 39) X rfl dX0_bedWithMark_39 (fun hi => ⟨by rw [h2, if_pos (by rw [← e1]; exact u29), if_pos (by omega)]; exact ha, rfl⟩)
  refine bg_iconst (pc := 0) X1 dX0_bedWithMark_0 (by decide) ?_
  refine bg_istore3 (pc := 1) X1 dX0_bedWithMark_1 ?_
  refine bg_iconst (pc := 2) X1 dX0_bedWithMark_2 (by decide) ?_
  refine bg_istore4 (pc := 3) X1 dX0_bedWithMark_3 ?_
  exact loop q.length 0 _ _ (by decide) (by omega) (by omega) rfl (by omega) (by rw [Int.sub_zero])
