/-! the model: all it keeps, and how it saves a state -/
def rowF (g : bg_E) (a b : Nat) : Nat → Int := fun k => g a (b + k)
def hisM (g : bg_E) (hs : List bm_S) : Prop := g 198 4 = (hs.length : Int) ∧ hs.length ≤ 6 ∧ ∀ (j : Nat) (T : bm_S), hs[j]? = some T → rowR (rowF g 200 (210 * j)) T
def imgM (g : bg_E) (f : Nat → Option bm_S) : Prop := g 198 5 = mk2 (f 0).isSome (f 1).isSome ∧ ∀ (i : Nat) (T : bm_S), i < 2 → f i = some T → rowR (rowF g 201 (210 * i)) T
def txM (g : bg_E) (t : List Int) : Prop := g 198 7 = (t.length : Int) ∧ t.length ≤ 100 ∧ (∀ k, k < t.length → g 203 k = chr t k) ∧ txOK t
def modR (g : bg_E) (X : bm_X) : Prop := rowR (g 199) X.1 ∧ hisM g X.2.1 ∧ imgM g X.2.2.1 ∧ txM g X.2.2.2
/-- what the model keeps is as it was -/
def mres (g g' : bg_E) : Prop := ∀ x j : Nat, (x < 198 ∨ 214 ≤ x ∨ (199 ≤ x ∧ x ≤ 203) ∨ (x = 198 ∧ j < 9)) → g' x j = g x j
/-- a saving's own cells -/
def sfr (g g' : bg_E) : Prop := ∀ x j : Nat, ¬ x = 200 → ¬ (x = 198 ∧ j = 4) → g' x j = g x j
theorem sfr.at {g g' : bg_E} (h : sfr g g') {x : Nat} (h1 : ¬ x = 200) (h2 : ¬ x = 198) : g' x = g x := funext fun j => h x j h1 (fun e => h2 e.1)
theorem hisM.cg {g g' : bg_E} {hs : List bm_S} (h : hisM g hs) (h1 : g' 198 4 = g 198 4) (h2 : g' 200 = g 200) : hisM g' hs := by
  unfold hisM rowF at h ⊢
  rw [h1, h2]; exact h
theorem imgM.cg {g g' : bg_E} {f : Nat → Option bm_S} (h : imgM g f) (h1 : g' 198 5 = g 198 5) (h2 : g' 201 = g 201) : imgM g' f := by
  unfold imgM rowF at h ⊢
  rw [h1, h2]; exact h
theorem txM.cg {g g' : bg_E} {t : List Int} (h : txM g t) (h1 : g' 198 7 = g 198 7) (h2 : g' 203 = g 203) : txM g' t := by
  unfold txM at h ⊢
  rw [h1, h2]; exact h
theorem mres.at {g g' : bg_E} (h : mres g g') {x : Nat} (hx : 199 ≤ x ∧ x ≤ 203) : g' x = g x := funext fun j => h x j (by omega)
theorem mres.rf {g : bg_E} : mres g g := fun _ _ _ => rfl
theorem mres.tr {g g1 g2 : bg_E} (h : mres g g1) (h2 : mres g1 g2) : mres g g2 := fun x j hx => (h2 x j hx).trans (h x j hx)
theorem mres.up {g g1 : bg_E} {a k : Nat} {v : Int} (h : mres g g1) (ha : (204 ≤ a ∧ a < 214) ∨ (a = 198 ∧ 9 ≤ k)) : mres g (bg_up g1 a k v) := fun x j hx => by
  unfold bg_up
  rw [if_neg (by omega)]
  exact h x j hx
theorem mres.F {g g1 : bg_E} (h : mres g g1) : frR 198 214 g g1 := fun x hx => funext fun j => h x j (by omega)
theorem modR.cg {g g' : bg_E} {X : bm_X} (h : modR g X) (hf : mres g g') : modR g' X := by
  obtain ⟨h1, h2, h3, h4⟩ := h
  exact ⟨by rw [hf.at (by decide)]; exact h1, h2.cg (hf 198 4 (by decide)) (hf.at (by decide)), h3.cg (hf 198 5 (by decide)) (hf.at (by decide)), h4.cg (hf 198 7 (by decide)) (hf.at (by decide))⟩
theorem modR.R {g g' : bg_E} {X : bm_X} (h : modR g X) (hf : mres g g') : modR g' X ∧ frR 198 214 g g' := ⟨h.cg hf, hf.F⟩
/-- what lies outside the model's cells doesn't matter -/
theorem modR.out {g g' : bg_E} {X : bm_X} (h : modR g X) (hf : frR 0 198 g g') : modR g' X := by
  obtain ⟨h1, h2, h3, h4⟩ := h
  exact ⟨by rw [hf 199 (by decide)]; exact h1, h2.cg (by rw [hf 198 (by decide)]) (hf 200 (by decide)), h3.cg (by rw [hf 198 (by decide)]) (hf 201 (by decide)), h4.cg (by rw [hf 198 (by decide)]) (hf 203 (by decide))⟩
/-- n cells are copied -/
def cp (g : bg_E) (D d E e n : Nat) : bg_E := fun x j => if x = D ∧ d ≤ j ∧ j < d + n then g E (e + (j - d)) else g x j
theorem cp_0 {g : bg_E} {D d E e : Nat} : cp g D d E e 0 = g := by
  funext x j
  unfold cp
  rw [if_neg (by omega)]
theorem cp_s {g : bg_E} {D d E e k d' e' : Nat} (h : E ≠ D ∨ d ≤ e) (h1 : d' = d + k) (h2 : e' = e + k) : bg_up (cp g D d E e k) D d' (cp g D d E e k E e') = cp g D d E e (k + 1) := by
  subst h1 h2
  funext x j
  unfold bg_up cp
  rw [if_neg (show ¬ (E = D ∧ d ≤ e + k ∧ e + k < d + k) by omega)]
  by_cases hx : x = D
  · by_cases hj : j = d + k
    · rw [if_pos ⟨hx, hj⟩, if_pos (by omega)]
      congr 1; omega
    · rw [if_neg (by omega)]
      by_cases hk : d ≤ j ∧ j < d + k
      · rw [if_pos (by omega), if_pos (by omega)]
      · rw [if_neg (by omega), if_neg (by omega)]
  · rw [if_neg (by omega), if_neg (by omega), if_neg (by omega)]
/-- from the end on, two cells further -/
theorem cp_d {g : bg_E} {D e k d' : Nat} (h1 : d' = e + 2) : bg_up (cp g D (e + 3) D (e + 1) k) D d' (cp g D (e + 3) D (e + 1) k D e) = cp g D (e + 2) D e (k + 1) := by
  subst h1
  funext x j
  unfold bg_up cp
  rw [if_neg (show ¬ (D = D ∧ e + 3 ≤ e ∧ e < e + 3 + k) by omega)]
  by_cases hx : x = D
  · by_cases hj : j = e + 2
    · rw [if_pos ⟨hx, hj⟩, if_pos (by omega)]
      congr 1; omega
    · rw [if_neg (by omega)]
      by_cases hk : e + 3 ≤ j ∧ j < e + 3 + k
      · rw [if_pos (by omega), if_pos (by omega)]
        congr 1; omega
      · rw [if_neg (by omega), if_neg (by omega)]
  · rw [if_neg (by omega), if_neg (by omega), if_neg (by omega)]
theorem cp_a {g : bg_E} {D d E e k x j : Nat} (h : x ≠ D) : cp g D d E e k x j = g x j := if_neg (fun q => h q.1)
theorem cp_A {g : bg_E} {D d E e k x : Nat} (h : x ≠ D) : cp g D d E e k x = g x := funext fun _ => cp_a h
theorem cp_o {g : bg_E} {D d E e k j : Nat} (h : j < d ∨ d + k ≤ j) : cp g D d E e k D j = g D j := if_neg (by omega)
theorem cp_i {g : bg_E} {D d E e k j j' : Nat} (h : d ≤ j ∧ j < d + k) (h' : j' = e + (j - d)) : cp g D d E e k D j = g E j' := by
  subst h'
  exact if_pos ⟨rfl, h⟩
theorem ok_len {S : bm_S} (h : staOK S) : ∀ k, k < 4 → (S.2.2.2.1 k).length ≤ 24 := fun k hk => (h.2.2.2.2.2.2.2 k hk).2
theorem c_X7_saves {y : bg_Y} {g : bg_E} {Z : bm_X} (hM : modR g Z) (ok : okX Z) : bg_Sv y 0 mX7_saves [.inr 198] g (fun g' => hisM g' (hPush Z.2.1 Z.1) ∧ sfr g g') := by
  obtain ⟨h1, ⟨h2, h3, h4⟩, -, -⟩ := id hM
  refine bg_enter pnX7 (Nat.le_of_ble_eq_true rfl) (fun κ X hR hg => ?_)
  have X1 : bg_X κ y cX7_saves RX7 0 0 0 := X.1
  have hg : ∀ a k, R32 (g a k) := hg
  show bg_g κ y 0 [some (.inr 198), none] [] g
  have l2 : ∀ (n k t : Nat) (g1 : bg_E), k + n = 210 → t < 6 → g1 198 4 = (t : Int) → (hisM (bg_up (cp g1 200 (210 * t) 199 0 210) 198 4 ((t : Int) + 1)) (hPush Z.2.1 Z.1) ∧ sfr g (bg_up (cp g1 200 (210 * t) 199 0 210) 198 4 ((t : Int) + 1))) → bg_g κ y 52 [some (.inr 198), some (.inl (k : Int))] [] (cp g1 200 (210 * t) 199 0 k) := by
    intro n
    induction n with
    | zero =>
      intro k t g1 hk ht hg1 hfin
      obtain rfl : k = 210 := by omega
      have e4 : cp g1 200 (210 * t) 199 0 210 198 4 = (t : Int) := (cp_a (by decide)).trans hg1
      refine bg_iload1 (pc := 52) X1 dX7_saves_52 ?_
      refine bg_sipush (pc := 53) X1 dX7_saves_53 rfl (by decide) ?_
      refine bg_icmp_ge (pc := 56) X1 (tgt := 86) dX7_saves_56 (by decide) (fun u56 => ?_) (fun u56 => ?_)
      · refine bg_aload0 (pc := 86) X1 dX7_saves_86 ?_
        refine bg_dup (pc := 87) X1 dX7_saves_87 ?_
        refine bo_getI (pc := 88) X1 dX7_saves_88 fX7_55 (by first | assumption | rfl) rfl ?_
        rw [e4]
        refine bg_iconst (pc := 91) X1 dX7_saves_91 (by decide) ?_
        refine bg_iadd (pc := 92) X1 dX7_saves_92 (by omega) ?_
        refine bo_putI (pc := 93) X1 dX7_saves_93 fX7_55 (by first | assumption | rfl) rfl ?_
        exact bo_vret (pc := 96) X rfl dX7_saves_96 (fun hg9 => hfin)
      · exfalso; omega
    | succ n ih =>
      intro k t g1 hk ht hg1 hfin
      have e4 : cp g1 200 (210 * t) 199 0 k 198 4 = (t : Int) := (cp_a (by decide)).trans hg1
      refine bg_iload1 (pc := 52) X1 dX7_saves_52 ?_
      refine bg_sipush (pc := 53) X1 dX7_saves_53 rfl (by decide) ?_
      refine bg_icmp_ge (pc := 56) X1 (tgt := 86) dX7_saves_56 (by decide) (fun u56 => ?_) (fun u56 => ?_)
      · exfalso; omega
      · refine bg_aload0 (pc := 59) X1 dX7_saves_59 ?_
        refine bo_getR (pc := 60) X1 dX7_saves_60 fX7_13 (by first | assumption | rfl) rfl (by first | assumption | rfl) ?_
        refine bg_sipush (pc := 63) X1 dX7_saves_63 rfl (by decide) ?_
        refine bg_aload0 (pc := 66) X1 dX7_saves_66 ?_
        refine bo_getI (pc := 67) X1 dX7_saves_67 fX7_55 (by first | assumption | rfl) rfl ?_
        rw [e4]
        refine bg_imul (pc := 70) X1 dX7_saves_70 (by omega) ?_
        refine bg_iload1 (pc := 71) X1 dX7_saves_71 ?_
        refine bg_iadd (pc := 72) X1 dX7_saves_72 (by omega) ?_
        refine bg_aload0 (pc := 73) X1 dX7_saves_73 ?_
        refine bo_getR (pc := 74) X1 dX7_saves_74 fX7_7 (by first | assumption | rfl) rfl (by first | assumption | rfl) ?_
        refine bg_iload1 (pc := 77) X1 dX7_saves_77 ?_
        refine bo_iaload (pc := 78) X1 dX7_saves_78 (by first | assumption | rfl) (by omega) ?_
        refine bo_iastore (pc := 79) X1 dX7_saves_79 (by first | assumption | rfl) (by omega) ?_
        refine bg_iinc1 (pc := 80) X1 dX7_saves_80 (by omega) ?_
        refine bg_goto (pc := 83) X1 (tgt := 52) dX7_saves_83 (by decide) ?_
        rw [cp_s (Or.inl (by decide)) (by omega) (by omega)]
        exact ih (k + 1) t g1 (by omega) ht hg1 hfin
  have l1 : ∀ (n k : Nat), k + n = 1050 → Z.2.1.length = 6 → bg_g κ y 11 [some (.inr 198), some (.inl (k : Int))] [] (cp g 200 0 200 210 k) := by
    intro n
    induction n with
    | zero =>
      intro k hk h6
      obtain rfl : k = 1050 := by omega
      have e4 : cp g 200 0 200 210 1050 198 4 = 6 := (cp_a (by decide)).trans (by rw [h2, h6]; rfl)
      refine bg_iload1 (pc := 11) X1 dX7_saves_11 ?_
      refine bg_sipush (pc := 12) X1 dX7_saves_12 rfl (by decide) ?_
      refine bg_icmp_ge (pc := 15) X1 (tgt := 40) dX7_saves_15 (by decide) (fun u15 => ?_) (fun u15 => ?_)
      · refine bg_aload0 (pc := 40) X1 dX7_saves_40 ?_
        refine bg_dup (pc := 41) X1 dX7_saves_41 ?_
        refine bo_getI (pc := 42) X1 dX7_saves_42 fX7_55 (by first | assumption | rfl) rfl ?_
        rw [e4]
        refine bg_iconst (pc := 45) X1 dX7_saves_45 (by decide) ?_
        refine bg_isub (pc := 46) X1 dX7_saves_46 (by omega) ?_
        refine bo_putI (pc := 47) X1 dX7_saves_47 fX7_55 (by first | assumption | rfl) rfl ?_
        refine bg_iconst (pc := 50) X1 dX7_saves_50 (by decide) ?_
        refine bg_istore1 (pc := 51) X1 dX7_saves_51 ?_
        have := l2 210 0 5 (bg_up (cp g 200 0 200 210 1050) 198 4 5) rfl (by omega) up_eq ?_
        · rw [cp_0] at this
          exact this
        · have hp : hPush Z.2.1 Z.1 = Z.2.1.drop 1 ++ [Z.1] := by unfold hPush; rw [if_pos h6]
          refine ⟨⟨by rw [up_eq, hp]; simp [h6], by rw [hp]; simp [h6], fun j T hj => ?_⟩, fun x j hx hy => ?_⟩
          · rw [hp] at hj
            rcases Nat.lt_or_ge j 5 with hj5 | hj5
            · rw [List.getElem?_append_left (by simp [h6]; omega), List.getElem?_drop] at hj
              have okT := ok.2.1 T (List.mem_of_getElem? hj)
              refine (h4 (1 + j) T hj).cg (ok_len okT) (fun k hk => ?_)
              unfold rowF
              rw [up_a (by decide), cp_o (by omega), up_a (by decide), cp_i (by omega) rfl]
              congr 1; omega
            · have hj2 := (List.getElem?_eq_some_iff.mp hj).1
              simp [h6] at hj2
              obtain rfl : j = 5 := by omega
              rw [List.getElem?_append_right (by simp [h6])] at hj
              simp [h6] at hj
              subst hj
              refine h1.cg (ok_len ok.1) (fun k hk => ?_)
              unfold rowF
              rw [up_a (by decide), cp_i (j' := k) (by omega) (by omega), up_a (by decide), cp_a (by decide)]
          · unfold bg_up
            rw [if_neg hy, cp_a hx, if_neg hy, cp_a hx]
      · exfalso; omega
    | succ n ih =>
      intro k hk h6
      refine bg_iload1 (pc := 11) X1 dX7_saves_11 ?_
      refine bg_sipush (pc := 12) X1 dX7_saves_12 rfl (by decide) ?_
      refine bg_icmp_ge (pc := 15) X1 (tgt := 40) dX7_saves_15 (by decide) (fun u15 => ?_) (fun u15 => ?_)
      · exfalso; omega
      · refine bg_aload0 (pc := 18) X1 dX7_saves_18 ?_
        refine bo_getR (pc := 19) X1 dX7_saves_19 fX7_13 (by first | assumption | rfl) rfl (by first | assumption | rfl) ?_
        refine bg_iload1 (pc := 22) X1 dX7_saves_22 ?_
        refine bg_aload0 (pc := 23) X1 dX7_saves_23 ?_
        refine bo_getR (pc := 24) X1 dX7_saves_24 fX7_13 (by first | assumption | rfl) rfl (by first | assumption | rfl) ?_
        refine bg_iload1 (pc := 27) X1 dX7_saves_27 ?_
        refine bg_sipush (pc := 28) X1 dX7_saves_28 rfl (by decide) ?_
        refine bg_iadd (pc := 31) X1 dX7_saves_31 (by omega) ?_
        refine bo_iaload (pc := 32) X1 dX7_saves_32 (by first | assumption | rfl) (by omega) ?_
        refine bo_iastore (pc := 33) X1 dX7_saves_33 (by first | assumption | rfl) (by omega) ?_
        refine bg_iinc1 (pc := 34) X1 dX7_saves_34 (by omega) ?_
        refine bg_goto (pc := 37) X1 (tgt := 11) dX7_saves_37 (by decide) ?_
        rw [cp_s (Or.inr (by omega)) (by omega) (by omega)]
        exact ih (k + 1) (by omega) h6
  refine bg_aload0 (pc := 0) X1 dX7_saves_0 ?_
  refine bo_getI (pc := 1) X1 dX7_saves_1 fX7_55 (by first | assumption | rfl) rfl ?_
  rw [h2]
  refine bg_bipush (pc := 4) X1 dX7_saves_4 rfl (by decide) ?_
  refine bg_icmp_ne (pc := 6) X1 (tgt := 50) dX7_saves_6 (by decide) (fun u6 => ?_) (fun u6 => ?_)
  · refine bg_iconst (pc := 50) X1 dX7_saves_50 (by decide) ?_
    refine bg_istore1 (pc := 51) X1 dX7_saves_51 ?_
    have := l2 210 0 Z.2.1.length g rfl (by omega) h2 ?_
    · rw [cp_0] at this
      exact this
    · have hp : hPush Z.2.1 Z.1 = Z.2.1 ++ [Z.1] := by unfold hPush; rw [if_neg (by omega)]
      refine ⟨⟨by rw [up_eq, hp]; simp, by rw [hp]; simp; omega, fun j T hj => ?_⟩, fun x j hx hy => ?_⟩
      · rw [hp] at hj
        rcases Nat.lt_or_ge j Z.2.1.length with hj5 | hj5
        · rw [List.getElem?_append_left hj5] at hj
          have okT := ok.2.1 T (List.mem_of_getElem? hj)
          refine (h4 j T hj).cg (ok_len okT) (fun k hk => ?_)
          unfold rowF
          rw [up_a (by decide), cp_o (by omega)]
        · have hj2 := (List.getElem?_eq_some_iff.mp hj).1
          simp at hj2
          obtain rfl : j = Z.2.1.length := by omega
          rw [List.getElem?_append_right (Nat.le_refl _)] at hj
          simp at hj
          subst hj
          refine h1.cg (ok_len ok.1) (fun k hk => ?_)
          unfold rowF
          rw [up_a (by decide), cp_i (j' := k) (by omega) (by omega)]
      · unfold bg_up
        rw [if_neg hy, cp_a hx]
  · refine bg_iconst (pc := 9) X1 dX7_saves_9 (by decide) ?_
    refine bg_istore1 (pc := 10) X1 dX7_saves_10 ?_
    have := l1 1050 0 rfl (by omega)
    rw [cp_0] at this
    exact this
/-- a saving, and then changes of the state alone -/
theorem modR.put {g g1 g2 : bg_E} {Z : bm_X} {S : bm_S} (h : modR g Z) (hh : hisM g1 (hPush Z.2.1 Z.1)) (f1 : sfr g g1) (f2 : ∀ x, ¬ x = 199 → g2 x = g1 x) (hS : rowR (g2 199) S) : modR g2 (xPut Z S) ∧ frR 198 214 g g2 := by
  obtain ⟨h1, h2, h3, h4⟩ := h
  refine ⟨⟨hS, hh.cg (by rw [f2 198 (by decide)]) (f2 200 (by decide)), h3.cg ?_ ?_, h4.cg ?_ ?_⟩, fun x hx => ?_⟩
  · rw [f2 198 (by decide)]; exact f1 198 5 (by decide) (by decide)
  · rw [f2 201 (by decide)]; exact f1.at (by decide) (by decide)
  · rw [f2 198 (by decide)]; exact f1 198 7 (by decide) (by decide)
  · rw [f2 203 (by decide)]; exact f1.at (by decide) (by decide)
  · rw [f2 x (by omega)]; exact f1.at (by omega) (by omega)
theorem up_F {g : bg_E} {a k : Nat} {v : Int} : bg_up g a k v a = fup (g a) k v := by
  funext j
  unfold bg_up fup
  by_cases h : j = k
  · rw [if_pos ⟨rfl, h⟩, if_pos h]
  · rw [if_neg (fun q => h q.2), if_neg h]
theorem rowR.num {f : Nat → Int} {S : bm_S} {k : Nat} {v : Int} (h : rowR f S) (hk : k < 5) : rowR (fup f k v) (sNum S k v) := by
  obtain ⟨h1, h2, h3, h4, h5⟩ := h
  refine ⟨fun j hj => ?_, by rw [fup_ne (by omega)]; exact h2, fun j hj => by rw [fup_ne (by omega), fup_ne (by omega)]; exact h3 j hj, fun a j ha hj => by rw [fup_ne (by omega), fup_ne (by omega)]; exact h4 a j ha hj, fun a h6 h7 => by rw [fup_ne (by omega)]; exact h5 a h6 h7⟩
  show fup f k v j = fup S.1 k v j
  unfold fup
  rw [h1 j hj]
theorem rowR.key {f : Nat → Int} {S : bm_S} {v : Int} (h : rowR f S) : rowR (fup f 5 v) (sKey S v) := by
  obtain ⟨h1, h2, h3, h4, h5⟩ := h
  exact ⟨fun j hj => by rw [fup_ne (by omega)]; exact h1 j hj, fup_eq, fun j hj => by rw [fup_ne (by omega), fup_ne (by omega)]; exact h3 j hj, fun a j ha hj => by rw [fup_ne (by omega), fup_ne (by omega)]; exact h4 a j ha hj, fun a h6 h7 => by rw [fup_ne (by omega)]; exact h5 a h6 h7⟩
theorem rowR.coll {f : Nat → Int} {S : bm_S} {c : Nat} {v : Int} (h : rowR f S) (hc : c < 4) : rowR (fup f (6 + c) v) (sCol S c v) := by
  obtain ⟨h1, h2, h3, h4, h5⟩ := h
  refine ⟨fun j hj => by rw [fup_ne (by omega)]; exact h1 j hj, by rw [fup_ne (by omega)]; exact h2, fun j hj => ⟨?_, by rw [fup_ne (by omega)]; exact (h3 j hj).2⟩, fun a j ha hj => by rw [fup_ne (by omega), fup_ne (by omega)]; exact h4 a j ha hj, fun a h6 h7 => by rw [fup_ne (by omega)]; exact h5 a h6 h7⟩
  show _ = fup S.2.2.1 c v j
  by_cases e : j = c
  · subst e; rw [fup_eq, fup_eq]
  · rw [fup_ne e, fup_ne (by omega)]; exact (h3 j hj).1
theorem rowR.book {f : Nat → Int} {S : bm_S} {a : Nat} {t : Int} (h : rowR f S) (ha : 1 ≤ a ∧ a < 5) : rowR (fup f (13 + a) (bg_wr (f (13 + a) + t))) (sBook S a t) := by
  obtain ⟨h1, h2, h3, h4, h5⟩ := h
  refine ⟨fun j hj => by rw [fup_ne (by omega)]; exact h1 j hj, by rw [fup_ne (by omega)]; exact h2, fun j hj => by rw [fup_ne (by omega), fup_ne (by omega)]; exact h3 j hj, fun c j hc hj => by rw [fup_ne (by omega), fup_ne (by omega)]; exact h4 c j hc hj, fun c h6 h7 => ?_⟩
  show _ = fup S.2.2.2.2 a _ c
  by_cases e : c = a
  · subst e; rw [fup_eq, fup_eq, h5 c h6 h7]
  · rw [fup_ne e, fup_ne (by omega)]; exact h5 c h6 h7
theorem rowR.bed {f f' : Nat → Int} {S : bm_S} {c : Nat} {q : bm_Q} (h : rowR f S) (hl : ∀ k, k < 4 → (S.2.2.2.1 k).length ≤ 24) (hc : c < 4) (hn : f' (10 + c) = (q.length : Int)) (hq : ∀ k, k < q.length → f' (18 + 48 * c + 2 * k) = mrk q k ∧ f' (18 + 48 * c + 2 * k + 1) = th q k) (ho : ∀ j, ¬ j = 10 + c → ¬ (18 + 48 * c ≤ j ∧ j < 66 + 48 * c) → f' j = f j) : rowR f' (sBed S c q) := by
  obtain ⟨h1, h2, h3, h4, h5⟩ := h
  refine ⟨fun j hj => by rw [ho j (by omega) (by omega)]; exact h1 j hj, by rw [ho 5 (by omega) (by omega)]; exact h2, fun j hj => ⟨by rw [ho _ (by omega) (by omega)]; exact (h3 j hj).1, ?_⟩, fun a k ha hk => ?_, fun a h6 h7 => by rw [ho _ (by omega) (by omega)]; exact h5 a h6 h7⟩
  · show _ = ((fup S.2.2.2.1 c q j).length : Int)
    by_cases e : j = c
    · subst e; rw [fup_eq]; exact hn
    · rw [fup_ne e, ho _ (by omega) (by omega)]; exact (h3 j hj).2
  · have hk : k < (fup S.2.2.2.1 c q a).length := hk
    show _ = mrk (fup S.2.2.2.1 c q a) k ∧ _ = th (fup S.2.2.2.1 c q a) k
    by_cases e : a = c
    · subst e; rw [fup_eq] at hk ⊢; exact hq k hk
    · rw [fup_ne e] at hk ⊢
      have := hl a ha
      rw [ho _ (by omega) (by omega), ho _ (by omega) (by omega)]; exact h4 a k ha hk
/-- 0 more in an account is no change -/
theorem book_0 {f : Nat → Int} {S : bm_S} {a : Nat} (h : rowR f S) (ha : 1 ≤ a ∧ a < 5) (hf : R32 (f (13 + a))) : rowR f (sBook S a 0) := by
  have h1 := h.book (t := 0) ha
  have e : fup f (13 + a) (bg_wr (f (13 + a) + 0)) = f := by
    funext j
    unfold fup
    split
    · rename_i q; rw [Int.add_zero, bg_wr_id hf, q]
    · rfl
  rw [e] at h1
  exact h1
theorem up_e {g : bg_E} {a k j : Nat} {v : Int} (h : j = k) : bg_up g a k v a j = v := by
  subst h
  exact up_eq
