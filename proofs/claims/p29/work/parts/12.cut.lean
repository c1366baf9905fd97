/-! contracts may say less; parts of a column -/
theorem bg_S.mono {y : bg_Y} {d mc ms : Nat} {μ : bg_P} {args : List bg_V} {M : bg_M} {P P' : Option bg_V → bg_M → Prop} (h : bg_S y d mc ms μ args M P) (hp : ∀ r M', P r M' → P' r M') : bg_S y d mc ms μ args M P' := by
  intro l p e ha hc hk s m a below hf happ hP hK
  obtain ⟨n, o, g1, g2, g3, ⟨⟨r, M', e1, e2, e3⟩, hF⟩, hL⟩ := h l p e ha hc hk s m a below hf happ hP hK
  exact ⟨n, o, g1, g2, g3, ⟨⟨r, M', e1, hp r M' e2, e3⟩, hF⟩, hL⟩
theorem bg_Si.weak {y : bg_Y} {d : Nat} {μ : bg_P} {args : List bg_V} {g : bg_E} {P P' : Int → bg_E → Prop} (h : bg_Si y d μ args g P) (hp : ∀ r g', P r g' → P' r g') : bg_Si y d μ args g P' :=
  bg_S.mono h (fun _ _ ⟨i, g', e1, e2, e3⟩ => ⟨i, g', e1, e2, hp i g' e3⟩)
theorem bg_Sv.weak {y : bg_Y} {d : Nat} {μ : bg_P} {args : List bg_V} {g : bg_E} {P P' : bg_E → Prop} (h : bg_Sv y d μ args g P) (hp : ∀ g', P g' → P' g') : bg_Sv y d μ args g P' :=
  bg_S.mono h (fun _ _ ⟨g', e1, e2, e3⟩ => ⟨g', e1, e2, hp g' e3⟩)
theorem insB_end (q : bm_Q) (p : Int × Int) : insB q q.length p = q ++ [p] := by simp [insB]
theorem c_X0_insertE {y : bg_Y} {g : bg_E} {c : Nat} {m t : Int} {q : bm_Q} (hc : bg_col c) (hq : colR g c q) : bg_Si y 0 mX0_insert [.inr c, .inl (g c 1), .inl m, .inl t] g (fun r g' => (q.length < 24 ∧ r = 1 ∧ colR g' c (q ++ [(m, t)]) ∧ frR c (c + 3) g g' ∧ g' c 0 = g c 0) ∨ (¬ q.length < 24 ∧ r = 0 ∧ g' = g)) := by
  have q1 := hq.1
  by_cases h : q.length < 24
  · refine (c_X0_insert hc hq (by omega)).weak (fun r g' hp => Or.inl ⟨h, ?_⟩)
    rw [show (g c 1).toNat = q.length by omega, insB_end] at hp
    exact hp
  · refine (c_X0_insertN hc hq (by omega)).weak (fun r g' hp => Or.inr ⟨h, hp⟩)
/-- what lies between two depths: of the first n beds -/
def prt (q : bm_Q) (fr to : Int) : Nat → bm_Q
  | 0 => []
  | n + 1 => prt q fr to n ++ (if 0 < min (dep q (n + 1)) to - max (dep q n) fr then [(mrk q n, min (dep q (n + 1)) to - max (dep q n) fr)] else [])
theorem prt_len (q : bm_Q) (fr to : Int) (n : Nat) : ∀ j, (prt q fr to n).length ≤ (prt q fr to (n + j)).length
  | 0 => Nat.le_refl _
  | j + 1 => by
    have h := prt_len q fr to n j
    show _ ≤ (prt q fr to (n + j) ++ _).length
    rw [List.length_append]
    omega
theorem prt_OK {q : bm_Q} {fr to : Int} (h : colOK q) (h0 : 0 ≤ fr) : ∀ n, n ≤ q.length → colOK (prt q fr to n)
  | 0, _ => fun p hp => by cases hp
  | n + 1, hn => by
    intro p hp
    rcases List.mem_append.mp hp with h1 | h1
    · exact prt_OK h h0 n (by omega) p h1
    · split at h1
      · have h2 := mkOK h (k := n) (by omega)
        have h3 := thOK h (k := n) (by omega)
        have h4 : dep q (n + 1) = dep q n + th q n := rfl
        rw [List.mem_singleton] at h1
        rw [h1]
        refine ⟨h2.1, h2.2, ?_, ?_⟩
        · show 1 ≤ min (dep q (n + 1)) to - max (dep q n) fr
          omega
        · show min (dep q (n + 1)) to - max (dep q n) fr ≤ 99
          omega
      · cases h1
theorem c_X0_appendPart {y : bg_Y} {g : bg_E} {f s : Nat} {fr to : Int} {q qf : bm_Q} (hf : bg_col f) (hs : bg_col s) (hne : f + 2 < s ∨ s + 2 < f) (hqf : colR g f qf) (hq : colR g s q) (hv : colOK q) (hfr : 0 ≤ fr ∧ fr ≤ 9999) (hto : 0 ≤ to ∧ to ≤ 9999) : bg_Si y 2 mX0_appendPart [.inr f, .inr s, .inl fr, .inl to] g (fun r g' => ((r = 1 ∧ colR g' f (qf ++ prt q fr to q.length)) ∨ (r = 0 ∧ 24 < (qf ++ prt q fr to q.length).length)) ∧ frR f (f + 3) g g' ∧ g' f 0 = g f 0) := by
  obtain ⟨k1, k2, k3, k4, k5⟩ := id hf
  obtain ⟨m1, m2, m3, m4, m5⟩ := id hs
  have q2 := hq.2.1
  refine bg_enter pnX0 (Nat.le_of_ble_eq_true rfl) (fun κ X hR hg => ?_)
  have X1 : bg_X κ y cX0_appendPart RX0 2 0 0 := X.1
  have hg : ∀ a k, R32 (g a k) := hg
  show bg_g κ y 0 [some (.inr f), some (.inr s), some (.inl fr), some (.inl to), none, none, none, none] [] g
  have loop : ∀ (n k : Nat) (a t : Int) (l6 l7 : Option bg_V) (g1 : bg_E), a = (k : Int) → t = dep q k → k + n = q.length → colR g1 f (qf ++ prt q fr to k) → frR f (f + 3) g g1 → g1 f 0 = g f 0 → bg_g κ y 6 [some (.inr f), some (.inr s), some (.inl fr), some (.inl to), some (.inl t), some (.inl a), l6, l7] [] g1 := by
    intro n
    induction n with
    | zero =>
      intro k a t l6 l7 g1 ha ht hk hI hF h0
      have hs1 : colR g1 s q := hq.fr hF (by omega)
      have e0 := hs1.1
      refine bg_iload5 (pc := 6) X1 dX0_appendPart_6 ?_
      refine bg_bipush (pc := 8) X1 dX0_appendPart_8 rfl (by decide) ?_
      refine bg_icmp_ge (pc := 10) X1 (tgt := 84) dX0_appendPart_10 (by decide) (fun u10 => ?_) (fun u10 => ?_)
      · refine bg_iconst (pc := 84) X1 dX0_appendPart_84 (by decide) ?_
        exact bo_zret (pc := 85) X rfl (by first | exact Or.inl rfl | exact Or.inr rfl | exact b2i_01 _) dX0_appendPart_85 (⟨Or.inl ⟨rfl, by rw [show q.length = k by omega]; exact hI⟩, hF, h0⟩)
      · refine bg_aload1 (pc := 13) X1 dX0_appendPart_13 ?_
        refine bg_iload5 (pc := 14) X1 dX0_appendPart_14 ?_
        refine bo_V1i (pc := 16) X1 (c_X0_has hs) vX0_has lX0_25 rfl (by first | assumption | rfl) (by decide) dX0_appendPart_16 (by exact Nat.le_of_ble_eq_true rfl) ?_
        rintro _ _ ⟨h9, h8⟩
        obtain rfl := h9.symm
        obtain rfl := h8.symm
        clear h9 h8
        refine bo_ifeq_b (pc := 19) X1 (tgt := 84) dX0_appendPart_19 (by decide) (fun u19 => ?_) (fun u19 => ?_)
        · refine bg_iconst (pc := 84) X1 dX0_appendPart_84 (by decide) ?_
          exact bo_zret (pc := 85) X rfl (by first | exact Or.inl rfl | exact Or.inr rfl | exact b2i_01 _) dX0_appendPart_85 (⟨Or.inl ⟨rfl, by rw [show q.length = k by omega]; exact hI⟩, hF, h0⟩)
        · exfalso; omega
    | succ n ih =>
      intro k a t l6 l7 g1 ha ht hk hI hF h0
      have hs1 : colR g1 s q := hq.fr hF (by omega)
      obtain ⟨e0, e01, e02⟩ := id hs1
      have hd := dep_le hv (n := k) (by omega)
      have ht2 := thOK hv (k := k) (by omega)
      have hd2 : dep q (k + 1) = dep q k + th q k := rfl
      have hp : prt q fr to (k + 1) = prt q fr to k ++ (if 0 < min (dep q (k + 1)) to - max (dep q k) fr then [(mrk q k, min (dep q (k + 1)) to - max (dep q k) fr)] else []) := rfl
      have hP1 : hasP g1 s a := by omega
      have e1 : (if hasP g1 s a then g1 (s + 2) a.toNat else 0) = th q k := by rw [if_pos hP1, ha]; exact (e02 k (by omega)).2
      have e2 : (if hasP g1 s a then g1 (s + 1) a.toNat else -1000009) = mrk q k := by rw [if_pos hP1, ha]; exact (e02 k (by omega)).1
      refine bg_iload5 (pc := 6) X1 dX0_appendPart_6 ?_
      refine bg_bipush (pc := 8) X1 dX0_appendPart_8 rfl (by decide) ?_
      refine bg_icmp_ge (pc := 10) X1 (tgt := 84) dX0_appendPart_10 (by decide) (fun u10 => ?_) (fun u10 => ?_)
      · exfalso; omega
      · refine bg_aload1 (pc := 13) X1 dX0_appendPart_13 ?_
        refine bg_iload5 (pc := 14) X1 dX0_appendPart_14 ?_
        refine bo_V1i (pc := 16) X1 (c_X0_has hs) vX0_has lX0_25 rfl (by first | assumption | rfl) (by decide) dX0_appendPart_16 (by exact Nat.le_of_ble_eq_true rfl) ?_
        rintro _ _ ⟨h9, h8⟩
        obtain rfl := h9.symm
        obtain rfl := h8.symm
        clear h9 h8
        refine bo_ifeq_b (pc := 19) X1 (tgt := 84) dX0_appendPart_19 (by decide) (fun u19 => ?_) (fun u19 => ?_)
        · exfalso; omega
        · refine bg_iload4 (pc := 22) X1 dX0_appendPart_22 ?_
          refine bg_aload1 (pc := 24) X1 dX0_appendPart_24 ?_
          refine bg_iload5 (pc := 25) X1 dX0_appendPart_25 ?_
          refine bo_V1i (pc := 27) X1 (c_X0_thicknessOf hs) vX0_thicknessOf lX0_34 rfl (by first | assumption | rfl) (by decide) dX0_appendPart_27 (by exact Nat.le_of_ble_eq_true rfl) ?_
          rintro _ _ ⟨h9, h8⟩
          obtain rfl := h9.symm
          obtain rfl := h8.symm
          clear h9 h8
          rw [e1, ht]
          refine bg_iadd (pc := 30) X1 dX0_appendPart_30 (by omega) ?_
          rw [show dep q k + th q k = dep q (k + 1) from rfl]
          refine bg_istore6 (pc := 31) X1 dX0_appendPart_31 ?_
          refine bg_iload6 (pc := 33) X1 dX0_appendPart_33 ?_
          refine bg_iload3 (pc := 35) X1 dX0_appendPart_35 ?_
          refine bo_min (pc := 36) X1 lX0_37 (by decide) dX0_appendPart_36 (by exact Nat.le_of_ble_eq_true rfl) ?_
          refine bg_iload4 (pc := 39) X1 dX0_appendPart_39 ?_
          refine bg_iload2 (pc := 41) X1 dX0_appendPart_41 ?_
          refine bo_max (pc := 42) X1 lX0_43 (by decide) dX0_appendPart_42 (by exact Nat.le_of_ble_eq_true rfl) ?_
          refine bg_isub (pc := 45) X1 dX0_appendPart_45 (by omega) ?_
          refine bg_istore7 (pc := 46) X1 dX0_appendPart_46 ?_
          refine bg_iload7 (pc := 48) X1 dX0_appendPart_48 ?_
          refine bg_if_le (pc := 50) X1 (tgt := 74) dX0_appendPart_50 (by decide) (fun u50 => ?_) (fun u50 => ?_)
          · have h6 : colR g1 f (qf ++ prt q fr to (k + 1)) := by rw [hp, if_neg (by omega), List.append_nil]; exact hI
            refine bg_iload6 (pc := 74) X1 dX0_appendPart_74 ?_
            refine bg_istore4 (pc := 76) X1 dX0_appendPart_76 ?_
            refine bg_iinc5 (pc := 78) X1 dX0_appendPart_78 (by omega) ?_
            refine bg_goto (pc := 81) X1 (tgt := 6) dX0_appendPart_81 (by decide) ?_
            exact ih (k + 1) _ _ _ _ _ (by omega) rfl (by omega) h6 hF h0
          · refine bg_aload0 (pc := 53) X1 dX0_appendPart_53 ?_
            refine bg_aload0 (pc := 54) X1 dX0_appendPart_54 ?_
            refine bo_getI (pc := 55) X1 dX0_appendPart_55 fX0_15 (by first | assumption | rfl) rfl ?_
            refine bg_aload1 (pc := 58) X1 dX0_appendPart_58 ?_
            refine bg_iload5 (pc := 59) X1 dX0_appendPart_59 ?_
            refine bo_V1i (pc := 61) X1 (c_X0_markOf hs) vX0_markOf lX0_46 rfl (by first | assumption | rfl) (by decide) dX0_appendPart_61 (by exact Nat.le_of_ble_eq_true rfl) ?_
            rintro _ _ ⟨h9, h8⟩
            obtain rfl := h9.symm
            obtain rfl := h8.symm
            clear h9 h8
            rw [e2]
            refine bg_iload7 (pc := 64) X1 dX0_appendPart_64 ?_
            refine bo_V3i (pc := 66) X1 (c_X0_insertE hf hI) vX0_insert lX0_49 rfl (by first | assumption | rfl) (by decide) dX0_appendPart_66 (by exact Nat.le_of_ble_eq_true rfl) ?_
            rintro r66 g2 h66
            refine bg_if_ne (pc := 69) X1 (tgt := 74) dX0_appendPart_69 (by decide) (fun u69 => ?_) (fun u69 => ?_)
            · rcases h66 with ⟨z1, z2, z3, z4, z5⟩ | ⟨z1, z2, z3⟩
              case inr => exact absurd z2 u69
              have h6 : colR g2 f (qf ++ prt q fr to (k + 1)) := by rw [hp, if_pos (by omega), ← List.append_assoc]; exact z3
              replace hF := hF.tr z4
              replace h0 := z5.trans h0
              refine bg_iload6 (pc := 74) X1 dX0_appendPart_74 ?_
              refine bg_istore4 (pc := 76) X1 dX0_appendPart_76 ?_
              refine bg_iinc5 (pc := 78) X1 dX0_appendPart_78 (by omega) ?_
              refine bg_goto (pc := 81) X1 (tgt := 6) dX0_appendPart_81 (by decide) ?_
              exact ih (k + 1) _ _ _ _ _ (by omega) rfl (by omega) h6 hF h0
            · rcases h66 with ⟨z1, z2, z3, z4, z5⟩ | ⟨z1, z2, z3⟩
              case inl => rw [z2] at u69; exact absurd u69 (by decide)
              refine bg_iconst (pc := 72) X1 dX0_appendPart_72 (by decide) ?_
              exact bo_zret (pc := 73) X rfl (by first | exact Or.inl rfl | exact Or.inr rfl | exact b2i_01 _) dX0_appendPart_73 (by
                  subst z3
                  refine ⟨Or.inr ⟨rfl, ?_⟩, hF, h0⟩
                  have z4 := prt_len q fr to (k + 1) (q.length - (k + 1))
                  rw [show k + 1 + (q.length - (k + 1)) = q.length by omega, hp, if_pos (by omega), List.length_append] at z4
                  rw [List.length_append] at z1 ⊢
                  simp only [List.length_singleton] at z4
                  have := hI.2.1
                  omega)
  refine bg_iconst (pc := 0) X1 dX0_appendPart_0 (by decide) ?_
  refine bg_istore4 (pc := 1) X1 dX0_appendPart_1 ?_
  refine bg_iconst (pc := 3) X1 dX0_appendPart_3 (by decide) ?_
  refine bg_istore5 (pc := 4) X1 dX0_appendPart_4 ?_
  exact loop q.length 0 _ _ _ _ _ rfl rfl (by omega) (by rw [show prt q fr to 0 = [] from rfl, List.append_nil]; exact hqf) frR.rf rfl
