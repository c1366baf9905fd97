/-! the law: a matching as the class tells it -/
set_option maxHeartbeats 20000000 in
theorem c_L_arePaired {y : bg_Y} {g : bg_E} {a b : Int} {Z : bm_X} (hX : clsR g Z) (ok : okX Z) (hS : rwR g Z.1) (h6 : len6 Z.1) (hab : arePa a b) (hPZ : 0 ≤ g bg_PZ 0 ∧ g bg_PZ 0 ≤ 1000000) : bg_S y 7 1 6 mL_arePaired [.inr 0, .inr 198, .inr 199, .inr 200, .inr 201, .inl a, .inl b] (bg_O g) (bg_pI (fun r g' => r = 1 ∧ clsR g' Z ∧ rwR g' Z.1 ∧ g' bg_PZ 0 = g bg_PZ 0 + 1)) := by
  have ha := hab.1
  have hb := hab.2.1
  have lA := sq_6 h6 ha
  have lB := sq_6 h6 hb
  have okP1 := mq_ok ok.1 ha hb
  obtain ⟨P, hP⟩ : ∃ P, P = mq Z.1 a b := ⟨_, rfl⟩
  have hmP : mP Z a b = P := hP.symm
  have eA : pA P = sq Z.1 a := by rw [hP]; rfl
  have eB : pB P = sq Z.1 b := by rw [hP]; rfl
  rw [← hP] at okP1
  obtain ⟨m, hm⟩ : ∃ m, m = (sq Z.1 a).length := ⟨_, rfl⟩
  obtain ⟨n, hn⟩ : ∃ n, n = (sq Z.1 b).length := ⟨_, rfl⟩
  obtain ⟨t, ht⟩ : ∃ t, t = Z.1.1 4 := ⟨_, rfl⟩
  have ht0 := ok.1.2.2.2.2.1
  rw [← ht] at ht0
  have hI := wE_I okP1
  rw [eA, eB, ← hm, ← hn] at hI
  obtain ⟨hI1, hI2, hI3, hI4⟩ := hI
  have hqa : (qH Z a).length = m := hm.symm
  have hqb : (qH Z b).length = n := hn.symm
  have hTl : (TT P).length ≤ 6 := by
    have e : TTn P (m + (24 - m)) = TTn P m := TTn_none _ (fun k g1 g2 g3 => by have := (hI2 k g1).1; have := g3.1; omega)
    rw [show m + (24 - m) = 24 by omega] at e
    have := TTn_len P m
    rw [← e] at this
    exact Nat.le_trans this (by omega)
  have hc24 := cnt_24 okP1 (v := 2) (by decide)
  have hc23 := cnt_24 okP1 (v := 3) (by decide)
  have hc2x := cnt_24 okP1 (v := 4) (by decide)
  have hc21 := cnt_24 okP1 (v := 1) (by decide)
  have hc11 := cnt_11 okP1
  have hnom := no_match okP1
  rw [eA, eB, ← hm, ← hn] at hc24 hc23 hc2x hc21
  rw [eA, ← hm] at hnom
  -- what the class answers
  have qcost : ∀ w : Int, (w = 0 ∨ w = 1) → xCost Z a b w = bw P 0 0 := fun w hw => by
    unfold xCost
    rw [if_pos ⟨hab, hw⟩, hmP]
  have qwA : ∀ i : Nat, i < m → xWhy Z a b 0 (i : Int) = FA P i ∧ xPartner Z a b 0 (i : Int) = nn (PA P i) := fun i hi => by
    have hon : isOn Z a b 0 (i : Int) := ⟨hab, Or.inl rfl, by omega, by rw [if_pos rfl, hqa]; omega⟩
    unfold xWhy xPartner
    rw [if_pos hon, if_pos rfl, if_pos hon, if_pos rfl, Int.toNat_natCast, hmP]
    exact ⟨rfl, rfl⟩
  have qwB : ∀ i : Nat, i < n → xWhy Z a b 1 (i : Int) = FB P i ∧ xPartner Z a b 1 (i : Int) = nn (PB P i) := fun i hi => by
    have hon : isOn Z a b 1 (i : Int) := ⟨hab, Or.inr rfl, by omega, by rw [if_neg (by decide), hqb]; omega⟩
    unfold xWhy xPartner
    rw [if_pos hon, if_neg (by decide), if_pos hon, if_neg (by decide), Int.toNat_natCast, hmP]
    exact ⟨rfl, rfl⟩
  have hfl : fl Z a b = (TT P).filter (fF t) := by
    show (TT (mP Z a b)).filter (fF (Z.1.1 4)) = _
    rw [hmP, ← ht]
  have qfault : ∀ (w : Int) (i : Nat) (e : bm_T), (0 ≤ w ∧ w ≤ 2) → ((TT P).filter (fF t))[i]? = some e → xFault Z a b (i : Int) w = if w = 0 then e.1 else if w = 1 then e.2.1 else e.2.2 := fun w i e hw he => by
    unfold xFault
    rw [if_pos ⟨hab, by omega, hw⟩, hfl, Int.toNat_natCast, he]
  have qfaultN : ∀ (i : Nat), ((TT P).filter (fF t))[i]? = none → xFault Z a b (i : Int) 0 = -1000009 := fun i he => by
    unfold xFault
    rw [if_pos ⟨hab, by omega, by omega⟩, hfl, Int.toNat_natCast, he]
    rfl
  have qsum : ∀ w : Int, 0 ≤ w ∧ w ≤ 2 → xSum Z a b w = if cntF (FA P) 1 m = 0 then -1000009 else if w = 1 then sumT ((TT P).filter (fF t)) else sumT (TT P) := fun w hw => by
    unfold xSum
    rw [if_pos ⟨hab, hw⟩, hmP, hfl]
    by_cases h : cntF (FA P) 1 m = 0
    · rw [if_pos (hnom.mp h), if_pos h]; rfl
    · rw [if_neg (fun h9 => h (hnom.mpr h9)), if_neg h]
  have qmat : xMatched Z a b 1 = cntF (FB P) 1 n ∧ xMatched Z a b 2 = cntF (FA P) 2 m ∧ xMatched Z a b 3 = cntF (FB P) 3 n ∧ xMatched Z a b 4 = cntF (FB P) 4 n ∧ xMatched Z a b 5 = (((TT P).filter (fF t)).length : Int) := by
    have mi : ∀ w : Int, 1 ≤ w ∧ w ≤ 5 → xMatched Z a b w = if w = 5 then (((TT P).filter (fF t)).length : Int) else if w = 1 ∨ w = 2 then cntF (FA P) w 24 else cntF (FB P) w 24 := fun w hw => by
      unfold xMatched
      rw [if_pos ⟨hab, hw⟩, hmP, hfl]
    refine ⟨?_, ?_, ?_, ?_, ?_⟩
    · rw [mi 1 (by decide), if_neg (by decide), if_pos (Or.inl rfl), hc11]; exact hc21.2
    · rw [mi 2 (by decide), if_neg (by decide), if_pos (Or.inr rfl)]; exact hc24.1
    · rw [mi 3 (by decide), if_neg (by decide), if_neg (by decide)]; exact hc23.2
    · rw [mi 4 (by decide), if_neg (by decide), if_neg (by decide)]; exact hc2x.2
    · rw [mi 5 (by decide), if_pos rfl]
  refine bg_enter pnL (Nat.le_of_ble_eq_true rfl) (fun κ X hR hg => ?_)
  have X1 : bg_X κ y cL_arePaired RL 7 1 6 := X.1
  show bg_G κ y (0, 0) 0 [some (.inr 0), some (.inr 198), some (.inr 199), some (.inr 200), some (.inr 201), some (.inl a), some (.inl b), none, none, none, none, none, none] [] (bg_O g)
  have rest : ∀ (G : bg_E) (N0 : Nat), pGv G N0 6 → pIv G N0 Z G → rwR G Z.1 → matL G P → G 200 0 = bw P 0 0 → G bg_PZ 0 = g bg_PZ 0 + 1 → (∀ k, G N0 k = 0) → bg_G κ y (1, 6) 18 [some (.inr 0), some (.inr 198), some (.inr 199), some (.inr 200), some (.inr 201), some (.inl a), some (.inl b), some (.inr N0), none, none, none, none, none] [] (bg_O G) := by
    intro G N0 hG hp0 hSG hM h200 hPZ1 hz
    obtain ⟨hA, hT, h42⟩ := hM
    rw [eA, eB, ← hm, ← hn] at hA
    rw [eA, ← hm] at h42
    have n201 : (201 : Nat) ≠ N0 := by have := hG.1; omega
    have n200 : (200 : Nat) ≠ N0 := by have := hG.1; omega
    have n199 : (199 : Nat) ≠ N0 := by have := hG.1; omega
    have n198 : (198 : Nat) ≠ N0 := by have := hG.1; omega
    have yA : ∀ (g3 : bg_E), pIv G N0 Z g3 → ∀ i : Nat, i < m → g3 201 ((i : Nat) : Int).toNat = FA P i ∧ g3 201 (12 + (i : Int)).toNat = nn (PA P i) := fun g3 h i hi => by
      rw [h.2 201 (by omega) n201, Int.toNat_natCast, show (12 + (i : Int)).toNat = 12 + i by omega]
      exact hA.1 i hi
    have yB : ∀ (g3 : bg_E), pIv G N0 Z g3 → ∀ i : Nat, i < n → g3 201 (6 + (i : Int)).toNat = FB P i ∧ g3 201 (18 + (i : Int)).toNat = nn (PB P i) := fun g3 h i hi => by
      rw [h.2 201 (by omega) n201, show (6 + (i : Int)).toNat = 6 + i by omega, show (18 + (i : Int)).toNat = 18 + i by omega]
      exact hA.2 i hi
    have yT : ∀ (g3 : bg_E), pIv G N0 Z g3 → g3 201 (43 : Int).toNat = ((TT P).length : Int) ∧ g3 201 (42 : Int).toNat = cntF (FA P) 1 m := fun g3 h => by
      rw [h.2 201 (by omega) n201]
      exact ⟨hT.1, h42⟩
    have yE : ∀ (g3 : bg_E), pIv G N0 Z g3 → ∀ (k : Nat) (e : bm_T), (TT P)[k]? = some e → g3 201 (24 + (k : Int)).toNat = e.1 ∧ g3 201 (30 + (k : Int)).toNat = e.2.1 ∧ g3 201 (36 + (k : Int)).toNat = e.2.2 := fun g3 h k e he => by
      rw [h.2 201 (by omega) n201, show (24 + (k : Int)).toNat = 24 + k by omega, show (30 + (k : Int)).toNat = 30 + k by omega, show (36 + (k : Int)).toNat = 36 + k by omega]
      exact hT.2 k e he
    have yl : ∀ (g3 : bg_E), pIv G N0 Z g3 → rwR g3 Z.1 := fun g3 h => hSG.cg (h.2 198 (by omega) n198) (h.2 199 (by omega) n199)
    have fA1 := cntF_R (FA P) 2 m
    have fB1 := cntF_R (FB P) 1 n
    have fB3 := cntF_R (FB P) 3 n
    have fB4 := cntF_R (FB P) 4 n
    -- the end
    have last : ∀ (g2 : bg_E) (l12 : Option bg_V), pIv G N0 Z g2 → g2 N0 5 = ((((TT P).take (TT P).length).filter (fF t)).length : Int) → bg_G κ y (1, 6) 439 [some (.inr 0), some (.inr 198), some (.inr 199), some (.inr 200), some (.inr 201), some (.inl a), some (.inl b), some (.inr N0), some (.inl (sumT (TT P))), some (.inl (sumT ((TT P).filter (fF t)))), some (.inl 1), some (.inl 6), l12] [] (bg_O g2) := by
      intro g2 l12 hp h5
      have hN := filt_end (T := TT P) (f := fF t) (Nat.le_refl _)
      have s0 := qsum 0 (by decide)
      have s1 := qsum 1 (by decide)
      have s2 := qsum 2 (by decide)
      rw [if_neg (show ¬ (0 : Int) = 1 by decide)] at s0
      rw [if_pos rfl] at s1
      rw [if_neg (show ¬ (2 : Int) = 1 by decide)] at s2
      have h42g := (yT g2 hp).2
      by_cases hc : cntF (FA P) 1 m = 0
      · rw [if_pos hc] at s0 s1 s2
        refine bg_aload4 (pc := 439) X1 dL_arePaired_439 ?_
        refine bg_bipush (pc := 441) X1 dL_arePaired_441 rfl (by decide) ?_
        refine bq_iaload (pc := 443) X1 dL_arePaired_443 (by first | assumption | rfl) (by omega) ?_
        rw [h42g]
        refine bg_if_ne (pc := 444) X1 (tgt := 451) dL_arePaired_444 (by decide) (fun u444 => ?_) (fun u444 => ?_)
        · exact absurd hc u444
        · refine bg_iconst (pc := 447) X1 dL_arePaired_447 (by decide) ?_
          refine bg_goto (pc := 448) X1 (tgt := 452) dL_arePaired_448 (by decide) ?_
          refine bg_istore11 (pc := 452) X1 dL_arePaired_452 ?_
          refine bg_iload10 (pc := 454) X1 dL_arePaired_454 ?_
          refine bg_if_eq (pc := 456) X1 (tgt := 553) dL_arePaired_456 (by decide) (fun u456 => ?_) (fun u456 => ?_)
          · exfalso; omega
          · refine bg_aload0 (pc := 459) X1 dL_arePaired_459 ?_
            refine bg_iload5 (pc := 460) X1 dL_arePaired_460 ?_
            refine bg_iload6 (pc := 462) X1 dL_arePaired_462 ?_
            refine bg_aload7 (pc := 464) X1 dL_arePaired_464 ?_
            refine bg_iconst (pc := 466) X1 dL_arePaired_466 (by decide) ?_
            refine bq_ialoadD (pc := 467) X1 (N := 6) dL_arePaired_467 (hp.kd hG) (hp.lt hG) (by decide) ?_
            rw [show g2 N0 (5 : Int).toNat = g2 N0 5 from rfl, h5]
            refine bg_iconst (pc := 468) X1 dL_arePaired_468 (by decide) ?_
            refine bq_V4i (pc := 469) X1 (c_X6_fault (Z := Z) hp.1 ok) vX6_fault lL_89 rfl (by first | assumption | rfl) (by decide) dL_arePaired_469 (by exact Nat.le_of_ble_eq_true rfl) (by decide) ?_
            rintro _ g4 ⟨rfl, x4, f4⟩
            have p4 := hp.cls x4 f4
            rw [qfaultN _ hN]
            refine bg_ldc (pc := 472) X1 dL_arePaired_472 kL_36 (by decide) ?_
            refine bg_icmp_ne (pc := 474) X1 (tgt := 553) dL_arePaired_474 (by decide) (fun u474 => ?_) (fun u474 => ?_)
            · exact absurd rfl u474
            · refine bg_aload0 (pc := 477) X1 dL_arePaired_477 ?_
              refine bg_iload5 (pc := 478) X1 dL_arePaired_478 ?_
              refine bg_iload6 (pc := 480) X1 dL_arePaired_480 ?_
              refine bg_iconst (pc := 482) X1 dL_arePaired_482 (by decide) ?_
              refine bq_V3i (pc := 483) X1 (c_X6_sumOfThrows (Z := Z) p4.1 ok) vX6_sumOfThrows lL_95 rfl (by first | assumption | rfl) (by decide) dL_arePaired_483 (by exact Nat.le_of_ble_eq_true rfl) (by decide) ?_
              rintro _ g5 ⟨rfl, x5, f5⟩
              have p5 := p4.cls x5 f5
              rw [s0]
              refine bg_iload11 (pc := 486) X1 dL_arePaired_486 ?_
              refine bg_if_eq (pc := 488) X1 (tgt := 496) dL_arePaired_488 (by decide) (fun u488 => ?_) (fun u488 => ?_)
              · exfalso; omega
              · refine bg_ldc (pc := 491) X1 dL_arePaired_491 kL_36 (by decide) ?_
                refine bg_goto (pc := 493) X1 (tgt := 498) dL_arePaired_493 (by decide) ?_
                refine bg_icmp_ne (pc := 498) X1 (tgt := 553) dL_arePaired_498 (by decide) (fun u498 => ?_) (fun u498 => ?_)
                · exact absurd rfl u498
                · refine bg_aload0 (pc := 501) X1 dL_arePaired_501 ?_
                  refine bg_iload5 (pc := 502) X1 dL_arePaired_502 ?_
                  refine bg_iload6 (pc := 504) X1 dL_arePaired_504 ?_
                  refine bg_iconst (pc := 506) X1 dL_arePaired_506 (by decide) ?_
                  refine bq_V3i (pc := 507) X1 (c_X6_sumOfThrows (Z := Z) p5.1 ok) vX6_sumOfThrows lL_95 rfl (by first | assumption | rfl) (by decide) dL_arePaired_507 (by exact Nat.le_of_ble_eq_true rfl) (by decide) ?_
                  rintro _ g6 ⟨rfl, x6, f6⟩
                  have p6 := p5.cls x6 f6
                  rw [s1]
                  refine bg_iload11 (pc := 510) X1 dL_arePaired_510 ?_
                  refine bg_if_eq (pc := 512) X1 (tgt := 520) dL_arePaired_512 (by decide) (fun u512 => ?_) (fun u512 => ?_)
                  · exfalso; omega
                  · refine bg_ldc (pc := 515) X1 dL_arePaired_515 kL_36 (by decide) ?_
                    refine bg_goto (pc := 517) X1 (tgt := 522) dL_arePaired_517 (by decide) ?_
                    refine bg_icmp_ne (pc := 522) X1 (tgt := 553) dL_arePaired_522 (by decide) (fun u522 => ?_) (fun u522 => ?_)
                    · exact absurd rfl u522
                    · refine bg_aload0 (pc := 525) X1 dL_arePaired_525 ?_
                      refine bg_iload5 (pc := 526) X1 dL_arePaired_526 ?_
                      refine bg_iload6 (pc := 528) X1 dL_arePaired_528 ?_
                      refine bg_iconst (pc := 530) X1 dL_arePaired_530 (by decide) ?_
                      refine bq_V3i (pc := 531) X1 (c_X6_sumOfThrows (Z := Z) p6.1 ok) vX6_sumOfThrows lL_95 rfl (by first | assumption | rfl) (by decide) dL_arePaired_531 (by exact Nat.le_of_ble_eq_true rfl) (by decide) ?_
                      rintro _ g7 ⟨rfl, x7, f7⟩
                      have p7 := p6.cls x7 f7
                      rw [s2]
                      refine bg_iload11 (pc := 534) X1 dL_arePaired_534 ?_
                      refine bg_if_eq (pc := 536) X1 (tgt := 544) dL_arePaired_536 (by decide) (fun u536 => ?_) (fun u536 => ?_)
                      · exfalso; omega
                      · refine bg_ldc (pc := 539) X1 dL_arePaired_539 kL_36 (by decide) ?_
                        refine bg_goto (pc := 541) X1 (tgt := 546) dL_arePaired_541 (by decide) ?_
                        refine bg_icmp_ne (pc := 546) X1 (tgt := 553) dL_arePaired_546 (by decide) (fun u546 => ?_) (fun u546 => ?_)
                        · exact absurd rfl u546
                        · refine bg_iconst (pc := 549) X1 dL_arePaired_549 (by decide) ?_
                          refine bg_goto (pc := 550) X1 (tgt := 554) dL_arePaired_550 (by decide) ?_
                          exact bq_zret (pc := 554) X rfl (by first | exact Or.inl rfl | exact Or.inr rfl | exact b2i_01 _) dL_arePaired_554 (⟨rfl, p7.1, yl _ p7, by rw [p7.P hG]; exact hPZ1⟩)
      · rw [if_neg hc] at s0 s1 s2
        refine bg_aload4 (pc := 439) X1 dL_arePaired_439 ?_
        refine bg_bipush (pc := 441) X1 dL_arePaired_441 rfl (by decide) ?_
        refine bq_iaload (pc := 443) X1 dL_arePaired_443 (by first | assumption | rfl) (by omega) ?_
        rw [h42g]
        refine bg_if_ne (pc := 444) X1 (tgt := 451) dL_arePaired_444 (by decide) (fun u444 => ?_) (fun u444 => ?_)
        · refine bg_iconst (pc := 451) X1 dL_arePaired_451 (by decide) ?_
          refine bg_istore11 (pc := 452) X1 dL_arePaired_452 ?_
          refine bg_iload10 (pc := 454) X1 dL_arePaired_454 ?_
          refine bg_if_eq (pc := 456) X1 (tgt := 553) dL_arePaired_456 (by decide) (fun u456 => ?_) (fun u456 => ?_)
          · exfalso; omega
          · refine bg_aload0 (pc := 459) X1 dL_arePaired_459 ?_
            refine bg_iload5 (pc := 460) X1 dL_arePaired_460 ?_
            refine bg_iload6 (pc := 462) X1 dL_arePaired_462 ?_
            refine bg_aload7 (pc := 464) X1 dL_arePaired_464 ?_
            refine bg_iconst (pc := 466) X1 dL_arePaired_466 (by decide) ?_
            refine bq_ialoadD (pc := 467) X1 (N := 6) dL_arePaired_467 (hp.kd hG) (hp.lt hG) (by decide) ?_
            rw [show g2 N0 (5 : Int).toNat = g2 N0 5 from rfl, h5]
            refine bg_iconst (pc := 468) X1 dL_arePaired_468 (by decide) ?_
            refine bq_V4i (pc := 469) X1 (c_X6_fault (Z := Z) hp.1 ok) vX6_fault lL_89 rfl (by first | assumption | rfl) (by decide) dL_arePaired_469 (by exact Nat.le_of_ble_eq_true rfl) (by decide) ?_
            rintro _ g4 ⟨rfl, x4, f4⟩
            have p4 := hp.cls x4 f4
            rw [qfaultN _ hN]
            refine bg_ldc (pc := 472) X1 dL_arePaired_472 kL_36 (by decide) ?_
            refine bg_icmp_ne (pc := 474) X1 (tgt := 553) dL_arePaired_474 (by decide) (fun u474 => ?_) (fun u474 => ?_)
            · exact absurd rfl u474
            · refine bg_aload0 (pc := 477) X1 dL_arePaired_477 ?_
              refine bg_iload5 (pc := 478) X1 dL_arePaired_478 ?_
              refine bg_iload6 (pc := 480) X1 dL_arePaired_480 ?_
              refine bg_iconst (pc := 482) X1 dL_arePaired_482 (by decide) ?_
              refine bq_V3i (pc := 483) X1 (c_X6_sumOfThrows (Z := Z) p4.1 ok) vX6_sumOfThrows lL_95 rfl (by first | assumption | rfl) (by decide) dL_arePaired_483 (by exact Nat.le_of_ble_eq_true rfl) (by decide) ?_
              rintro _ g5 ⟨rfl, x5, f5⟩
              have p5 := p4.cls x5 f5
              rw [s0]
              refine bg_iload11 (pc := 486) X1 dL_arePaired_486 ?_
              refine bg_if_eq (pc := 488) X1 (tgt := 496) dL_arePaired_488 (by decide) (fun u488 => ?_) (fun u488 => ?_)
              · refine bg_iload8 (pc := 496) X1 dL_arePaired_496 ?_
                refine bg_icmp_ne (pc := 498) X1 (tgt := 553) dL_arePaired_498 (by decide) (fun u498 => ?_) (fun u498 => ?_)
                · exact absurd rfl u498
                · refine bg_aload0 (pc := 501) X1 dL_arePaired_501 ?_
                  refine bg_iload5 (pc := 502) X1 dL_arePaired_502 ?_
                  refine bg_iload6 (pc := 504) X1 dL_arePaired_504 ?_
                  refine bg_iconst (pc := 506) X1 dL_arePaired_506 (by decide) ?_
                  refine bq_V3i (pc := 507) X1 (c_X6_sumOfThrows (Z := Z) p5.1 ok) vX6_sumOfThrows lL_95 rfl (by first | assumption | rfl) (by decide) dL_arePaired_507 (by exact Nat.le_of_ble_eq_true rfl) (by decide) ?_
                  rintro _ g6 ⟨rfl, x6, f6⟩
                  have p6 := p5.cls x6 f6
                  rw [s1]
                  refine bg_iload11 (pc := 510) X1 dL_arePaired_510 ?_
                  refine bg_if_eq (pc := 512) X1 (tgt := 520) dL_arePaired_512 (by decide) (fun u512 => ?_) (fun u512 => ?_)
                  · refine bg_iload9 (pc := 520) X1 dL_arePaired_520 ?_
                    refine bg_icmp_ne (pc := 522) X1 (tgt := 553) dL_arePaired_522 (by decide) (fun u522 => ?_) (fun u522 => ?_)
                    · exact absurd rfl u522
                    · refine bg_aload0 (pc := 525) X1 dL_arePaired_525 ?_
                      refine bg_iload5 (pc := 526) X1 dL_arePaired_526 ?_
                      refine bg_iload6 (pc := 528) X1 dL_arePaired_528 ?_
                      refine bg_iconst (pc := 530) X1 dL_arePaired_530 (by decide) ?_
                      refine bq_V3i (pc := 531) X1 (c_X6_sumOfThrows (Z := Z) p6.1 ok) vX6_sumOfThrows lL_95 rfl (by first | assumption | rfl) (by decide) dL_arePaired_531 (by exact Nat.le_of_ble_eq_true rfl) (by decide) ?_
                      rintro _ g7 ⟨rfl, x7, f7⟩
                      have p7 := p6.cls x7 f7
                      rw [s2]
                      refine bg_iload11 (pc := 534) X1 dL_arePaired_534 ?_
                      refine bg_if_eq (pc := 536) X1 (tgt := 544) dL_arePaired_536 (by decide) (fun u536 => ?_) (fun u536 => ?_)
                      · refine bg_iload8 (pc := 544) X1 dL_arePaired_544 ?_
                        refine bg_icmp_ne (pc := 546) X1 (tgt := 553) dL_arePaired_546 (by decide) (fun u546 => ?_) (fun u546 => ?_)
                        · exact absurd rfl u546
                        · refine bg_iconst (pc := 549) X1 dL_arePaired_549 (by decide) ?_
                          refine bg_goto (pc := 550) X1 (tgt := 554) dL_arePaired_550 (by decide) ?_
                          exact bq_zret (pc := 554) X rfl (by first | exact Or.inl rfl | exact Or.inr rfl | exact b2i_01 _) dL_arePaired_554 (⟨rfl, p7.1, yl _ p7, by rw [p7.P hG]; exact hPZ1⟩)
                      · exfalso; omega
                  · exfalso; omega
              · exfalso; omega
        · exact absurd u444 hc
    -- how many of each
    have loopD : ∀ (r k : Nat) (g2 : bg_E) (l12 : Option bg_V), k + r = 6 → 1 ≤ k → pIv G N0 Z g2 → g2 N0 1 = cntF (FB P) 1 n → g2 N0 2 = cntF (FA P) 2 m → g2 N0 3 = cntF (FB P) 3 n → g2 N0 4 = cntF (FB P) 4 n → g2 N0 5 = ((((TT P).take (TT P).length).filter (fF t)).length : Int) → bg_G κ y (1, 6) 396 [some (.inr 0), some (.inr 198), some (.inr 199), some (.inr 200), some (.inr 201), some (.inl a), some (.inl b), some (.inr N0), some (.inl (sumT (TT P))), some (.inl (sumT ((TT P).filter (fF t)))), some (.inl 1), some (.inl (k : Int)), l12] [] (bg_O g2) := by
      intro r
      induction r with
      | zero =>
        intro k g2 l12 hk h1 hp c1 c2 c3 c4 c5
        obtain rfl : k = 6 := by omega
        refine bg_iload11 (pc := 396) X1 dL_arePaired_396 ?_
        refine bg_bipush (pc := 398) X1 dL_arePaired_398 rfl (by decide) ?_
        refine bg_icmp_ge (pc := 400) X1 (tgt := 439) dL_arePaired_400 (by decide) (fun u400 => ?_) (fun u400 => ?_)
        · exact last g2 l12 hp c5
        · exfalso; omega
      | succ r ih =>
        intro k g2 l12 hk h1 hp c1 c2 c3 c4 c5
        have hq : xMatched Z a b (k : Int) = g2 N0 k := by
          have hc : k = 1 ∨ k = 2 ∨ k = 3 ∨ k = 4 ∨ k = 5 := by omega
          rcases hc with rfl | rfl | rfl | rfl | rfl
          · exact qmat.1.trans c1.symm
          · exact qmat.2.1.trans c2.symm
          · exact qmat.2.2.1.trans c3.symm
          · exact qmat.2.2.2.1.trans c4.symm
          · refine qmat.2.2.2.2.trans ?_
            rw [c5, List.take_length]
        refine bg_iload11 (pc := 396) X1 dL_arePaired_396 ?_
        refine bg_bipush (pc := 398) X1 dL_arePaired_398 rfl (by decide) ?_
        refine bg_icmp_ge (pc := 400) X1 (tgt := 439) dL_arePaired_400 (by decide) (fun u400 => ?_) (fun u400 => ?_)
        · exfalso; omega
        · refine bg_iload10 (pc := 403) X1 dL_arePaired_403 ?_
          refine bg_if_eq (pc := 405) X1 (tgt := 430) dL_arePaired_405 (by decide) (fun u405 => ?_) (fun u405 => ?_)
          · exfalso; omega
          · refine bg_aload0 (pc := 408) X1 dL_arePaired_408 ?_
            refine bg_iload5 (pc := 409) X1 dL_arePaired_409 ?_
            refine bg_iload6 (pc := 411) X1 dL_arePaired_411 ?_
            refine bg_iload11 (pc := 413) X1 dL_arePaired_413 ?_
            refine bq_V3i (pc := 415) X1 (c_X6_matched (Z := Z) hp.1 ok) vX6_matched lL_92 rfl (by first | assumption | rfl) (by decide) dL_arePaired_415 (by exact Nat.le_of_ble_eq_true rfl) (by decide) ?_
            rintro _ g4 ⟨rfl, x4, f4⟩
            have p4 := hp.cls x4 f4
            have e4 : g4 N0 = g2 N0 := f4 N0 (Or.inr (by have := hG.1; omega))
            rw [hq]
            refine bg_aload7 (pc := 418) X1 dL_arePaired_418 ?_
            refine bg_iload11 (pc := 420) X1 dL_arePaired_420 ?_
            refine bq_ialoadD (pc := 422) X1 (N := 6) dL_arePaired_422 (p4.kd hG) (p4.lt hG) (by omega) ?_
            rw [e4, Int.toNat_natCast]
            refine bg_icmp_ne (pc := 423) X1 (tgt := 430) dL_arePaired_423 (by decide) (fun u423 => ?_) (fun u423 => ?_)
            · exact absurd rfl u423
            · refine bg_iconst (pc := 426) X1 dL_arePaired_426 (by decide) ?_
              refine bg_goto (pc := 427) X1 (tgt := 431) dL_arePaired_427 (by decide) ?_
              refine bg_istore10 (pc := 431) X1 dL_arePaired_431 ?_
              refine bg_iinc11 (pc := 433) X1 dL_arePaired_433 (by omega) ?_
              refine bg_goto (pc := 436) X1 (tgt := 396) dL_arePaired_436 (by decide) ?_
              exact ih (k + 1) g4 _ (by omega) (by omega) p4 (by rw [e4]; exact c1) (by rw [e4]; exact c2) (by rw [e4]; exact c3) (by rw [e4]; exact c4) (by rw [e4]; exact c5)
    -- the throws
    have loopC : ∀ (r k : Nat) (g2 : bg_E) (l12 : Option bg_V), k + r = (TT P).length → pIv G N0 Z g2 → g2 N0 1 = cntF (FB P) 1 n → g2 N0 2 = cntF (FA P) 2 m → g2 N0 3 = cntF (FB P) 3 n → g2 N0 4 = cntF (FB P) 4 n → g2 N0 5 = ((((TT P).take k).filter (fF t)).length : Int) → ∀ q8 q9 : Int, q8 = sumT ((TT P).take k) → q9 = sumT (((TT P).take k).filter (fF t)) → bg_G κ y (1, 6) 255 [some (.inr 0), some (.inr 198), some (.inr 199), some (.inr 200), some (.inr 201), some (.inl a), some (.inl b), some (.inr N0), some (.inl q8), some (.inl q9), some (.inl 1), some (.inl (k : Int)), l12] [] (bg_O g2) := by
      intro r
      induction r with
      | zero =>
        intro k g2 l12 hk hp c1 c2 c3 c4 c5 q8 q9 h8 h9
        have hk2 : k = (TT P).length := by omega
        have h43 := (yT g2 hp).1
        rw [hk2] at c5
        rw [hk2, List.take_length] at h8 h9
        rw [h8, h9]
        refine bg_iload11 (pc := 255) X1 dL_arePaired_255 ?_
        refine bg_aload4 (pc := 257) X1 dL_arePaired_257 ?_
        refine bg_bipush (pc := 259) X1 dL_arePaired_259 rfl (by decide) ?_
        refine bq_iaload (pc := 261) X1 dL_arePaired_261 (by first | assumption | rfl) (by omega) ?_
        rw [h43]
        refine bg_icmp_ge (pc := 262) X1 (tgt := 393) dL_arePaired_262 (by decide) (fun u262 => ?_) (fun u262 => ?_)
        · refine bg_iconst (pc := 393) X1 dL_arePaired_393 (by decide) ?_
          refine bg_istore11 (pc := 394) X1 dL_arePaired_394 ?_
          exact loopD 5 1 g2 _ rfl (Nat.le_refl _) hp c1 c2 c3 c4 c5
        · exfalso; omega
      | succ r ih =>
        intro k g2 l12 hk hp c1 c2 c3 c4 c5 q8 q9 h8 h9
        have h43 := (yT g2 hp).1
        obtain ⟨e, he⟩ : ∃ e, (TT P)[k]? = some e := ⟨_, List.getElem?_eq_getElem (by omega)⟩
        have hE := yE g2 hp k e he
        have heR := TT_all okP1 e (List.mem_of_getElem? he)
        have tk := take_R okP1 k (by omega) (fF t)
        have t1 : sumT ((TT P).take (k + 1)) = sumT ((TT P).take k) + e.2.1 := by
          rw [take_p he, sumT_app]
          show _ + (e.2.1 + 0) = _
          omega
        have ll := List.length_filter_le (fF t) ((TT P).take k)
        have ll2 := List.length_take_le k (TT P)
        have h4 : g2 198 (4 : Int).toNat = t := by rw [ht]; exact (yl g2 hp).1 4 (by omega)
        by_cases hf : t ≤ (e.2.1.natAbs : Int)
        · have hfF : fF t e = true := by unfold fF; exact decide_eq_true hf
          have t2 : ((TT P).take (k + 1)).filter (fF t) = ((TT P).take k).filter (fF t) ++ [e] := by rw [take_f (fF t) he, if_pos hfF]
          have t3 : sumT (((TT P).take (k + 1)).filter (fF t)) = sumT (((TT P).take k).filter (fF t)) + e.2.1 := by
            rw [t2, sumT_app]
            show _ + (e.2.1 + 0) = _
            omega
          have hat := filt_at he hfF
          have f0 := qfault 0 _ e (by decide) hat
          have f1 := qfault 1 _ e (by decide) hat
          have f2 := qfault 2 _ e (by decide) hat
          rw [if_pos rfl] at f0
          rw [if_neg (show ¬ (1 : Int) = 0 by decide), if_pos rfl] at f1
          rw [if_neg (show ¬ (2 : Int) = 0 by decide), if_neg (show ¬ (2 : Int) = 1 by decide)] at f2
          have add5 : ∀ (g3 : bg_E), pIv G N0 Z g3 → g3 N0 = g2 N0 → bg_G κ y (1, 6) 372 [some (.inr 0), some (.inr 198), some (.inr 199), some (.inr 200), some (.inr 201), some (.inl a), some (.inl b), some (.inr N0), some (.inl (q8 + e.2.1)), some (.inl q9), some (.inl 1), some (.inl (k : Int)), some (.inl e.2.1)] [] (bg_O g3) := by
            intro g3 hp3 e3
            have e35 : g3 N0 (5 : Int).toNat = ((((TT P).take k).filter (fF t)).length : Int) := by rw [e3]; exact c5
            have nk : ∀ (k : Nat) (v : Int), k ≠ 5 → bg_up g3 N0 (5 : Int).toNat v N0 k = g2 N0 k := fun k v h => by rw [show (5 : Int).toNat = 5 from rfl, up_k h, e3]
            refine bg_aload7 (pc := 372) X1 dL_arePaired_372 ?_
            refine bg_iconst (pc := 374) X1 dL_arePaired_374 (by decide) ?_
            refine bg_dup2 (pc := 375) X1 dL_arePaired_375 ?_
            refine bq_ialoadD (pc := 376) X1 (N := 6) dL_arePaired_376 (hp3.kd hG) (hp3.lt hG) (by decide) ?_
            rw [e35]
            refine bg_iconst (pc := 377) X1 dL_arePaired_377 (by decide) ?_
            refine bg_iadd (pc := 378) X1 dL_arePaired_378 (by omega) ?_
            refine bq_iastoreD (pc := 379) X1 (N := 6) dL_arePaired_379 (hp3.kd hG) hG.2.1 (hp3.lt hG) (by decide) ?_
            refine bg_iload9 (pc := 380) X1 dL_arePaired_380 ?_
            refine bg_iload12 (pc := 382) X1 dL_arePaired_382 ?_
            refine bg_iadd (pc := 384) X1 dL_arePaired_384 (by omega) ?_
            refine bg_istore9 (pc := 385) X1 dL_arePaired_385 ?_
            refine bg_iinc11 (pc := 387) X1 dL_arePaired_387 (by omega) ?_
            refine bg_goto (pc := 390) X1 (tgt := 255) dL_arePaired_390 (by decide) ?_
            refine ih (k + 1) _ _ (by omega) (hp3.up hG) (by rw [nk _ _ (by decide)]; exact c1) (by rw [nk _ _ (by decide)]; exact c2) (by rw [nk _ _ (by decide)]; exact c3) (by rw [nk _ _ (by decide)]; exact c4) ?_ _ _ (by rw [t1, h8]) (by rw [t3, h9])
            rw [show (5 : Int).toNat = 5 from rfl, up_eq, t2, List.length_append]
            rfl
          refine bg_iload11 (pc := 255) X1 dL_arePaired_255 ?_
          refine bg_aload4 (pc := 257) X1 dL_arePaired_257 ?_
          refine bg_bipush (pc := 259) X1 dL_arePaired_259 rfl (by decide) ?_
          refine bq_iaload (pc := 261) X1 dL_arePaired_261 (by first | assumption | rfl) (by omega) ?_
          rw [h43]
          refine bg_icmp_ge (pc := 262) X1 (tgt := 393) dL_arePaired_262 (by decide) (fun u262 => ?_) (fun u262 => ?_)
          · exfalso; omega
          · refine bg_iload10 (pc := 265) X1 dL_arePaired_265 ?_
            refine bg_if_eq (pc := 267) X1 (tgt := 393) dL_arePaired_267 (by decide) (fun u267 => ?_) (fun u267 => ?_)
            · exfalso; omega
            · refine bg_aload4 (pc := 270) X1 dL_arePaired_270 ?_
              refine bg_bipush (pc := 272) X1 dL_arePaired_272 rfl (by decide) ?_
              refine bg_iload11 (pc := 274) X1 dL_arePaired_274 ?_
              refine bg_iadd (pc := 276) X1 dL_arePaired_276 (by omega) ?_
              refine bq_iaload (pc := 277) X1 dL_arePaired_277 (by first | assumption | rfl) (by omega) ?_
              rw [hE.2.1]
              refine bg_istore12 (pc := 278) X1 dL_arePaired_278 ?_
              refine bg_iload8 (pc := 280) X1 dL_arePaired_280 ?_
              refine bg_iload12 (pc := 282) X1 dL_arePaired_282 ?_
              refine bg_iadd (pc := 284) X1 dL_arePaired_284 (by omega) ?_
              refine bg_istore8 (pc := 285) X1 dL_arePaired_285 ?_
              refine bg_iload12 (pc := 287) X1 dL_arePaired_287 ?_
              refine bg_iconst (pc := 289) X1 dL_arePaired_289 (by decide) ?_
              refine bq_S2i (pc := 290) X1 (c_L_off ⟨by omega, by omega⟩ ⟨by omega, by omega⟩) sL_off lL_9 rfl (by decide) dL_arePaired_290 (by exact Nat.le_of_ble_eq_true rfl) (by decide) ?_
              rintro _ _ ⟨h9, h8⟩
              obtain rfl := h9.symm
              obtain rfl := h8.symm
              clear h9 h8
              refine bg_aload1 (pc := 293) X1 dL_arePaired_293 ?_
              refine bg_iconst (pc := 294) X1 dL_arePaired_294 (by decide) ?_
              refine bq_iaload (pc := 295) X1 dL_arePaired_295 (by first | assumption | rfl) (by omega) ?_
              rw [h4, Int.sub_zero]
              refine bg_icmp_lt (pc := 296) X1 (tgt := 387) dL_arePaired_296 (by decide) (fun u296 => ?_) (fun u296 => ?_)
              · exfalso; omega
              · refine bg_aload0 (pc := 299) X1 dL_arePaired_299 ?_
                refine bg_iload5 (pc := 300) X1 dL_arePaired_300 ?_
                refine bg_iload6 (pc := 302) X1 dL_arePaired_302 ?_
                refine bg_aload7 (pc := 304) X1 dL_arePaired_304 ?_
                refine bg_iconst (pc := 306) X1 dL_arePaired_306 (by decide) ?_
                refine bq_ialoadD (pc := 307) X1 (N := 6) dL_arePaired_307 (hp.kd hG) (hp.lt hG) (by decide) ?_
                rw [show g2 N0 (5 : Int).toNat = g2 N0 5 from rfl, c5]
                refine bg_iconst (pc := 308) X1 dL_arePaired_308 (by decide) ?_
                refine bq_V4i (pc := 309) X1 (c_X6_fault (Z := Z) hp.1 ok) vX6_fault lL_89 rfl (by first | assumption | rfl) (by decide) dL_arePaired_309 (by exact Nat.le_of_ble_eq_true rfl) (by decide) ?_
                rintro _ g4 ⟨rfl, x4, f4⟩
                have p4 := hp.cls x4 f4
                have e4 : g4 N0 = g2 N0 := f4 N0 (Or.inr (by have := hG.1; omega))
                have hE4 := yE g4 p4 k e he
                rw [f0]
                refine bg_aload4 (pc := 312) X1 dL_arePaired_312 ?_
                refine bg_bipush (pc := 314) X1 dL_arePaired_314 rfl (by decide) ?_
                refine bg_iload11 (pc := 316) X1 dL_arePaired_316 ?_
                refine bg_iadd (pc := 318) X1 dL_arePaired_318 (by omega) ?_
                refine bq_iaload (pc := 319) X1 dL_arePaired_319 (by first | assumption | rfl) (by omega) ?_
                rw [hE4.1]
                refine bg_icmp_ne (pc := 320) X1 (tgt := 369) dL_arePaired_320 (by decide) (fun u320 => ?_) (fun u320 => ?_)
                · exact absurd rfl u320
                · refine bg_aload0 (pc := 323) X1 dL_arePaired_323 ?_
                  refine bg_iload5 (pc := 324) X1 dL_arePaired_324 ?_
                  refine bg_iload6 (pc := 326) X1 dL_arePaired_326 ?_
                  refine bg_aload7 (pc := 328) X1 dL_arePaired_328 ?_
                  refine bg_iconst (pc := 330) X1 dL_arePaired_330 (by decide) ?_
                  refine bq_ialoadD (pc := 331) X1 (N := 6) dL_arePaired_331 (p4.kd hG) (p4.lt hG) (by decide) ?_
                  rw [e4, show g2 N0 (5 : Int).toNat = g2 N0 5 from rfl, c5]
                  refine bg_iconst (pc := 332) X1 dL_arePaired_332 (by decide) ?_
                  refine bq_V4i (pc := 333) X1 (c_X6_fault (Z := Z) p4.1 ok) vX6_fault lL_89 rfl (by first | assumption | rfl) (by decide) dL_arePaired_333 (by exact Nat.le_of_ble_eq_true rfl) (by decide) ?_
                  rintro _ g5 ⟨rfl, x5, f5⟩
                  have p5 := p4.cls x5 f5
                  have e5 : g5 N0 = g2 N0 := (f5 N0 (Or.inr (by have := hG.1; omega))).trans e4
                  rw [f1]
                  refine bg_iload12 (pc := 336) X1 dL_arePaired_336 ?_
                  refine bg_icmp_ne (pc := 338) X1 (tgt := 369) dL_arePaired_338 (by decide) (fun u338 => ?_) (fun u338 => ?_)
                  · exact absurd rfl u338
                  · refine bg_aload0 (pc := 341) X1 dL_arePaired_341 ?_
                    refine bg_iload5 (pc := 342) X1 dL_arePaired_342 ?_
                    refine bg_iload6 (pc := 344) X1 dL_arePaired_344 ?_
                    refine bg_aload7 (pc := 346) X1 dL_arePaired_346 ?_
                    refine bg_iconst (pc := 348) X1 dL_arePaired_348 (by decide) ?_
                    refine bq_ialoadD (pc := 349) X1 (N := 6) dL_arePaired_349 (p5.kd hG) (p5.lt hG) (by decide) ?_
                    rw [e5, show g2 N0 (5 : Int).toNat = g2 N0 5 from rfl, c5]
                    refine bg_iconst (pc := 350) X1 dL_arePaired_350 (by decide) ?_
                    refine bq_V4i (pc := 351) X1 (c_X6_fault (Z := Z) p5.1 ok) vX6_fault lL_89 rfl (by first | assumption | rfl) (by decide) dL_arePaired_351 (by exact Nat.le_of_ble_eq_true rfl) (by decide) ?_
                    rintro _ g6 ⟨rfl, x6, f6⟩
                    have p6 := p5.cls x6 f6
                    have e6 : g6 N0 = g2 N0 := (f6 N0 (Or.inr (by have := hG.1; omega))).trans e5
                    have hE6 := yE g6 p6 k e he
                    rw [f2]
                    refine bg_aload4 (pc := 354) X1 dL_arePaired_354 ?_
                    refine bg_bipush (pc := 356) X1 dL_arePaired_356 rfl (by decide) ?_
                    refine bg_iload11 (pc := 358) X1 dL_arePaired_358 ?_
                    refine bg_iadd (pc := 360) X1 dL_arePaired_360 (by omega) ?_
                    refine bq_iaload (pc := 361) X1 dL_arePaired_361 (by first | assumption | rfl) (by omega) ?_
                    rw [hE6.2.2]
                    refine bg_icmp_ne (pc := 362) X1 (tgt := 369) dL_arePaired_362 (by decide) (fun u362 => ?_) (fun u362 => ?_)
                    · exact absurd rfl u362
                    · refine bg_iconst (pc := 365) X1 dL_arePaired_365 (by decide) ?_
                      refine bg_goto (pc := 366) X1 (tgt := 370) dL_arePaired_366 (by decide) ?_
                      refine bg_istore10 (pc := 370) X1 dL_arePaired_370 ?_
                      exact add5 g6 p6 e6
        · have hfF : ¬ fF t e = true := by unfold fF; rw [decide_eq_true_eq]; exact hf
          have t2 : ((TT P).take (k + 1)).filter (fF t) = ((TT P).take k).filter (fF t) := by rw [take_f (fF t) he, if_neg hfF, List.append_nil]
          refine bg_iload11 (pc := 255) X1 dL_arePaired_255 ?_
          refine bg_aload4 (pc := 257) X1 dL_arePaired_257 ?_
          refine bg_bipush (pc := 259) X1 dL_arePaired_259 rfl (by decide) ?_
          refine bq_iaload (pc := 261) X1 dL_arePaired_261 (by first | assumption | rfl) (by omega) ?_
          rw [h43]
          refine bg_icmp_ge (pc := 262) X1 (tgt := 393) dL_arePaired_262 (by decide) (fun u262 => ?_) (fun u262 => ?_)
          · exfalso; omega
          · refine bg_iload10 (pc := 265) X1 dL_arePaired_265 ?_
            refine bg_if_eq (pc := 267) X1 (tgt := 393) dL_arePaired_267 (by decide) (fun u267 => ?_) (fun u267 => ?_)
            · exfalso; omega
            · refine bg_aload4 (pc := 270) X1 dL_arePaired_270 ?_
              refine bg_bipush (pc := 272) X1 dL_arePaired_272 rfl (by decide) ?_
              refine bg_iload11 (pc := 274) X1 dL_arePaired_274 ?_
              refine bg_iadd (pc := 276) X1 dL_arePaired_276 (by omega) ?_
              refine bq_iaload (pc := 277) X1 dL_arePaired_277 (by first | assumption | rfl) (by omega) ?_
              rw [hE.2.1]
              refine bg_istore12 (pc := 278) X1 dL_arePaired_278 ?_
              refine bg_iload8 (pc := 280) X1 dL_arePaired_280 ?_
              refine bg_iload12 (pc := 282) X1 dL_arePaired_282 ?_
              refine bg_iadd (pc := 284) X1 dL_arePaired_284 (by omega) ?_
              refine bg_istore8 (pc := 285) X1 dL_arePaired_285 ?_
              refine bg_iload12 (pc := 287) X1 dL_arePaired_287 ?_
              refine bg_iconst (pc := 289) X1 dL_arePaired_289 (by decide) ?_
              refine bq_S2i (pc := 290) X1 (c_L_off ⟨by omega, by omega⟩ ⟨by omega, by omega⟩) sL_off lL_9 rfl (by decide) dL_arePaired_290 (by exact Nat.le_of_ble_eq_true rfl) (by decide) ?_
              rintro _ _ ⟨h9, h8⟩
              obtain rfl := h9.symm
              obtain rfl := h8.symm
              clear h9 h8
              refine bg_aload1 (pc := 293) X1 dL_arePaired_293 ?_
              refine bg_iconst (pc := 294) X1 dL_arePaired_294 (by decide) ?_
              refine bq_iaload (pc := 295) X1 dL_arePaired_295 (by first | assumption | rfl) (by omega) ?_
              rw [h4, Int.sub_zero]
              refine bg_icmp_lt (pc := 296) X1 (tgt := 387) dL_arePaired_296 (by decide) (fun u296 => ?_) (fun u296 => ?_)
              · refine bg_iinc11 (pc := 387) X1 dL_arePaired_387 (by omega) ?_
                refine bg_goto (pc := 390) X1 (tgt := 255) dL_arePaired_390 (by decide) ?_
                exact ih (k + 1) _ _ (by omega) hp c1 c2 c3 c4 (by rw [t2]; exact c5) _ _ (by rw [t1, h8]) (by rw [t2, h9])
              · exfalso; omega
    -- the beds of the column B
    have loopB : ∀ (r j : Nat) (g2 : bg_E) (l12 : Option bg_V), j + r = n → pIv G N0 Z g2 → g2 N0 1 = cntF (FB P) 1 j → g2 N0 2 = cntF (FA P) 2 m → g2 N0 3 = cntF (FB P) 3 j → g2 N0 4 = cntF (FB P) 4 j → g2 N0 5 = 0 → bg_G κ y (1, 6) 163 [some (.inr 0), some (.inr 198), some (.inr 199), some (.inr 200), some (.inr 201), some (.inl a), some (.inl b), some (.inr N0), some (.inl 0), some (.inl 0), some (.inl 1), some (.inl (j : Int)), l12] [] (bg_O g2) := by
      intro r
      induction r with
      | zero =>
        intro j g2 l12 hj hp c1 c2 c3 c4 c5
        have hj2 : j = n := by omega
        rw [hj2] at c1 c3 c4
        refine bg_iload11 (pc := 163) X1 dL_arePaired_163 ?_
        refine bg_aload1 (pc := 165) X1 dL_arePaired_165 ?_
        refine bg_bipush (pc := 166) X1 dL_arePaired_166 rfl (by decide) ?_
        refine bg_iload6 (pc := 168) X1 dL_arePaired_168 ?_
        refine bg_iadd (pc := 170) X1 dL_arePaired_170 (by omega) ?_
        refine bq_iaload (pc := 171) X1 dL_arePaired_171 (by first | assumption | rfl) (by omega) ?_
        rw [rw_len (yl g2 hp) hb, ← hn]
        refine bg_icmp_ge (pc := 172) X1 (tgt := 252) dL_arePaired_172 (by decide) (fun u172 => ?_) (fun u172 => ?_)
        · refine bg_iconst (pc := 252) X1 dL_arePaired_252 (by decide) ?_
          refine bg_istore11 (pc := 253) X1 dL_arePaired_253 ?_
          exact loopC (TT P).length 0 g2 _ (Nat.zero_add _) hp c1 c2 c3 c4 c5 _ _ rfl rfl
        · exfalso; omega
      | succ r ih =>
        intro j g2 l12 hj hp c1 c2 c3 c4 c5
        have q1 := cntF_R (FB P) 1 j
        have q3 := cntF_R (FB P) 3 j
        have q4 := cntF_R (FB P) 4 j
        have hF := hI3 j (by omega)
        have hvR : FB P j = 1 ∨ FB P j = 3 ∨ FB P j = 4 := by omega
        have hcell : 0 ≤ g2 N0 (FB P j).toNat ∧ g2 N0 (FB P j).toNat ≤ 6 := by
          rcases hvR with h | h | h
          · rw [h, show (1 : Int).toNat = 1 from rfl, c1]; omega
          · rw [h, show (3 : Int).toNat = 3 from rfl, c3]; omega
          · rw [h, show (4 : Int).toNat = 4 from rfl, c4]; omega
        have n1 : cntF (FB P) 1 (j + 1) = cntF (FB P) 1 j + (if FB P j = 1 then 1 else 0) := rfl
        have n3 : cntF (FB P) 3 (j + 1) = cntF (FB P) 3 j + (if FB P j = 3 then 1 else 0) := rfl
        have n4 : cntF (FB P) 4 (j + 1) = cntF (FB P) 4 j + (if FB P j = 4 then 1 else 0) := rfl
        have mid : ∀ (g3 : bg_E), pIv G N0 Z g3 → g3 N0 1 = cntF (FB P) 1 (j + 1) → g3 N0 2 = cntF (FA P) 2 m → g3 N0 3 = cntF (FB P) 3 (j + 1) → g3 N0 4 = cntF (FB P) 4 (j + 1) → g3 N0 5 = 0 → bg_G κ y (1, 6) 195 [some (.inr 0), some (.inr 198), some (.inr 199), some (.inr 200), some (.inr 201), some (.inl a), some (.inl b), some (.inr N0), some (.inl 0), some (.inl 0), some (.inl 1), some (.inl (j : Int)), l12] [] (bg_O g3) := by
          intro g3 hp3 d1 d2 d3 d4 d5
          have qw := qwB j (by omega)
          refine bg_aload0 (pc := 195) X1 dL_arePaired_195 ?_
          refine bg_iload5 (pc := 196) X1 dL_arePaired_196 ?_
          refine bg_iload6 (pc := 198) X1 dL_arePaired_198 ?_
          refine bg_iconst (pc := 200) X1 dL_arePaired_200 (by decide) ?_
          refine bg_iload11 (pc := 201) X1 dL_arePaired_201 ?_
          refine bq_V4i (pc := 203) X1 (c_X6_why (Z := Z) hp3.1 ok) vX6_why lL_83 rfl (by first | assumption | rfl) (by decide) dL_arePaired_203 (by exact Nat.le_of_ble_eq_true rfl) (by decide) ?_
          rintro _ g4 ⟨rfl, x4, f4⟩
          have p4 := hp3.cls x4 f4
          have e4 : g4 N0 = g3 N0 := f4 N0 (Or.inr (by have := hG.1; omega))
          rw [qw.1]
          refine bg_aload4 (pc := 206) X1 dL_arePaired_206 ?_
          refine bg_bipush (pc := 208) X1 dL_arePaired_208 rfl (by decide) ?_
          refine bg_iload11 (pc := 210) X1 dL_arePaired_210 ?_
          refine bg_iadd (pc := 212) X1 dL_arePaired_212 (by omega) ?_
          refine bq_iaload (pc := 213) X1 dL_arePaired_213 (by first | assumption | rfl) (by omega) ?_
          rw [(yB g4 p4 j (by omega)).1]
          refine bg_icmp_ne (pc := 214) X1 (tgt := 243) dL_arePaired_214 (by decide) (fun u214 => ?_) (fun u214 => ?_)
          · exact absurd rfl u214
          · refine bg_aload0 (pc := 217) X1 dL_arePaired_217 ?_
            refine bg_iload5 (pc := 218) X1 dL_arePaired_218 ?_
            refine bg_iload6 (pc := 220) X1 dL_arePaired_220 ?_
            refine bg_iconst (pc := 222) X1 dL_arePaired_222 (by decide) ?_
            refine bg_iload11 (pc := 223) X1 dL_arePaired_223 ?_
            refine bq_V4i (pc := 225) X1 (c_X6_partner (Z := Z) p4.1 ok) vX6_partner lL_86 rfl (by first | assumption | rfl) (by decide) dL_arePaired_225 (by exact Nat.le_of_ble_eq_true rfl) (by decide) ?_
            rintro _ g5 ⟨rfl, x5, f5⟩
            have p5 := p4.cls x5 f5
            have e5 : g5 N0 = g3 N0 := (f5 N0 (Or.inr (by have := hG.1; omega))).trans e4
            rw [qw.2]
            refine bg_aload4 (pc := 228) X1 dL_arePaired_228 ?_
            refine bg_bipush (pc := 230) X1 dL_arePaired_230 rfl (by decide) ?_
            refine bg_iload11 (pc := 232) X1 dL_arePaired_232 ?_
            refine bg_iadd (pc := 234) X1 dL_arePaired_234 (by omega) ?_
            refine bq_iaload (pc := 235) X1 dL_arePaired_235 (by first | assumption | rfl) (by omega) ?_
            rw [(yB g5 p5 j (by omega)).2]
            refine bg_icmp_ne (pc := 236) X1 (tgt := 243) dL_arePaired_236 (by decide) (fun u236 => ?_) (fun u236 => ?_)
            · exact absurd rfl u236
            · refine bg_iconst (pc := 239) X1 dL_arePaired_239 (by decide) ?_
              refine bg_goto (pc := 240) X1 (tgt := 244) dL_arePaired_240 (by decide) ?_
              refine bg_istore10 (pc := 244) X1 dL_arePaired_244 ?_
              refine bg_iinc11 (pc := 246) X1 dL_arePaired_246 (by omega) ?_
              refine bg_goto (pc := 249) X1 (tgt := 163) dL_arePaired_249 (by decide) ?_
              exact ih (j + 1) g5 _ (by omega) p5 (by rw [e5]; exact d1) (by rw [e5]; exact d2) (by rw [e5]; exact d3) (by rw [e5]; exact d4) (by rw [e5]; exact d5)
        refine bg_iload11 (pc := 163) X1 dL_arePaired_163 ?_
        refine bg_aload1 (pc := 165) X1 dL_arePaired_165 ?_
        refine bg_bipush (pc := 166) X1 dL_arePaired_166 rfl (by decide) ?_
        refine bg_iload6 (pc := 168) X1 dL_arePaired_168 ?_
        refine bg_iadd (pc := 170) X1 dL_arePaired_170 (by omega) ?_
        refine bq_iaload (pc := 171) X1 dL_arePaired_171 (by first | assumption | rfl) (by omega) ?_
        rw [rw_len (yl g2 hp) hb, ← hn]
        refine bg_icmp_ge (pc := 172) X1 (tgt := 252) dL_arePaired_172 (by decide) (fun u172 => ?_) (fun u172 => ?_)
        · exfalso; omega
        · refine bg_iload10 (pc := 175) X1 dL_arePaired_175 ?_
          refine bg_if_eq (pc := 177) X1 (tgt := 252) dL_arePaired_177 (by decide) (fun u177 => ?_) (fun u177 => ?_)
          · exfalso; omega
          · refine bg_aload7 (pc := 180) X1 dL_arePaired_180 ?_
            refine bg_aload4 (pc := 182) X1 dL_arePaired_182 ?_
            refine bg_bipush (pc := 184) X1 dL_arePaired_184 rfl (by decide) ?_
            refine bg_iload11 (pc := 186) X1 dL_arePaired_186 ?_
            refine bg_iadd (pc := 188) X1 dL_arePaired_188 (by omega) ?_
            refine bq_iaload (pc := 189) X1 dL_arePaired_189 (by first | assumption | rfl) (by omega) ?_
            rw [(yB g2 hp j (by omega)).1]
            refine bg_dup2 (pc := 190) X1 dL_arePaired_190 ?_
            refine bq_ialoadD (pc := 191) X1 (N := 6) dL_arePaired_191 (hp.kd hG) (hp.lt hG) (by omega) ?_
            refine bg_iconst (pc := 192) X1 dL_arePaired_192 (by decide) ?_
            refine bg_iadd (pc := 193) X1 dL_arePaired_193 (by omega) ?_
            refine bq_iastoreD (pc := 194) X1 (N := 6) dL_arePaired_194 (hp.kd hG) hG.2.1 (hp.lt hG) (by omega) ?_
            refine mid _ (hp.up hG) ?_ ?_ ?_ ?_ ?_
            all_goals
              rcases hvR with h | h | h <;> simp [bg_up, h, n1, n3, n4, c1, c2, c3, c4, c5]
    -- the beds of the column A
    have loopA : ∀ (r i : Nat) (g2 : bg_E) (l12 : Option bg_V), i + r = m → pIv G N0 Z g2 → g2 N0 1 = 0 → g2 N0 2 = cntF (FA P) 2 i → g2 N0 3 = 0 → g2 N0 4 = 0 → g2 N0 5 = 0 → bg_G κ y (1, 6) 64 [some (.inr 0), some (.inr 198), some (.inr 199), some (.inr 200), some (.inr 201), some (.inl a), some (.inl b), some (.inr N0), some (.inl 0), some (.inl 0), some (.inl 1), some (.inl (i : Int)), l12] [] (bg_O g2) := by
      intro r
      induction r with
      | zero =>
        intro i g2 l12 hi hp c1 c2 c3 c4 c5
        have hi2 : i = m := by omega
        rw [hi2] at c2
        refine bg_iload11 (pc := 64) X1 dL_arePaired_64 ?_
        refine bg_aload1 (pc := 66) X1 dL_arePaired_66 ?_
        refine bg_bipush (pc := 67) X1 dL_arePaired_67 rfl (by decide) ?_
        refine bg_iload5 (pc := 69) X1 dL_arePaired_69 ?_
        refine bg_iadd (pc := 71) X1 dL_arePaired_71 (by omega) ?_
        refine bq_iaload (pc := 72) X1 dL_arePaired_72 (by first | assumption | rfl) (by omega) ?_
        rw [rw_len (yl g2 hp) ha, ← hm]
        refine bg_icmp_ge (pc := 73) X1 (tgt := 160) dL_arePaired_73 (by decide) (fun u73 => ?_) (fun u73 => ?_)
        · refine bg_iconst (pc := 160) X1 dL_arePaired_160 (by decide) ?_
          refine bg_istore11 (pc := 161) X1 dL_arePaired_161 ?_
          exact loopB n 0 g2 _ (Nat.zero_add _) hp c1 c2 c3 c4 c5
        · exfalso; omega
      | succ r ih =>
        intro i g2 l12 hi hp c1 c2 c3 c4 c5
        have q2 := cntF_R (FA P) 2 i
        have hF := hI1 i (by omega)
        have n2 : cntF (FA P) 2 (i + 1) = cntF (FA P) 2 i + (if FA P i = 2 then 1 else 0) := rfl
        have mid : ∀ (g3 : bg_E), pIv G N0 Z g3 → g3 N0 1 = 0 → g3 N0 2 = cntF (FA P) 2 (i + 1) → g3 N0 3 = 0 → g3 N0 4 = 0 → g3 N0 5 = 0 → bg_G κ y (1, 6) 106 [some (.inr 0), some (.inr 198), some (.inr 199), some (.inr 200), some (.inr 201), some (.inl a), some (.inl b), some (.inr N0), some (.inl 0), some (.inl 0), some (.inl 1), some (.inl (i : Int)), l12] [] (bg_O g3) := by
          intro g3 hp3 d1 d2 d3 d4 d5
          have qw := qwA i (by omega)
          refine bg_aload0 (pc := 106) X1 dL_arePaired_106 ?_
          refine bg_iload5 (pc := 107) X1 dL_arePaired_107 ?_
          refine bg_iload6 (pc := 109) X1 dL_arePaired_109 ?_
          refine bg_iconst (pc := 111) X1 dL_arePaired_111 (by decide) ?_
          refine bg_iload11 (pc := 112) X1 dL_arePaired_112 ?_
          refine bq_V4i (pc := 114) X1 (c_X6_why (Z := Z) hp3.1 ok) vX6_why lL_83 rfl (by first | assumption | rfl) (by decide) dL_arePaired_114 (by exact Nat.le_of_ble_eq_true rfl) (by decide) ?_
          rintro _ g4 ⟨rfl, x4, f4⟩
          have p4 := hp3.cls x4 f4
          have e4 : g4 N0 = g3 N0 := f4 N0 (Or.inr (by have := hG.1; omega))
          rw [qw.1]
          refine bg_aload4 (pc := 117) X1 dL_arePaired_117 ?_
          refine bg_iload11 (pc := 119) X1 dL_arePaired_119 ?_
          refine bq_iaload (pc := 121) X1 dL_arePaired_121 (by first | assumption | rfl) (by omega) ?_
          rw [(yA g4 p4 i (by omega)).1]
          refine bg_icmp_ne (pc := 122) X1 (tgt := 151) dL_arePaired_122 (by decide) (fun u122 => ?_) (fun u122 => ?_)
          · exact absurd rfl u122
          · refine bg_aload0 (pc := 125) X1 dL_arePaired_125 ?_
            refine bg_iload5 (pc := 126) X1 dL_arePaired_126 ?_
            refine bg_iload6 (pc := 128) X1 dL_arePaired_128 ?_
            refine bg_iconst (pc := 130) X1 dL_arePaired_130 (by decide) ?_
            refine bg_iload11 (pc := 131) X1 dL_arePaired_131 ?_
            refine bq_V4i (pc := 133) X1 (c_X6_partner (Z := Z) p4.1 ok) vX6_partner lL_86 rfl (by first | assumption | rfl) (by decide) dL_arePaired_133 (by exact Nat.le_of_ble_eq_true rfl) (by decide) ?_
            rintro _ g5 ⟨rfl, x5, f5⟩
            have p5 := p4.cls x5 f5
            have e5 : g5 N0 = g3 N0 := (f5 N0 (Or.inr (by have := hG.1; omega))).trans e4
            rw [qw.2]
            refine bg_aload4 (pc := 136) X1 dL_arePaired_136 ?_
            refine bg_bipush (pc := 138) X1 dL_arePaired_138 rfl (by decide) ?_
            refine bg_iload11 (pc := 140) X1 dL_arePaired_140 ?_
            refine bg_iadd (pc := 142) X1 dL_arePaired_142 (by omega) ?_
            refine bq_iaload (pc := 143) X1 dL_arePaired_143 (by first | assumption | rfl) (by omega) ?_
            rw [(yA g5 p5 i (by omega)).2]
            refine bg_icmp_ne (pc := 144) X1 (tgt := 151) dL_arePaired_144 (by decide) (fun u144 => ?_) (fun u144 => ?_)
            · exact absurd rfl u144
            · refine bg_iconst (pc := 147) X1 dL_arePaired_147 (by decide) ?_
              refine bg_goto (pc := 148) X1 (tgt := 152) dL_arePaired_148 (by decide) ?_
              refine bg_istore10 (pc := 152) X1 dL_arePaired_152 ?_
              refine bg_iinc11 (pc := 154) X1 dL_arePaired_154 (by omega) ?_
              refine bg_goto (pc := 157) X1 (tgt := 64) dL_arePaired_157 (by decide) ?_
              exact ih (i + 1) g5 _ (by omega) p5 (by rw [e5]; exact d1) (by rw [e5]; exact d2) (by rw [e5]; exact d3) (by rw [e5]; exact d4) (by rw [e5]; exact d5)
        have y1 := (yA g2 hp i (by omega)).1
        have hc1 : g2 N0 (1 : Int).toNat = 0 := c1
        have hc2 : g2 N0 (2 : Int).toNat = cntF (FA P) 2 i := c2
        have hvR : FA P i = 1 ∨ FA P i = 2 := by omega
        rcases hvR with h | h
        · rw [h] at y1
          refine bg_iload11 (pc := 64) X1 dL_arePaired_64 ?_
          refine bg_aload1 (pc := 66) X1 dL_arePaired_66 ?_
          refine bg_bipush (pc := 67) X1 dL_arePaired_67 rfl (by decide) ?_
          refine bg_iload5 (pc := 69) X1 dL_arePaired_69 ?_
          refine bg_iadd (pc := 71) X1 dL_arePaired_71 (by omega) ?_
          refine bq_iaload (pc := 72) X1 dL_arePaired_72 (by first | assumption | rfl) (by omega) ?_
          rw [rw_len (yl g2 hp) ha, ← hm]
          refine bg_icmp_ge (pc := 73) X1 (tgt := 160) dL_arePaired_73 (by decide) (fun u73 => ?_) (fun u73 => ?_)
          · exfalso; omega
          · refine bg_iload10 (pc := 76) X1 dL_arePaired_76 ?_
            refine bg_if_eq (pc := 78) X1 (tgt := 160) dL_arePaired_78 (by decide) (fun u78 => ?_) (fun u78 => ?_)
            · exfalso; omega
            · refine bg_aload7 (pc := 81) X1 dL_arePaired_81 ?_
              refine bg_aload4 (pc := 83) X1 dL_arePaired_83 ?_
              refine bg_iload11 (pc := 85) X1 dL_arePaired_85 ?_
              refine bq_iaload (pc := 87) X1 dL_arePaired_87 (by first | assumption | rfl) (by omega) ?_
              rw [y1]
              refine bg_dup2 (pc := 88) X1 dL_arePaired_88 ?_
              refine bq_ialoadD (pc := 89) X1 (N := 6) dL_arePaired_89 (hp.kd hG) (hp.lt hG) (by decide) ?_
              rw [hc1]
              refine bg_aload4 (pc := 90) X1 dL_arePaired_90 ?_
              refine bg_iload11 (pc := 92) X1 dL_arePaired_92 ?_
              refine bq_iaload (pc := 94) X1 dL_arePaired_94 (by first | assumption | rfl) (by omega) ?_
              rw [y1]
              refine bg_iconst (pc := 95) X1 dL_arePaired_95 (by decide) ?_
              refine bg_icmp_ne (pc := 96) X1 (tgt := 103) dL_arePaired_96 (by decide) (fun u96 => ?_) (fun u96 => ?_)
              · refine bg_iconst (pc := 103) X1 dL_arePaired_103 (by decide) ?_
                refine bg_iadd (pc := 104) X1 dL_arePaired_104 (by omega) ?_
                refine bq_iastoreD (pc := 105) X1 (N := 6) dL_arePaired_105 (hp.kd hG) hG.2.1 (hp.lt hG) (by decide) ?_
                refine mid _ (hp.up hG) ?_ ?_ ?_ ?_ ?_ <;> simp [bg_up, h, n2, c1, c2, c3, c4, c5]
              · exfalso; omega
        · rw [h] at y1
          refine bg_iload11 (pc := 64) X1 dL_arePaired_64 ?_
          refine bg_aload1 (pc := 66) X1 dL_arePaired_66 ?_
          refine bg_bipush (pc := 67) X1 dL_arePaired_67 rfl (by decide) ?_
          refine bg_iload5 (pc := 69) X1 dL_arePaired_69 ?_
          refine bg_iadd (pc := 71) X1 dL_arePaired_71 (by omega) ?_
          refine bq_iaload (pc := 72) X1 dL_arePaired_72 (by first | assumption | rfl) (by omega) ?_
          rw [rw_len (yl g2 hp) ha, ← hm]
          refine bg_icmp_ge (pc := 73) X1 (tgt := 160) dL_arePaired_73 (by decide) (fun u73 => ?_) (fun u73 => ?_)
          · exfalso; omega
          · refine bg_iload10 (pc := 76) X1 dL_arePaired_76 ?_
            refine bg_if_eq (pc := 78) X1 (tgt := 160) dL_arePaired_78 (by decide) (fun u78 => ?_) (fun u78 => ?_)
            · exfalso; omega
            · refine bg_aload7 (pc := 81) X1 dL_arePaired_81 ?_
              refine bg_aload4 (pc := 83) X1 dL_arePaired_83 ?_
              refine bg_iload11 (pc := 85) X1 dL_arePaired_85 ?_
              refine bq_iaload (pc := 87) X1 dL_arePaired_87 (by first | assumption | rfl) (by omega) ?_
              rw [y1]
              refine bg_dup2 (pc := 88) X1 dL_arePaired_88 ?_
              refine bq_ialoadD (pc := 89) X1 (N := 6) dL_arePaired_89 (hp.kd hG) (hp.lt hG) (by decide) ?_
              rw [hc2]
              refine bg_aload4 (pc := 90) X1 dL_arePaired_90 ?_
              refine bg_iload11 (pc := 92) X1 dL_arePaired_92 ?_
              refine bq_iaload (pc := 94) X1 dL_arePaired_94 (by first | assumption | rfl) (by omega) ?_
              rw [y1]
              refine bg_iconst (pc := 95) X1 dL_arePaired_95 (by decide) ?_
              refine bg_icmp_ne (pc := 96) X1 (tgt := 103) dL_arePaired_96 (by decide) (fun u96 => ?_) (fun u96 => ?_)
              · exfalso; omega
              · refine bg_iconst (pc := 99) X1 dL_arePaired_99 (by decide) ?_
                refine bg_goto (pc := 100) X1 (tgt := 104) dL_arePaired_100 (by decide) ?_
                refine bg_iadd (pc := 104) X1 dL_arePaired_104 (by omega) ?_
                refine bq_iastoreD (pc := 105) X1 (N := 6) dL_arePaired_105 (hp.kd hG) hG.2.1 (hp.lt hG) (by decide) ?_
                refine mid _ (hp.up hG) ?_ ?_ ?_ ?_ ?_ <;> simp [bg_up, h, n2, c1, c2, c3, c4, c5]
    refine bg_iconst (pc := 18) X1 dL_arePaired_18 (by decide) ?_
    refine bg_istore8 (pc := 19) X1 dL_arePaired_19 ?_
    refine bg_iconst (pc := 21) X1 dL_arePaired_21 (by decide) ?_
    refine bg_istore9 (pc := 22) X1 dL_arePaired_22 ?_
    refine bg_aload0 (pc := 24) X1 dL_arePaired_24 ?_
    refine bg_iload5 (pc := 25) X1 dL_arePaired_25 ?_
    refine bg_iload6 (pc := 27) X1 dL_arePaired_27 ?_
    refine bg_iconst (pc := 29) X1 dL_arePaired_29 (by decide) ?_
    refine bq_V3i (pc := 30) X1 (c_X6_cost (Z := Z) hp0.1 ok) vX6_cost lL_80 rfl (by first | assumption | rfl) (by decide) dL_arePaired_30 (by exact Nat.le_of_ble_eq_true rfl) (by decide) ?_
    rintro _ g3 ⟨rfl, x3, f3⟩
    have p3 := hp0.cls x3 f3
    have z3 : g3 N0 = G N0 := f3 N0 (Or.inr (by have := hG.1; omega))
    rw [qcost 0 (Or.inl rfl)]
    refine bg_aload3 (pc := 33) X1 dL_arePaired_33 ?_
    refine bg_iconst (pc := 34) X1 dL_arePaired_34 (by decide) ?_
    refine bq_iaload (pc := 35) X1 dL_arePaired_35 (by first | assumption | rfl) (by omega) ?_
    rw [show g3 200 (0 : Int).toNat = bw P 0 0 by rw [p3.2 200 (by omega) n200]; exact h200]
    refine bg_icmp_ne (pc := 36) X1 (tgt := 58) dL_arePaired_36 (by decide) (fun u36 => ?_) (fun u36 => ?_)
    · exact absurd rfl u36
    · refine bg_aload0 (pc := 39) X1 dL_arePaired_39 ?_
      refine bg_iload5 (pc := 40) X1 dL_arePaired_40 ?_
      refine bg_iload6 (pc := 42) X1 dL_arePaired_42 ?_
      refine bg_iconst (pc := 44) X1 dL_arePaired_44 (by decide) ?_
      refine bq_V3i (pc := 45) X1 (c_X6_cost (Z := Z) p3.1 ok) vX6_cost lL_80 rfl (by first | assumption | rfl) (by decide) dL_arePaired_45 (by exact Nat.le_of_ble_eq_true rfl) (by decide) ?_
      rintro _ g4 ⟨rfl, x4, f4⟩
      have p4 := p3.cls x4 f4
      have z4 : g4 N0 = G N0 := (f4 N0 (Or.inr (by have := hG.1; omega))).trans z3
      rw [qcost 1 (Or.inr rfl)]
      refine bg_aload3 (pc := 48) X1 dL_arePaired_48 ?_
      refine bg_iconst (pc := 49) X1 dL_arePaired_49 (by decide) ?_
      refine bq_iaload (pc := 50) X1 dL_arePaired_50 (by first | assumption | rfl) (by omega) ?_
      rw [show g4 200 (0 : Int).toNat = bw P 0 0 by rw [p4.2 200 (by omega) n200]; exact h200]
      refine bg_icmp_ne (pc := 51) X1 (tgt := 58) dL_arePaired_51 (by decide) (fun u51 => ?_) (fun u51 => ?_)
      · exact absurd rfl u51
      · refine bg_iconst (pc := 54) X1 dL_arePaired_54 (by decide) ?_
        refine bg_goto (pc := 55) X1 (tgt := 59) dL_arePaired_55 (by decide) ?_
        refine bg_istore10 (pc := 59) X1 dL_arePaired_59 ?_
        refine bg_iconst (pc := 61) X1 dL_arePaired_61 (by decide) ?_
        refine bg_istore11 (pc := 62) X1 dL_arePaired_62 ?_
        exact loopA m 0 g4 _ (Nat.zero_add _) p4 (by rw [z4]; exact hz 1) (by rw [z4]; exact hz 2) (by rw [z4]; exact hz 3) (by rw [z4]; exact hz 4) (by rw [z4]; exact hz 5)
  refine bg_aload1 (pc := 0) X1 dL_arePaired_0 ?_
  refine bg_aload2 (pc := 1) X1 dL_arePaired_1 ?_
  refine bg_iload5 (pc := 2) X1 dL_arePaired_2 ?_
  refine bg_iload6 (pc := 4) X1 dL_arePaired_4 ?_
  refine bg_aload3 (pc := 6) X1 dL_arePaired_6 ?_
  refine bg_aload4 (pc := 7) X1 dL_arePaired_7 ?_
  refine bq_S6v (pc := 9) X1 (c_L_walk hS ok.1 h6 ha hb) sL_walk lL_76 rfl (by decide) dL_arePaired_9 (by exact Nat.le_of_ble_eq_true rfl) (by decide) ?_
  rintro g1 ⟨w1, w2, w3⟩
  rw [← hP] at w1 w2
  have e1 : g1 bg_PZ = g bg_PZ := w3 _ (Or.inr (by unfold bg_PZ; omega))
  have hP1 : 0 ≤ g1 bg_PZ 0 ∧ g1 bg_PZ 0 ≤ 1000000 := by rw [e1]; exact hPZ
  have hlo : ∀ x, x < 202 → bg_nw g1 6 x = g1 x := fun x hx => bg_nw_lo hx
  have hX1 : clsR (bg_nw g1 6) Z := hX.lo (fun x hx => (hlo x (by omega)).trans (w3 x (Or.inl (by omega))))
  refine bg_bipush (pc := 12) X1 dL_arePaired_12 rfl (by decide) ?_
  refine bq_newI (pc := 14) X1 (N := 6) dL_arePaired_14 rfl (by decide) hP1 (by decide) (by decide) ?_
  refine bg_astore7 (pc := 16) X1 dL_arePaired_16 ?_
  refine rest (bg_nw g1 6) (bg_n g1) (pGv.mk hP1) ⟨hX1, fun x _ _ => rfl⟩ (hS.cg ((hlo 198 (by omega)).trans (w3 198 (by omega))) ((hlo 199 (by omega)).trans (w3 199 (by omega)))) ?_ ?_ ?_ ?_
  · unfold matL arrL thrL
    rw [hlo 201 (by omega)]
    exact w1
  · rw [hlo 200 (by omega)]; exact w2
  · rw [bg_nw_0, e1]
  · intro k
    unfold bg_nw
    rw [if_neg (bg_n_ne hP1.2), if_pos rfl]
