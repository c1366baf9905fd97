/-! the law: a bed's thickness, a bed more -/
theorem act_fin {g' : bg_E} {Z : bm_X} {T : Int} {h : Nat} {q : bm_Q} {A : Nat → Int} (i4 : len6 Z.1) (i6 : accC Z.1) (hh : h < 4) (hX : clsR g' (xPut Z (Z.1.1, Z.1.2.1, Z.1.2.2.1, fup Z.1.2.2.2.1 h q, A))) (ok : okX (xPut Z (Z.1.1, Z.1.2.1, Z.1.2.2.1, fup Z.1.2.2.2.1 h q, A))) (hR : rwR g' (Z.1.1, Z.1.2.1, Z.1.2.2.1, fup Z.1.2.2.2.1 h q, A)) (hq : q.length ≤ 6) (hA : ∀ a, 1 ≤ a → a < 5 → 0 ≤ A a ∧ A a ≤ T + 600) (hC : tot q - tot (Z.1.2.2.2.1 h) = (A 1 - Z.1.2.2.2.2 1) - (A 2 - Z.1.2.2.2.2 2) - (A 3 - Z.1.2.2.2.2 3) + (A 4 - Z.1.2.2.2.2 4)) : ∃ Z', actI g' Z' (T + 600) := by
  refine ⟨_, hX, ok, hR, len6_bed i4 hq, hA, ?_⟩
  show lnS (Z.1.1, Z.1.2.1, Z.1.2.2.1, fup Z.1.2.2.2.1 h q, A) = A 1 - A 2 - A 3 + A 4
  have i6' : lnS Z.1 = Z.1.2.2.2.2 1 - Z.1.2.2.2.2 2 - Z.1.2.2.2.2 3 + Z.1.2.2.2.2 4 := i6
  rw [lnS_bed hh, i6']
  omega
theorem up5 {g : bg_E} {k j : Nat} {v : Int} (h : j ≠ k) : bg_up g 198 k v 198 j = g 198 j := up_k h
theorem a_thk {κ : bg_K} {y : bg_Y} {g : bg_E} {z v h n bed at_ T : Int} {Z : bm_X} (X : bg_Xm κ y mL_acts 7 1 64 (bg_pI (aP g T))) (hI : actI g Z T) (hT : 0 ≤ T ∧ T ≤ 1000000) (hPZ : 0 ≤ g bg_PZ 0) (hv : 0 ≤ v ∧ v < 10000000) (hh : isHo h) (hn : n = ((sq Z.1 h).length : Int)) (hb : 0 ≤ bed ∧ (0 < n → bed < n)) (hat : at_ = 12 * h + 2 * bed) : bg_G κ y (1, 64) 460 [some (.inr 0), some (.inr 198), some (.inr 199), some (.inl z), some (.inl v), some (.inl h), some (.inl n), some (.inl bed), some (.inl at_), none, none, none, none, none, none, none, none, none, none, none, none, none, none, none] [] (bg_O g) := by
  obtain ⟨i1, i2, i3, i4, i5, i6⟩ := hI
  have X1 : bg_X κ y cL_acts RL 7 1 64 := X.1
  have PZ98 : 198 ≤ bg_PZ := PZ_big
  have lh := sq_6 i4 hh
  obtain ⟨q, eq⟩ : ∃ q, q = sq Z.1 h := ⟨_, rfl⟩
  have qq : qH Z h = q := eq.symm
  have okq := (sq_OK i2.1 hh).1
  have hq3 : Z.1.2.2.2.1 h.toNat = q := eq.symm
  have row := i3.2.2.2.1 h.toNat
  rw [hq3] at row
  have i6' : lnS Z.1 = Z.1.2.2.2.2 1 - Z.1.2.2.2.2 2 - Z.1.2.2.2.2 3 + Z.1.2.2.2.2 4 := i6
  have a1 := i5 1 (by omega) (by omega)
  have a2 := i5 2 (by omega) (by omega)
  have a3 := i5 3 (by omega) (by omega)
  have a4 := i5 4 (by omega) (by omega)
  have c1 : g 198 14 = Z.1.2.2.2.2 1 := i3.2.2.2.2 1 (by omega) (by omega)
  have c2 : g 198 15 = Z.1.2.2.2.2 2 := i3.2.2.2.2 2 (by omega) (by omega)
  have c3 : g 198 16 = Z.1.2.2.2.2 3 := i3.2.2.2.2 3 (by omega) (by omega)
  have c4 : g 198 17 = Z.1.2.2.2.2 4 := i3.2.2.2.2 4 (by omega) (by omega)
  by_cases hc : n = 0
  · have ex : xSetThickness Z h 0 5 = (INV, Z) := by
      unfold xSetThickness
      rw [if_neg (fun h9 => by have := h9.2.2.2; rw [qq, eq] at this; omega)]
    refine bg_iload6 (pc := 460) X1 dL_acts_460 ?_
    refine bg_if_ne (pc := 462) X1 (tgt := 484) dL_acts_462 (by decide) (fun u462 => ?_) (fun u462 => ?_)
    · omega
    · refine bg_aload0 (pc := 465) X1 dL_acts_465 ?_
      refine bg_iload5 (pc := 466) X1 dL_acts_466 ?_
      refine bg_iconst (pc := 468) X1 dL_acts_468 (by decide) ?_
      refine bg_iconst (pc := 469) X1 dL_acts_469 (by decide) ?_
      refine bq_V3i (pc := 470) X1 (c_X6_setThickness (Z := Z) i1 i2) vX6_setThickness lL_57 rfl (by first | assumption | rfl) (by decide) dL_acts_470 (by exact Nat.le_of_ble_eq_true rfl) (by decide) ?_
      rintro _ g3 ⟨rfl, x3, f3⟩
      rw [ex] at x3 ⊢
      refine bg_ldc (pc := 473) X1 dL_acts_473 kL_56 (by decide) ?_
      refine bg_icmp_ne (pc := 475) X1 (tgt := 482) dL_acts_475 (by decide) (fun u475 => ?_) (fun u475 => ?_)
      · exact absurd rfl u475
      · refine bg_iconst (pc := 478) X1 dL_acts_478 (by decide) ?_
        refine bg_goto (pc := 479) X1 (tgt := 483) dL_acts_479 (by decide) ?_
        exact bq_zret (pc := 483) X rfl (by first | exact Or.inl rfl | exact Or.inr rfl | exact b2i_01 _) dL_acts_483 (⟨rfl, ⟨Z, x3, i2, i3.cg (f3 198 (by omega)) (f3 199 (by omega)), i4, i5.up hT.1, i6⟩, by rw [f3 _ (Or.inr PZ98)]; exact hPZ, by rw [f3 _ (Or.inr PZ98)]; omega⟩)
  · have hbed := hb.2 (by omega)
    have hbN : bed.toNat < q.length := by rw [eq]; omega
    rw [← eq] at okq lh hn
    have hthk := thOK okq hbN
    obtain ⟨t, et⟩ : ∃ t, t = 1 + v / 20 % 99 := ⟨_, rfl⟩
    have ht : 1 ≤ t ∧ t ≤ 99 := by omega
    have mt := set_mt (p := (mrk q bed.toNat, t)) hbN
    have ex : xSetThickness Z h bed t = (th q bed.toNat, xPut Z (sBook (sBook (sBed Z.1 h.toNat (q.set bed.toNat (mrk q bed.toNat, t))) 1 (max (t - th q bed.toNat) 0)) 2 (max (th q bed.toNat - t) 0))) := by
      unfold xSetThickness
      rw [qq, if_pos ⟨hh, ht, hb.1, by omega⟩]
    have eat : (at_ + 1).toNat = 12 * h.toNat + 2 * bed.toNat + 1 := by omega
    have old : g 199 (12 * h.toNat + 2 * bed.toNat + 1) = th q bed.toNat := (row bed.toNat (by omega) hbN).2
    have fin : ∀ (x w : Int), x = max (t - th q bed.toNat) 0 → w = max (th q bed.toNat - t) 0 → bg_G κ y (1, 64) 570 [some (.inr 0), some (.inr 198), some (.inr 199), some (.inl z), some (.inl v), some (.inl h), some (.inl n), some (.inl bed), some (.inl at_), none, none, none, none, none, none, none, some (.inl (th q bed.toNat)), none, none, none, none, none, none, none] [] (bg_O (bg_up (bg_up (bg_up g 199 (12 * h.toNat + 2 * bed.toNat + 1) t) 198 14 (Z.1.2.2.2.2 1 + x)) 198 15 (Z.1.2.2.2.2 2 + w))) := by
      intro x w hx hw
      have hlo : clsR (bg_up (bg_up (bg_up g 199 (12 * h.toNat + 2 * bed.toNat + 1) t) 198 14 (Z.1.2.2.2.2 1 + x)) 198 15 (Z.1.2.2.2.2 2 + w)) Z := i1.lo (fun x hx => by rw [bg_up_ne (by omega), bg_up_ne (by omega), bg_up_ne (by omega)])
      have A1 : bg_wr (Z.1.2.2.2.2 1 + max (t - th q bed.toNat) 0) = Z.1.2.2.2.2 1 + x := by rw [← hx]; exact bg_wr_id ⟨by omega, by omega⟩
      have A2 : bg_wr (Z.1.2.2.2.2 2 + max (th q bed.toNat - t) 0) = Z.1.2.2.2.2 2 + w := by rw [← hw]; exact bg_wr_id ⟨by omega, by omega⟩
      obtain ⟨A, eA⟩ : ∃ A : Nat → Int, A = fup (fup Z.1.2.2.2.2 1 (bg_wr (Z.1.2.2.2.2 1 + max (t - th q bed.toNat) 0))) 2 (bg_wr (fup Z.1.2.2.2.2 1 (bg_wr (Z.1.2.2.2.2 1 + max (t - th q bed.toNat) 0)) 2 + max (th q bed.toNat - t) 0)) := ⟨_, rfl⟩
      have B1 : A 1 = Z.1.2.2.2.2 1 + x := by rw [eA, fup_ne (by decide), fup_eq, A1]
      have B2 : A 2 = Z.1.2.2.2.2 2 + w := by rw [eA, fup_eq, fup_ne (by decide), A2]
      have B3 : A 3 = Z.1.2.2.2.2 3 := by rw [eA, fup_ne (by decide), fup_ne (by decide)]
      have B4 : A 4 = Z.1.2.2.2.2 4 := by rw [eA, fup_ne (by decide), fup_ne (by decide)]
      have eS : xPut Z (sBook (sBook (sBed Z.1 h.toNat (q.set bed.toNat (mrk q bed.toNat, t))) 1 (max (t - th q bed.toNat) 0)) 2 (max (th q bed.toNat - t) 0)) = xPut Z (Z.1.1, Z.1.2.1, Z.1.2.2.1, fup Z.1.2.2.2.1 h.toNat (q.set bed.toNat (mrk q bed.toNat, t)), A) := by rw [eA]; rfl
      refine bg_aload0 (pc := 570) X1 dL_acts_570 ?_
      refine bg_iload5 (pc := 571) X1 dL_acts_571 ?_
      refine bg_iload7 (pc := 573) X1 dL_acts_573 ?_
      refine bg_aload2 (pc := 575) X1 dL_acts_575 ?_
      refine bg_iload8 (pc := 576) X1 dL_acts_576 ?_
      refine bg_iconst (pc := 578) X1 dL_acts_578 (by decide) ?_
      refine bg_iadd (pc := 579) X1 dL_acts_579 (by omega) ?_
      refine bq_iaload (pc := 580) X1 dL_acts_580 (by first | assumption | rfl) (by omega) ?_
      rw [eat, up_a (by decide), up_a (by decide), up_eq]
      refine bq_V3i (pc := 581) X1 (c_X6_setThickness (Z := Z) hlo i2) vX6_setThickness lL_57 rfl (by first | assumption | rfl) (by decide) dL_acts_581 (by exact Nat.le_of_ble_eq_true rfl) (by decide) ?_
      rintro _ g3 ⟨rfl, x3, f3⟩
      have okn := ok_setThickness i2 (a := h) (b := bed) (t := t)
      rw [ex, eS] at okn
      rw [ex, eS] at x3
      rw [ex]
      refine bg_iload16 (pc := 584) X1 dL_acts_584 ?_
      refine bg_icmp_ne (pc := 586) X1 (tgt := 593) dL_acts_586 (by decide) (fun u586 => ?_) (fun u586 => ?_)
      · exact absurd rfl u586
      · refine bg_iconst (pc := 589) X1 dL_acts_589 (by decide) ?_
        refine bg_goto (pc := 590) X1 (tgt := 594) dL_acts_590 (by decide) ?_
        exact bq_zret (pc := 594) X rfl (by first | exact Or.inl rfl | exact Or.inr rfl | exact b2i_01 _) dL_acts_594 (by
            refine ⟨rfl, act_fin i4 i6 (h := h.toNat) (by omega) x3 okn ?_ (by rw [List.length_set]; exact lh) (fun a h1 h2 => ?_) ?_, ?_, ?_⟩
            · refine rwR.cg (g := bg_up (bg_up (bg_up g 199 (12 * h.toNat + 2 * bed.toNat + 1) t) 198 14 (Z.1.2.2.2.2 1 + x)) 198 15 (Z.1.2.2.2.2 2 + w)) ?_ (f3 198 (by omega)) (f3 199 (by omega))
              refine rwR.bed i3 i4 (fun k h1 h2 => ?_) (by omega) ?_ (fun k h1 => ?_) (fun k h1 => ?_) (fun a h1 h2 => ?_)
              · rw [up_k (by omega), up_k (by omega), bg_up_ne (by decide)]
              · rw [up_k (by omega), up_k (by omega), bg_up_ne (by decide), List.length_set, ← hq3]; exact (i3.2.2.1 h.toNat (by omega)).2
              · rw [bg_up_ne (by decide), bg_up_ne (by decide), up_k (by omega)]
              · rw [List.length_set] at h1
                have r := row k (by omega) h1
                rw [bg_up_ne (by decide), bg_up_ne (by decide), up_k (by omega), (mt k).1, (mt k).2]
                by_cases hk : k = bed.toNat
                · subst hk
                  rw [if_pos rfl, if_pos rfl, up_eq]; exact ⟨r.1, rfl⟩
                · rw [if_neg hk, if_neg hk, up_k (by omega)]; exact r
              · have hc4 : a = 1 ∨ a = 2 ∨ a = 3 ∨ a = 4 := by omega
                rcases hc4 with rfl | rfl | rfl | rfl
                · rw [B1, up_k (by decide), show 13 + 1 = 14 from rfl, up_eq]
                · rw [B2, show 13 + 2 = 15 from rfl, up_eq]
                · rw [B3, up_k (by decide), up_k (by decide), bg_up_ne (by decide)]; exact c3
                · rw [B4, up_k (by decide), up_k (by decide), bg_up_ne (by decide)]; exact c4
            · have hc4 : a = 1 ∨ a = 2 ∨ a = 3 ∨ a = 4 := by omega
              rcases hc4 with rfl | rfl | rfl | rfl
              · rw [B1]; omega
              · rw [B2]; omega
              · rw [B3]; omega
              · rw [B4]; omega
            · rw [B1, B2, B3, B4, hq3, tot_set hbN]
              show tot q - th q bed.toNat + t - tot q = _
              omega
            · rw [f3 _ (Or.inr PZ98), bg_up_ne PZ8, bg_up_ne PZ8, bg_up_ne PZ9]; exact hPZ
            · rw [f3 _ (Or.inr PZ98), bg_up_ne PZ8, bg_up_ne PZ8, bg_up_ne PZ9]; omega)
    have mid : ∀ (x : Int), x = max (t - th q bed.toNat) 0 → bg_G κ y (1, 64) 539 [some (.inr 0), some (.inr 198), some (.inr 199), some (.inl z), some (.inl v), some (.inl h), some (.inl n), some (.inl bed), some (.inl at_), none, none, none, none, none, none, none, some (.inl (th q bed.toNat)), none, none, none, none, none, none, none] [] (bg_O (bg_up (bg_up g 199 (12 * h.toNat + 2 * bed.toNat + 1) t) 198 14 (Z.1.2.2.2.2 1 + x))) := by
      intro x hx
      refine bg_aload1 (pc := 539) X1 dL_acts_539 ?_
      refine bg_bipush (pc := 540) X1 dL_acts_540 rfl (by decide) ?_
      refine bg_dup2 (pc := 542) X1 dL_acts_542 ?_
      refine bq_iaload (pc := 543) X1 dL_acts_543 (by first | assumption | rfl) (by omega) ?_
      rw [show (15 : Int).toNat = 15 from rfl, up_k (by decide), bg_up_ne (by decide), c2]
      refine bg_aload2 (pc := 544) X1 dL_acts_544 ?_
      refine bg_iload8 (pc := 545) X1 dL_acts_545 ?_
      refine bg_iconst (pc := 547) X1 dL_acts_547 (by decide) ?_
      refine bg_iadd (pc := 548) X1 dL_acts_548 (by omega) ?_
      refine bq_iaload (pc := 549) X1 dL_acts_549 (by first | assumption | rfl) (by omega) ?_
      rw [eat, up_a (by decide), up_eq]
      refine bg_iload16 (pc := 550) X1 dL_acts_550 ?_
      refine bg_icmp_ge (pc := 552) X1 (tgt := 567) dL_acts_552 (by decide) (fun u552 => ?_) (fun u552 => ?_)
      · refine bg_iconst (pc := 567) X1 dL_acts_567 (by decide) ?_
        refine bg_iadd (pc := 568) X1 dL_acts_568 (by omega) ?_
        refine bq_iastore (pc := 569) X1 dL_acts_569 (by first | assumption | rfl) (by omega) ?_
        exact fin _ _ hx (by omega)
      · refine bg_iload16 (pc := 555) X1 dL_acts_555 ?_
        refine bg_aload2 (pc := 557) X1 dL_acts_557 ?_
        refine bg_iload8 (pc := 558) X1 dL_acts_558 ?_
        refine bg_iconst (pc := 560) X1 dL_acts_560 (by decide) ?_
        refine bg_iadd (pc := 561) X1 dL_acts_561 (by omega) ?_
        refine bq_iaload (pc := 562) X1 dL_acts_562 (by first | assumption | rfl) (by omega) ?_
        rw [eat, up_a (by decide), up_eq]
        refine bg_isub (pc := 563) X1 dL_acts_563 (by omega) ?_
        refine bg_goto (pc := 564) X1 (tgt := 568) dL_acts_564 (by decide) ?_
        refine bg_iadd (pc := 568) X1 dL_acts_568 (by omega) ?_
        refine bq_iastore (pc := 569) X1 dL_acts_569 (by first | assumption | rfl) (by omega) ?_
        exact fin _ _ hx (by omega)
    refine bg_iload6 (pc := 460) X1 dL_acts_460 ?_
    refine bg_if_ne (pc := 462) X1 (tgt := 484) dL_acts_462 (by decide) (fun u462 => ?_) (fun u462 => ?_)
    · refine bg_aload2 (pc := 484) X1 dL_acts_484 ?_
      refine bg_iload8 (pc := 485) X1 dL_acts_485 ?_
      refine bg_iconst (pc := 487) X1 dL_acts_487 (by decide) ?_
      refine bg_iadd (pc := 488) X1 dL_acts_488 (by omega) ?_
      refine bq_iaload (pc := 489) X1 dL_acts_489 (by first | assumption | rfl) (by omega) ?_
      rw [eat, old]
      refine bg_istore16 (pc := 490) X1 dL_acts_490 ?_
      refine bg_aload2 (pc := 492) X1 dL_acts_492 ?_
      refine bg_iload8 (pc := 493) X1 dL_acts_493 ?_
      refine bg_iconst (pc := 495) X1 dL_acts_495 (by decide) ?_
      refine bg_iadd (pc := 496) X1 dL_acts_496 (by omega) ?_
      refine bg_iconst (pc := 497) X1 dL_acts_497 (by decide) ?_
      refine bg_iload4 (pc := 498) X1 dL_acts_498 ?_
      refine bg_bipush (pc := 500) X1 dL_acts_500 rfl (by decide) ?_
      refine bg_idiv (pc := 502) X1 dL_acts_502 (by omega) ?_
      refine bg_bipush (pc := 503) X1 dL_acts_503 rfl (by decide) ?_
      refine bg_irem (pc := 505) X1 dL_acts_505 (by omega) ?_
      refine bg_iadd (pc := 506) X1 dL_acts_506 (by omega) ?_
      rw [← et]
      refine bq_iastore (pc := 507) X1 dL_acts_507 (by first | assumption | rfl) (by omega) ?_
      rw [eat]
      refine bg_aload1 (pc := 508) X1 dL_acts_508 ?_
      refine bg_bipush (pc := 509) X1 dL_acts_509 rfl (by decide) ?_
      refine bg_dup2 (pc := 511) X1 dL_acts_511 ?_
      refine bq_iaload (pc := 512) X1 dL_acts_512 (by first | assumption | rfl) (by omega) ?_
      rw [show (14 : Int).toNat = 14 from rfl, bg_up_ne (by decide), c1]
      refine bg_aload2 (pc := 513) X1 dL_acts_513 ?_
      refine bg_iload8 (pc := 514) X1 dL_acts_514 ?_
      refine bg_iconst (pc := 516) X1 dL_acts_516 (by decide) ?_
      refine bg_iadd (pc := 517) X1 dL_acts_517 (by omega) ?_
      refine bq_iaload (pc := 518) X1 dL_acts_518 (by first | assumption | rfl) (by omega) ?_
      rw [eat, up_eq]
      refine bg_iload16 (pc := 519) X1 dL_acts_519 ?_
      refine bg_icmp_le (pc := 521) X1 (tgt := 536) dL_acts_521 (by decide) (fun u521 => ?_) (fun u521 => ?_)
      · refine bg_iconst (pc := 536) X1 dL_acts_536 (by decide) ?_
        refine bg_iadd (pc := 537) X1 dL_acts_537 (by omega) ?_
        refine bq_iastore (pc := 538) X1 dL_acts_538 (by first | assumption | rfl) (by omega) ?_
        exact mid _ (by omega)
      · refine bg_aload2 (pc := 524) X1 dL_acts_524 ?_
        refine bg_iload8 (pc := 525) X1 dL_acts_525 ?_
        refine bg_iconst (pc := 527) X1 dL_acts_527 (by decide) ?_
        refine bg_iadd (pc := 528) X1 dL_acts_528 (by omega) ?_
        refine bq_iaload (pc := 529) X1 dL_acts_529 (by first | assumption | rfl) (by omega) ?_
        rw [eat, up_eq]
        refine bg_iload16 (pc := 530) X1 dL_acts_530 ?_
        refine bg_isub (pc := 532) X1 dL_acts_532 (by omega) ?_
        refine bg_goto (pc := 533) X1 (tgt := 537) dL_acts_533 (by decide) ?_
        refine bg_iadd (pc := 537) X1 dL_acts_537 (by omega) ?_
        refine bq_iastore (pc := 538) X1 dL_acts_538 (by first | assumption | rfl) (by omega) ?_
        exact mid _ (by omega)
    · omega
theorem a_add {κ : bg_K} {y : bg_Y} {g : bg_E} {z v h n bed at_ T : Int} {Z : bm_X} (X : bg_Xm κ y mL_acts 7 1 64 (bg_pI (aP g T))) (hI : actI g Z T) (hT : 0 ≤ T ∧ T ≤ 1000000) (hPZ : 0 ≤ g bg_PZ 0) (hv : 0 ≤ v ∧ v < 10000000) (hh : isHo h) (hn : n = ((sq Z.1 h).length : Int)) (hb : 0 ≤ bed ∧ (0 < n → bed < n)) (hat : at_ = 12 * h + 2 * bed) : bg_G κ y (1, 64) 841 [some (.inr 0), some (.inr 198), some (.inr 199), some (.inl z), some (.inl v), some (.inl h), some (.inl n), some (.inl bed), some (.inl at_), none, none, none, none, none, none, none, none, none, none, none, none, none, none, none] [] (bg_O g) := by
  obtain ⟨i1, i2, i3, i4, i5, i6⟩ := hI
  have X1 : bg_X κ y cL_acts RL 7 1 64 := X.1
  have PZ98 : 198 ≤ bg_PZ := PZ_big
  have lh := sq_6 i4 hh
  obtain ⟨q, eq⟩ : ∃ q, q = sq Z.1 h := ⟨_, rfl⟩
  have qq : qH Z h = q := eq.symm
  have okq := (sq_OK i2.1 hh).1
  have hq3 : Z.1.2.2.2.1 h.toNat = q := eq.symm
  have row := i3.2.2.2.1 h.toNat
  rw [hq3] at row
  have i6' : lnS Z.1 = Z.1.2.2.2.2 1 - Z.1.2.2.2.2 2 - Z.1.2.2.2.2 3 + Z.1.2.2.2.2 4 := i6
  have a1 := i5 1 (by omega) (by omega)
  have a2 := i5 2 (by omega) (by omega)
  have a3 := i5 3 (by omega) (by omega)
  have a4 := i5 4 (by omega) (by omega)
  have c1 : g 198 14 = Z.1.2.2.2.2 1 := i3.2.2.2.2 1 (by omega) (by omega)
  have c2 : g 198 15 = Z.1.2.2.2.2 2 := i3.2.2.2.2 2 (by omega) (by omega)
  have c3 : g 198 16 = Z.1.2.2.2.2 3 := i3.2.2.2.2 3 (by omega) (by omega)
  have c4 : g 198 17 = Z.1.2.2.2.2 4 := i3.2.2.2.2 4 (by omega) (by omega)
  by_cases hc : n = 6
  · have ex : xAddBed Z h 0 26 5 = (INV, Z) := by
      unfold xAddBed
      rw [if_neg (fun h9 => by have := h9.1.2.1; omega)]
    refine bg_iload6 (pc := 841) X1 dL_acts_841 ?_
    refine bg_bipush (pc := 843) X1 dL_acts_843 rfl (by decide) ?_
    refine bg_icmp_ne (pc := 845) X1 (tgt := 869) dL_acts_845 (by decide) (fun u845 => ?_) (fun u845 => ?_)
    · omega
    · refine bg_aload0 (pc := 848) X1 dL_acts_848 ?_
      refine bg_iload5 (pc := 849) X1 dL_acts_849 ?_
      refine bg_iconst (pc := 851) X1 dL_acts_851 (by decide) ?_
      refine bg_bipush (pc := 852) X1 dL_acts_852 rfl (by decide) ?_
      refine bg_iconst (pc := 854) X1 dL_acts_854 (by decide) ?_
      refine bq_V4i (pc := 855) X1 (c_X6_addBed (Z := Z) i1) vX6_addBed lL_72 rfl (by first | assumption | rfl) (by decide) dL_acts_855 (by exact Nat.le_of_ble_eq_true rfl) (by decide) ?_
      rintro _ g3 ⟨rfl, x3, f3⟩
      rw [ex] at x3 ⊢
      refine bg_ldc (pc := 858) X1 dL_acts_858 kL_56 (by decide) ?_
      refine bg_icmp_ne (pc := 860) X1 (tgt := 867) dL_acts_860 (by decide) (fun u860 => ?_) (fun u860 => ?_)
      · exact absurd rfl u860
      · refine bg_iconst (pc := 863) X1 dL_acts_863 (by decide) ?_
        refine bg_goto (pc := 864) X1 (tgt := 868) dL_acts_864 (by decide) ?_
        exact bq_zret (pc := 868) X rfl (by first | exact Or.inl rfl | exact Or.inr rfl | exact b2i_01 _) dL_acts_868 (⟨rfl, ⟨Z, x3, i2, i3.cg (f3 198 (by omega)) (f3 199 (by omega)), i4, i5.up hT.1, i6⟩, by rw [f3 _ (Or.inr PZ98)]; exact hPZ, by rw [f3 _ (Or.inr PZ98)]; omega⟩)
  · rw [← eq] at okq lh hn
    obtain ⟨i, ei⟩ : ∃ i, i = v / 9 % (n + 1) := ⟨_, rfl⟩
    have hi : 0 ≤ i ∧ i ≤ n := by
      have h1 := Int.emod_nonneg (v / 9) (show n + 1 ≠ 0 by omega)
      have h2 := Int.emod_lt_of_pos (v / 9) (show 0 < n + 1 by omega)
      rw [← ei] at h1 h2
      omega
    have hiN : i.toNat ≤ q.length := by omega
    have eto : (12 * h + 2 * i).toNat = 12 * h.toNat + 2 * i.toNat := by omega
    have eto1 : (12 * h + 2 * i + 1).toNat = 12 * h.toNat + 2 * i.toNat + 1 := by omega
    have el : g 198 (10 + h).toNat = n := by rw [rw_len i3 hh, hn, eq]
    have fin : ∀ (g1 : bg_E) (k m t : Int), (0 ≤ m ∧ m ≤ 25) → (1 ≤ t ∧ t ≤ 99) → (∀ x, x ≠ 199 → g1 x = g x) → (∀ j : Nat, g1 199 j = if 12 * h + 2 * i + 1 < (j : Int) ∧ (j : Int) < 12 * h + 2 * n + 2 then g 199 (j - 2) else g 199 j) → bg_G κ y (1, 64) 977 [some (.inr 0), some (.inr 198), some (.inr 199), some (.inl z), some (.inl v), some (.inl h), some (.inl n), some (.inl bed), some (.inl at_), none, none, none, none, none, none, none, none, none, none, none, none, none, some (.inl (12 * h + 2 * i)), some (.inl k)] [] (bg_O (bg_up (bg_up g1 199 (12 * h.toNat + 2 * i.toNat) m) 199 (12 * h.toNat + 2 * i.toNat + 1) t)) := by
      intro g1 k m t hm ht hF h199
      have e198 : g1 198 = g 198 := hF 198 (by omega)
      have mt := ins_mt (p := (m, t)) hiN
      have il := insB_length (p := (m, t)) hiN
      have hlo : ∀ (a b : Nat) (u w : Int), clsR (bg_up (bg_up (bg_up (bg_up g1 199 (12 * h.toNat + 2 * i.toNat) m) 199 (12 * h.toNat + 2 * i.toNat + 1) t) 198 a u) 198 b w) Z := fun a b u w => i1.lo (fun x hx => by rw [bg_up_ne (by omega), bg_up_ne (by omega), bg_up_ne (by omega), bg_up_ne (by omega)]; exact hF x (by omega))
      have A1 : bg_wr (Z.1.2.2.2.2 1 + t) = Z.1.2.2.2.2 1 + t := bg_wr_id ⟨by omega, by omega⟩
      have ex : xAddBed Z h i m t = (n + 1, xPut Z (sBook (sBed Z.1 h.toNat (insB q i.toNat (m, t))) 1 t)) := by
        unfold xAddBed
        rw [qq, if_pos ⟨⟨hh, ⟨hm.1, by omega⟩, ht⟩, hi.1, by omega⟩, if_pos (by omega), hn]
      obtain ⟨A, eA⟩ : ∃ A : Nat → Int, A = fup Z.1.2.2.2.2 1 (bg_wr (Z.1.2.2.2.2 1 + t)) := ⟨_, rfl⟩
      have B1 : A 1 = Z.1.2.2.2.2 1 + t := by rw [eA, fup_eq, A1]
      have B2 : A 2 = Z.1.2.2.2.2 2 := by rw [eA, fup_ne (by decide)]
      have B3 : A 3 = Z.1.2.2.2.2 3 := by rw [eA, fup_ne (by decide)]
      have B4 : A 4 = Z.1.2.2.2.2 4 := by rw [eA, fup_ne (by decide)]
      have eS : xPut Z (sBook (sBed Z.1 h.toNat (insB q i.toNat (m, t))) 1 t) = xPut Z (Z.1.1, Z.1.2.1, Z.1.2.2.1, fup Z.1.2.2.2.1 h.toNat (insB q i.toNat (m, t)), A) := by rw [eA]; rfl
      refine bg_aload1 (pc := 977) X1 dL_acts_977 ?_
      refine bg_bipush (pc := 978) X1 dL_acts_978 rfl (by decide) ?_
      refine bg_iload5 (pc := 980) X1 dL_acts_980 ?_
      refine bg_iadd (pc := 982) X1 dL_acts_982 (by omega) ?_
      refine bg_dup2 (pc := 983) X1 dL_acts_983 ?_
      refine bq_iaload (pc := 984) X1 dL_acts_984 (by first | assumption | rfl) (by omega) ?_
      rw [bg_up_ne (by decide), bg_up_ne (by decide), e198, el]
      refine bg_iconst (pc := 985) X1 dL_acts_985 (by decide) ?_
      refine bg_iadd (pc := 986) X1 dL_acts_986 (by omega) ?_
      refine bq_iastore (pc := 987) X1 dL_acts_987 (by first | assumption | rfl) (by omega) ?_
      refine bg_aload1 (pc := 988) X1 dL_acts_988 ?_
      refine bg_bipush (pc := 989) X1 dL_acts_989 rfl (by decide) ?_
      refine bg_dup2 (pc := 991) X1 dL_acts_991 ?_
      refine bq_iaload (pc := 992) X1 dL_acts_992 (by first | assumption | rfl) (by omega) ?_
      rw [show (14 : Int).toNat = 14 from rfl, up_k (by omega), bg_up_ne (by decide), bg_up_ne (by decide), e198, c1]
      refine bg_aload2 (pc := 993) X1 dL_acts_993 ?_
      refine bg_iload22 (pc := 994) X1 dL_acts_994 ?_
      refine bg_iconst (pc := 996) X1 dL_acts_996 (by decide) ?_
      refine bg_iadd (pc := 997) X1 dL_acts_997 (by omega) ?_
      refine bq_iaload (pc := 998) X1 dL_acts_998 (by first | assumption | rfl) (by omega) ?_
      rw [eto1, up_a (by decide), up_eq]
      refine bg_iadd (pc := 999) X1 dL_acts_999 (by omega) ?_
      refine bq_iastore (pc := 1000) X1 dL_acts_1000 (by first | assumption | rfl) (by omega) ?_
      refine bg_aload0 (pc := 1001) X1 dL_acts_1001 ?_
      refine bg_iload5 (pc := 1002) X1 dL_acts_1002 ?_
      refine bg_iload4 (pc := 1004) X1 dL_acts_1004 ?_
      refine bg_bipush (pc := 1006) X1 dL_acts_1006 rfl (by decide) ?_
      refine bg_idiv (pc := 1008) X1 dL_acts_1008 (by omega) ?_
      refine bg_iload6 (pc := 1009) X1 dL_acts_1009 ?_
      refine bg_iconst (pc := 1011) X1 dL_acts_1011 (by decide) ?_
      refine bg_iadd (pc := 1012) X1 dL_acts_1012 (by omega) ?_
      refine bg_irem (pc := 1013) X1 dL_acts_1013 (by omega) ?_
      rw [← ei]
      refine bg_aload2 (pc := 1014) X1 dL_acts_1014 ?_
      refine bg_iload22 (pc := 1015) X1 dL_acts_1015 ?_
      refine bq_iaload (pc := 1017) X1 dL_acts_1017 (by first | assumption | rfl) (by omega) ?_
      rw [eto, up_a (by decide), up_a (by decide), up_k (by omega), up_eq]
      refine bg_aload2 (pc := 1018) X1 dL_acts_1018 ?_
      refine bg_iload22 (pc := 1019) X1 dL_acts_1019 ?_
      refine bg_iconst (pc := 1021) X1 dL_acts_1021 (by decide) ?_
      refine bg_iadd (pc := 1022) X1 dL_acts_1022 (by omega) ?_
      refine bq_iaload (pc := 1023) X1 dL_acts_1023 (by first | assumption | rfl) (by omega) ?_
      rw [eto1, up_a (by decide), up_a (by decide), up_eq]
      refine bq_V4i (pc := 1024) X1 (c_X6_addBed (Z := Z) (hlo _ _ _ _)) vX6_addBed lL_72 rfl (by first | assumption | rfl) (by decide) dL_acts_1024 (by exact Nat.le_of_ble_eq_true rfl) (by decide) ?_
      rintro _ g3 ⟨rfl, x3, f3⟩
      have okn := ok_addBed i2 (a := h) (i := i) (m := m) (t := t)
      rw [ex, eS] at okn
      rw [ex, eS] at x3
      rw [ex]
      refine bg_iload6 (pc := 1027) X1 dL_acts_1027 ?_
      refine bg_iconst (pc := 1029) X1 dL_acts_1029 (by decide) ?_
      refine bg_iadd (pc := 1030) X1 dL_acts_1030 (by omega) ?_
      refine bg_icmp_ne (pc := 1031) X1 (tgt := 1038) dL_acts_1031 (by decide) (fun u1031 => ?_) (fun u1031 => ?_)
      · exact absurd rfl u1031
      · refine bg_iconst (pc := 1034) X1 dL_acts_1034 (by decide) ?_
        refine bg_goto (pc := 1035) X1 (tgt := 1039) dL_acts_1035 (by decide) ?_
        exact bq_zret (pc := 1039) X rfl (by first | exact Or.inl rfl | exact Or.inr rfl | exact b2i_01 _) dL_acts_1039 (by
            refine ⟨rfl, act_fin i4 i6 (h := h.toNat) (by omega) x3 okn ?_ (by rw [il]; omega) (fun a h1 h2 => ?_) ?_, ?_, ?_⟩
            · refine rwR.cg (g := bg_up (bg_up (bg_up (bg_up g1 199 (12 * h.toNat + 2 * i.toNat) m) 199 (12 * h.toNat + 2 * i.toNat + 1) t) 198 (10 + h).toNat (n + 1)) 198 14 (Z.1.2.2.2.2 1 + t)) ?_ (f3 198 (by omega)) (f3 199 (by omega))
              refine rwR.bed i3 i4 (fun k h1 h2 => ?_) (by omega) ?_ (fun k h1 => ?_) (fun k h1 => ?_) (fun a h1 h2 => ?_)
              · rw [up_k (by omega), up_k (by omega), bg_up_ne (by decide), bg_up_ne (by decide), e198]
              · rw [up_k (by omega), show (10 + h).toNat = 10 + h.toNat by omega, up_eq, il]; omega
              · rw [bg_up_ne (by decide), bg_up_ne (by decide), up_k (by omega), up_k (by omega), h199, if_neg (by omega)]
              · rw [il] at h1
                rw [bg_up_ne (by decide), bg_up_ne (by decide)]
                rcases Nat.lt_trichotomy k i.toNat with hk | hk | hk
                · have r := row k (by omega) (by omega)
                  exact ⟨by rw [up_k (by omega), up_k (by omega), h199, if_neg (by omega), (mt k).1, if_pos hk]; exact r.1, by rw [up_k (by omega), up_k (by omega), h199, if_neg (by omega), (mt k).2, if_pos hk]; exact r.2⟩
                · exact ⟨by rw [(mt k).1, if_neg (by omega), if_pos hk, hk, up_k (by omega), up_eq], by rw [(mt k).2, if_neg (by omega), if_pos hk, hk, up_eq]⟩
                · have r := row (k - 1) (by omega) (by omega)
                  rw [show 12 * h.toNat + 2 * (k - 1) = 12 * h.toNat + 2 * k - 2 by omega, show 12 * h.toNat + 2 * k - 2 + 1 = 12 * h.toNat + 2 * k + 1 - 2 by omega] at r
                  exact ⟨by rw [up_k (by omega), up_k (by omega), h199, if_pos (by omega), (mt k).1, if_neg (by omega), if_neg (by omega)]; exact r.1, by rw [up_k (by omega), up_k (by omega), h199, if_pos (by omega), (mt k).2, if_neg (by omega), if_neg (by omega)]; exact r.2⟩
              · have hc4 : a = 1 ∨ a = 2 ∨ a = 3 ∨ a = 4 := by omega
                rcases hc4 with rfl | rfl | rfl | rfl
                · rw [B1, show 13 + 1 = 14 from rfl, up_eq]
                · rw [B2, up_k (by decide), up_k (by omega), bg_up_ne (by decide), bg_up_ne (by decide), e198]; exact c2
                · rw [B3, up_k (by decide), up_k (by omega), bg_up_ne (by decide), bg_up_ne (by decide), e198]; exact c3
                · rw [B4, up_k (by decide), up_k (by omega), bg_up_ne (by decide), bg_up_ne (by decide), e198]; exact c4
            · have hc4 : a = 1 ∨ a = 2 ∨ a = 3 ∨ a = 4 := by omega
              rcases hc4 with rfl | rfl | rfl | rfl
              · rw [B1]; omega
              · rw [B2]; omega
              · rw [B3]; omega
              · rw [B4]; omega
            · rw [B1, B2, B3, B4, hq3, tot_ins]
              show tot q + t - tot q = _
              omega
            · rw [f3 _ (Or.inr PZ98), bg_up_ne PZ8, bg_up_ne PZ8, bg_up_ne PZ9, bg_up_ne PZ9, hF _ PZ9]; exact hPZ
            · rw [f3 _ (Or.inr PZ98), bg_up_ne PZ8, bg_up_ne PZ8, bg_up_ne PZ9, bg_up_ne PZ9, hF _ PZ9]; omega)
    have mid : ∀ (g1 : bg_E) (k m : Int), (0 ≤ m ∧ m ≤ 25) → (∀ x, x ≠ 199 → g1 x = g x) → (∀ j : Nat, g1 199 j = if 12 * h + 2 * i + 1 < (j : Int) ∧ (j : Int) < 12 * h + 2 * n + 2 then g 199 (j - 2) else g 199 j) → bg_G κ y (1, 64) 949 [some (.inr 0), some (.inr 198), some (.inr 199), some (.inl z), some (.inl v), some (.inl h), some (.inl n), some (.inl bed), some (.inl at_), none, none, none, none, none, none, none, none, none, none, none, none, none, some (.inl (12 * h + 2 * i)), some (.inl k)] [] (bg_O (bg_up g1 199 (12 * h.toNat + 2 * i.toNat) m)) := by
      intro g1 k m hm hF h199
      refine bg_aload2 (pc := 949) X1 dL_acts_949 ?_
      refine bg_iload22 (pc := 950) X1 dL_acts_950 ?_
      refine bg_iconst (pc := 952) X1 dL_acts_952 (by decide) ?_
      refine bg_iadd (pc := 953) X1 dL_acts_953 (by omega) ?_
      refine bg_iconst (pc := 954) X1 dL_acts_954 (by decide) ?_
      refine bg_iload4 (pc := 955) X1 dL_acts_955 ?_
      refine bg_bipush (pc := 957) X1 dL_acts_957 rfl (by decide) ?_
      refine bg_idiv (pc := 959) X1 dL_acts_959 (by omega) ?_
      refine bg_iload4 (pc := 960) X1 dL_acts_960 ?_
      refine bg_iconst (pc := 962) X1 dL_acts_962 (by decide) ?_
      refine bg_irem (pc := 963) X1 dL_acts_963 (by omega) ?_
      refine bg_if_ne (pc := 964) X1 (tgt := 972) dL_acts_964 (by decide) (fun u964 => ?_) (fun u964 => ?_)
      · refine bg_bipush (pc := 972) X1 dL_acts_972 rfl (by decide) ?_
        refine bg_irem (pc := 974) X1 dL_acts_974 (by omega) ?_
        refine bg_iadd (pc := 975) X1 dL_acts_975 (by omega) ?_
        refine bq_iastore (pc := 976) X1 dL_acts_976 (by first | assumption | rfl) (by omega) ?_
        rw [eto1]
        exact fin g1 _ m _ hm (by omega) hF h199
      · refine bg_bipush (pc := 967) X1 dL_acts_967 rfl (by decide) ?_
        refine bg_goto (pc := 969) X1 (tgt := 974) dL_acts_969 (by decide) ?_
        refine bg_irem (pc := 974) X1 dL_acts_974 (by omega) ?_
        refine bg_iadd (pc := 975) X1 dL_acts_975 (by omega) ?_
        refine bq_iastore (pc := 976) X1 dL_acts_976 (by first | assumption | rfl) (by omega) ?_
        rw [eto1]
        exact fin g1 _ m _ hm (by omega) hF h199
    have aft : ∀ (g1 : bg_E) (k : Int), (∀ x, x ≠ 199 → g1 x = g x) → (∀ j : Nat, g1 199 j = if 12 * h + 2 * i + 1 < (j : Int) ∧ (j : Int) < 12 * h + 2 * n + 2 then g 199 (j - 2) else g 199 j) → bg_G κ y (1, 64) 926 [some (.inr 0), some (.inr 198), some (.inr 199), some (.inl z), some (.inl v), some (.inl h), some (.inl n), some (.inl bed), some (.inl at_), none, none, none, none, none, none, none, none, none, none, none, none, none, some (.inl (12 * h + 2 * i)), some (.inl k)] [] (bg_O g1) := by
      intro g1 k hF h199
      refine bg_aload2 (pc := 926) X1 dL_acts_926 ?_
      refine bg_iload22 (pc := 927) X1 dL_acts_927 ?_
      refine bg_iload4 (pc := 929) X1 dL_acts_929 ?_
      refine bg_bipush (pc := 931) X1 dL_acts_931 rfl (by decide) ?_
      refine bg_idiv (pc := 933) X1 dL_acts_933 (by omega) ?_
      refine bg_iload4 (pc := 934) X1 dL_acts_934 ?_
      refine bg_iconst (pc := 936) X1 dL_acts_936 (by decide) ?_
      refine bg_irem (pc := 937) X1 dL_acts_937 (by omega) ?_
      refine bg_if_ne (pc := 938) X1 (tgt := 946) dL_acts_938 (by decide) (fun u938 => ?_) (fun u938 => ?_)
      · refine bg_iconst (pc := 946) X1 dL_acts_946 (by decide) ?_
        refine bg_irem (pc := 947) X1 dL_acts_947 (by omega) ?_
        refine bq_iastore (pc := 948) X1 dL_acts_948 (by first | assumption | rfl) (by omega) ?_
        rw [eto]
        exact mid g1 _ _ (by omega) hF h199
      · refine bg_bipush (pc := 941) X1 dL_acts_941 rfl (by decide) ?_
        refine bg_goto (pc := 943) X1 (tgt := 947) dL_acts_943 (by decide) ?_
        refine bg_irem (pc := 947) X1 dL_acts_947 (by omega) ?_
        refine bq_iastore (pc := 948) X1 dL_acts_948 (by first | assumption | rfl) (by omega) ?_
        rw [eto]
        exact mid g1 _ _ (by omega) hF h199
    have loop : ∀ (r : Nat) (k : Int) (g1 : bg_E), k + 1 = 12 * h + 2 * i + r → k + 2 < 12 * h + 2 * n + 2 → (∀ x, x ≠ 199 → g1 x = g x) → (∀ j : Nat, g1 199 j = if k + 2 < (j : Int) ∧ (j : Int) < 12 * h + 2 * n + 2 then g 199 (j - 2) else g 199 j) → bg_G κ y (1, 64) 903 [some (.inr 0), some (.inr 198), some (.inr 199), some (.inl z), some (.inl v), some (.inl h), some (.inl n), some (.inl bed), some (.inl at_), none, none, none, none, none, none, none, none, none, none, none, none, none, some (.inl (12 * h + 2 * i)), some (.inl k)] [] (bg_O g1) := by
      intro r
      induction r with
      | zero =>
        intro k g1 hk hk2 hF h199
        refine bg_iload23 (pc := 903) X1 dL_acts_903 ?_
        refine bg_iload22 (pc := 905) X1 dL_acts_905 ?_
        refine bg_icmp_lt (pc := 907) X1 (tgt := 926) dL_acts_907 (by decide) (fun u907 => ?_) (fun u907 => ?_)
        · exact aft g1 _ hF (fun j => by rw [h199, show k + 2 = 12 * h + 2 * i + 1 by omega])
        · exfalso; omega
      | succ r ih =>
        intro k g1 hk hk2 hF h199
        refine bg_iload23 (pc := 903) X1 dL_acts_903 ?_
        refine bg_iload22 (pc := 905) X1 dL_acts_905 ?_
        refine bg_icmp_lt (pc := 907) X1 (tgt := 926) dL_acts_907 (by decide) (fun u907 => ?_) (fun u907 => ?_)
        · exfalso; omega
        · refine bg_aload2 (pc := 910) X1 dL_acts_910 ?_
          refine bg_iload23 (pc := 911) X1 dL_acts_911 ?_
          refine bg_iconst (pc := 913) X1 dL_acts_913 (by decide) ?_
          refine bg_iadd (pc := 914) X1 dL_acts_914 (by omega) ?_
          refine bg_aload2 (pc := 915) X1 dL_acts_915 ?_
          refine bg_iload23 (pc := 916) X1 dL_acts_916 ?_
          refine bq_iaload (pc := 918) X1 dL_acts_918 (by first | assumption | rfl) (by omega) ?_
          refine bq_iastore (pc := 919) X1 dL_acts_919 (by first | assumption | rfl) (by omega) ?_
          rw [show (k + 2).toNat = k.toNat + 2 by omega]
          refine bg_iinc23 (pc := 920) X1 dL_acts_920 (by omega) ?_
          refine bg_goto (pc := 923) X1 (tgt := 903) dL_acts_923 (by decide) ?_
          refine ih (k + -1) _ (by omega) (by omega) (fun x hx => by rw [bg_up_ne hx]; exact hF x hx) (fun j => ?_)
          by_cases hj : j = k.toNat + 2
          · subst hj
            rw [up_eq, h199, if_neg (by omega), if_pos (by omega), Nat.add_sub_cancel]
          · rw [up_k hj, h199]
            by_cases h7 : k + 2 < (j : Int) ∧ (j : Int) < 12 * h + 2 * n + 2
            · rw [if_pos h7, if_pos (by omega)]
            · rw [if_neg h7, if_neg (by omega)]
    refine bg_iload6 (pc := 841) X1 dL_acts_841 ?_
    refine bg_bipush (pc := 843) X1 dL_acts_843 rfl (by decide) ?_
    refine bg_icmp_ne (pc := 845) X1 (tgt := 869) dL_acts_845 (by decide) (fun u845 => ?_) (fun u845 => ?_)
    · refine bg_bipush (pc := 869) X1 dL_acts_869 rfl (by decide) ?_
      refine bg_iload5 (pc := 871) X1 dL_acts_871 ?_
      refine bg_imul (pc := 873) X1 dL_acts_873 (by omega) ?_
      refine bg_iconst (pc := 874) X1 dL_acts_874 (by decide) ?_
      refine bg_iload4 (pc := 875) X1 dL_acts_875 ?_
      refine bg_bipush (pc := 877) X1 dL_acts_877 rfl (by decide) ?_
      refine bg_idiv (pc := 879) X1 dL_acts_879 (by omega) ?_
      refine bg_iload6 (pc := 880) X1 dL_acts_880 ?_
      refine bg_iconst (pc := 882) X1 dL_acts_882 (by decide) ?_
      refine bg_iadd (pc := 883) X1 dL_acts_883 (by omega) ?_
      refine bg_irem (pc := 884) X1 dL_acts_884 (by omega) ?_
      rw [← ei]
      refine bg_imul (pc := 885) X1 dL_acts_885 (by omega) ?_
      refine bg_iadd (pc := 886) X1 dL_acts_886 (by omega) ?_
      refine bg_istore22 (pc := 887) X1 dL_acts_887 ?_
      refine bg_bipush (pc := 889) X1 dL_acts_889 rfl (by decide) ?_
      refine bg_iload5 (pc := 891) X1 dL_acts_891 ?_
      refine bg_imul (pc := 893) X1 dL_acts_893 (by omega) ?_
      refine bg_iconst (pc := 894) X1 dL_acts_894 (by decide) ?_
      refine bg_iload6 (pc := 895) X1 dL_acts_895 ?_
      refine bg_imul (pc := 897) X1 dL_acts_897 (by omega) ?_
      refine bg_iadd (pc := 898) X1 dL_acts_898 (by omega) ?_
      refine bg_iconst (pc := 899) X1 dL_acts_899 (by decide) ?_
      refine bg_isub (pc := 900) X1 dL_acts_900 (by omega) ?_
      refine bg_istore23 (pc := 901) X1 dL_acts_901 ?_
      exact loop (2 * (n - i)).toNat _ g (by omega) (by omega) (fun _ _ => rfl) (fun j => by rw [if_neg (by omega)])
    · omega
