/-! the law: what it does to beds -/
theorem set_mt {q : bm_Q} {i : Nat} {p : Int × Int} (h : i < q.length) (k : Nat) : mrk (q.set i p) k = (if k = i then p.1 else mrk q k) ∧ th (q.set i p) k = (if k = i then p.2 else th q k) := by
  unfold mrk th
  rw [set_get h k]
  split <;> exact ⟨rfl, rfl⟩
theorem del_mt {q : bm_Q} {i : Nat} (h : i < q.length) (k : Nat) : mrk (delB q i) k = (if k < i then mrk q k else mrk q (k + 1)) ∧ th (delB q i) k = (if k < i then th q k else th q (k + 1)) := by
  unfold mrk th
  rw [delB_get h k]
  split <;> exact ⟨rfl, rfl⟩
theorem ins_mt {q : bm_Q} {i : Nat} {p : Int × Int} (h : i ≤ q.length) (k : Nat) : mrk (insB q i p) k = (if k < i then mrk q k else if k = i then p.1 else mrk q (k - 1)) ∧ th (insB q i p) k = (if k < i then th q k else if k = i then p.2 else th q (k - 1)) := by
  unfold mrk th
  rw [insB_get h k]
  split
  · exact ⟨rfl, rfl⟩
  · split <;> exact ⟨rfl, rfl⟩
theorem a_rem {κ : bg_K} {y : bg_Y} {g : bg_E} {z v h n bed at_ T : Int} {Z : bm_X} (X : bg_Xm κ y mL_acts 7 1 64 (bg_pI (aP g T))) (hI : actI g Z T) (hT : 0 ≤ T ∧ T ≤ 1000000) (hPZ : 0 ≤ g bg_PZ 0) (hv : 0 ≤ v ∧ v < 10000000) (hh : isHo h) (hn : n = ((sq Z.1 h).length : Int)) (hb : 0 ≤ bed ∧ (0 < n → bed < n)) (hat : at_ = 12 * h + 2 * bed) : bg_G κ y (1, 64) 349 [some (.inr 0), some (.inr 198), some (.inr 199), some (.inl z), some (.inl v), some (.inl h), some (.inl n), some (.inl bed), some (.inl at_), none, none, none, none, none, none, none, none, none, none, none, none, none, none, none] [] (bg_O g) := by
  obtain ⟨i1, i2, i3, i4, i5, i6⟩ := hI
  have X1 : bg_X κ y cL_acts RL 7 1 64 := X.1
  have PZ98 : 198 ≤ bg_PZ := PZ_big
  have lh := sq_6 i4 hh
  obtain ⟨q, eq⟩ : ∃ q, q = sq Z.1 h := ⟨_, rfl⟩
  have qq : qH Z h = q := eq.symm
  by_cases hc : n = 0 ∨ 0 < v % 3
  · have ex : xRemoveBed Z h n = (INV, Z) := by
      unfold xRemoveBed
      rw [if_neg (fun h9 => by have := h9.2.2; rw [qq, eq] at this; omega)]
    have tl : bg_G κ y (1, 64) 361 [some (.inr 0), some (.inr 198), some (.inr 199), some (.inl z), some (.inl v), some (.inl h), some (.inl n), some (.inl bed), some (.inl at_), none, none, none, none, none, none, none, none, none, none, none, none, none, none, none] [] (bg_O g) := by
      refine bg_aload0 (pc := 361) X1 dL_acts_361 ?_
      refine bg_iload5 (pc := 362) X1 dL_acts_362 ?_
      refine bg_iload6 (pc := 364) X1 dL_acts_364 ?_
      refine bq_V2i (pc := 366) X1 (c_X6_removeBed (Z := Z) i1) vX6_removeBed lL_53 rfl (by first | assumption | rfl) (by decide) dL_acts_366 (by exact Nat.le_of_ble_eq_true rfl) (by decide) ?_
      rintro _ g3 ⟨rfl, x3, f3⟩
      rw [ex] at x3 ⊢
      refine bg_ldc (pc := 369) X1 dL_acts_369 kL_56 (by decide) ?_
      refine bg_icmp_ne (pc := 371) X1 (tgt := 378) dL_acts_371 (by decide) (fun u371 => ?_) (fun u371 => ?_)
      · exact absurd rfl u371
      · refine bg_iconst (pc := 374) X1 dL_acts_374 (by decide) ?_
        refine bg_goto (pc := 375) X1 (tgt := 379) dL_acts_375 (by decide) ?_
        exact bq_zret (pc := 379) X rfl (by first | exact Or.inl rfl | exact Or.inr rfl | exact b2i_01 _) dL_acts_379 (⟨rfl, ⟨Z, x3, i2, i3.cg (f3 198 (by omega)) (f3 199 (by omega)), i4, i5.up hT.1, i6⟩, by rw [f3 _ (Or.inr PZ98)]; exact hPZ, by rw [f3 _ (Or.inr PZ98)]; omega⟩)
    refine bg_iload6 (pc := 349) X1 dL_acts_349 ?_
    refine bg_if_eq (pc := 351) X1 (tgt := 361) dL_acts_351 (by decide) (fun u351 => ?_) (fun u351 => ?_)
    · exact tl
    · refine bg_iload4 (pc := 354) X1 dL_acts_354 ?_
      refine bg_iconst (pc := 356) X1 dL_acts_356 (by decide) ?_
      refine bg_irem (pc := 357) X1 dL_acts_357 (by omega) ?_
      refine bg_if_le (pc := 358) X1 (tgt := 380) dL_acts_358 (by decide) (fun u358 => ?_) (fun u358 => ?_)
      · exfalso; omega
      · exact tl
  · have hbed := hb.2 (by omega)
    have hbN : bed.toNat < q.length := by rw [eq]; omega
    have okq := (sq_OK i2.1 hh).1
    rw [← eq] at okq lh hn
    have hthk := thOK okq hbN
    have mt := del_mt hbN
    have dl := delB_length hbN
    have row := i3.2.2.2.1 h.toNat
    have hq3 : Z.1.2.2.2.1 h.toNat = q := eq.symm
    rw [hq3] at row
    have ex : xRemoveBed Z h bed = (th q bed.toNat, xPut Z (sBook (sBed Z.1 h.toNat (delB q bed.toNat)) 2 (th q bed.toNat))) := by
      unfold xRemoveBed
      rw [qq, if_pos ⟨hh, hb.1, by omega⟩]
    have a2 := i5 2 (by omega) (by omega)
    have fin : ∀ (g1 : bg_E) (k : Int), (∀ x, x ≠ 199 → g1 x = g x) → (∀ j : Nat, g1 199 j = if at_ ≤ (j : Int) ∧ (j : Int) < 12 * h + 10 then g 199 (j + 2) else g 199 j) → bg_G κ y (1, 64) 421 [some (.inr 0), some (.inr 198), some (.inr 199), some (.inl z), some (.inl v), some (.inl h), some (.inl n), some (.inl bed), some (.inl at_), none, none, none, none, none, none, some (.inl (th q bed.toNat)), some (.inl k), none, none, none, none, none, none, none] [] (bg_O g1) := by
      intro g1 k hF h199
      have hS1 : rwR g1 Z.1 → True := fun _ => trivial
      have e198 : g1 198 = g 198 := hF 198 (by omega)
      have el : g1 198 (10 + h).toNat = n := by rw [e198, rw_len i3 hh, hn, eq]
      have e15 : g1 198 (15 : Int).toNat = Z.1.2.2.2.2 2 := by rw [e198]; exact i3.2.2.2.2 2 (by omega) (by omega)
      have hlo : ∀ (a b : Nat) (u w : Int), clsR (bg_up (bg_up g1 198 a u) 198 b w) Z := fun a b u w => i1.lo (fun x hx => by rw [bg_up_ne (by omega), bg_up_ne (by omega)]; exact hF x (by omega))
      refine bg_aload1 (pc := 421) X1 dL_acts_421 ?_
      refine bg_bipush (pc := 422) X1 dL_acts_422 rfl (by decide) ?_
      refine bg_iload5 (pc := 424) X1 dL_acts_424 ?_
      refine bg_iadd (pc := 426) X1 dL_acts_426 (by omega) ?_
      refine bg_dup2 (pc := 427) X1 dL_acts_427 ?_
      refine bq_iaload (pc := 428) X1 dL_acts_428 (by first | assumption | rfl) (by omega) ?_
      rw [el]
      refine bg_iconst (pc := 429) X1 dL_acts_429 (by decide) ?_
      refine bg_isub (pc := 430) X1 dL_acts_430 (by omega) ?_
      refine bq_iastore (pc := 431) X1 dL_acts_431 (by first | assumption | rfl) (by omega) ?_
      refine bg_aload1 (pc := 432) X1 dL_acts_432 ?_
      refine bg_bipush (pc := 433) X1 dL_acts_433 rfl (by decide) ?_
      refine bg_dup2 (pc := 435) X1 dL_acts_435 ?_
      refine bq_iaload (pc := 436) X1 dL_acts_436 (by first | assumption | rfl) (by omega) ?_
      rw [up_k (show (15 : Int).toNat ≠ (10 + h).toNat by omega), e15]
      refine bg_iload15 (pc := 437) X1 dL_acts_437 ?_
      refine bg_iadd (pc := 439) X1 dL_acts_439 (by omega) ?_
      refine bq_iastore (pc := 440) X1 dL_acts_440 (by first | assumption | rfl) (by omega) ?_
      refine bg_aload0 (pc := 441) X1 dL_acts_441 ?_
      refine bg_iload5 (pc := 442) X1 dL_acts_442 ?_
      refine bg_iload7 (pc := 444) X1 dL_acts_444 ?_
      refine bq_V2i (pc := 446) X1 (c_X6_removeBed (Z := Z) (hlo _ _ _ _)) vX6_removeBed lL_53 rfl (by first | assumption | rfl) (by decide) dL_acts_446 (by exact Nat.le_of_ble_eq_true rfl) (by decide) ?_
      rintro _ g3 ⟨rfl, x3, f3⟩
      rw [ex] at x3 ⊢
      refine bg_iload15 (pc := 449) X1 dL_acts_449 ?_
      refine bg_icmp_ne (pc := 451) X1 (tgt := 458) dL_acts_451 (by decide) (fun u451 => ?_) (fun u451 => ?_)
      · exact absurd rfl u451
      · refine bg_iconst (pc := 454) X1 dL_acts_454 (by decide) ?_
        refine bg_goto (pc := 455) X1 (tgt := 459) dL_acts_455 (by decide) ?_
        exact bq_zret (pc := 459) X rfl (by first | exact Or.inl rfl | exact Or.inr rfl | exact b2i_01 _) dL_acts_459 (by
            have A2 : bg_wr (Z.1.2.2.2.2 2 + th q bed.toNat) = Z.1.2.2.2.2 2 + th q bed.toNat := bg_wr_id ⟨by omega, by omega⟩
            refine ⟨rfl, ⟨_, x3, ?_, ?_, ?_, ?_, ?_⟩, ?_, ?_⟩
            · have := ok_removeBed i2 (a := h) (b := bed)
              rw [ex] at this
              exact this
            · refine rwR.cg (g := bg_up (bg_up g1 198 (10 + h).toNat (n - 1)) 198 (15 : Int).toNat (Z.1.2.2.2.2 2 + th q bed.toNat)) ?_ (f3 198 (by omega)) (f3 199 (by omega))
              refine rwR.bed (h := h.toNat) (q := delB q bed.toNat) (A := fup Z.1.2.2.2.2 2 (bg_wr (Z.1.2.2.2.2 2 + th q bed.toNat))) i3 i4 (fun k h1 h2 => ?_) (by omega) ?_ (fun k h1 => ?_) (fun k h1 => ?_) (fun a h1 h2 => ?_)
              · rw [up_k (by omega), up_k (by omega), e198]
              · rw [up_k (by omega), show (10 + h).toNat = 10 + h.toNat by omega, up_eq, dl]; omega
              · rw [bg_up_ne (by omega), bg_up_ne (by omega), h199, if_neg (by omega)]
              · rw [dl] at h1
                rw [bg_up_ne (by omega), bg_up_ne (by omega)]
                by_cases hk : k < bed.toNat
                · have r := row k (by omega) (by omega)
                  exact ⟨by rw [h199, if_neg (by omega), (mt k).1, if_pos hk]; exact r.1, by rw [h199, if_neg (by omega), (mt k).2, if_pos hk]; exact r.2⟩
                · have r := row (k + 1) (by omega) (by omega)
                  rw [show 12 * h.toNat + 2 * (k + 1) = 12 * h.toNat + 2 * k + 2 by omega, show 12 * h.toNat + 2 * k + 2 + 1 = 12 * h.toNat + 2 * k + 1 + 2 by omega] at r
                  exact ⟨by rw [h199, if_pos (by omega), (mt k).1, if_neg hk]; exact r.1, by rw [h199, if_pos (by omega), (mt k).2, if_neg hk]; exact r.2⟩
              · by_cases ha : a = 2
                · subst ha; rw [show (15 : Int).toNat = 13 + 2 from rfl, up_eq, fup_eq, A2]
                · rw [up_k (by omega), up_k (by omega), e198, fup_ne ha]; exact i3.2.2.2.2 a h1 h2
            · exact len6_bed i4 (by rw [dl]; omega)
            · intro a h1 h2
              show 0 ≤ fup Z.1.2.2.2.2 2 (bg_wr (Z.1.2.2.2.2 2 + th q bed.toNat)) a ∧ fup Z.1.2.2.2.2 2 (bg_wr (Z.1.2.2.2.2 2 + th q bed.toNat)) a ≤ T + 600
              have ia := i5 a h1 h2
              by_cases ha : a = 2
              · subst ha; rw [fup_eq, A2]; omega
              · rw [fup_ne ha]; omega
            · show lnS (Z.1.1, Z.1.2.1, Z.1.2.2.1, fup Z.1.2.2.2.1 h.toNat (delB q bed.toNat), fup Z.1.2.2.2.2 2 (bg_wr (Z.1.2.2.2.2 2 + th q bed.toNat))) = fup Z.1.2.2.2.2 2 (bg_wr (Z.1.2.2.2.2 2 + th q bed.toNat)) 1 - fup Z.1.2.2.2.2 2 (bg_wr (Z.1.2.2.2.2 2 + th q bed.toNat)) 2 - fup Z.1.2.2.2.2 2 (bg_wr (Z.1.2.2.2.2 2 + th q bed.toNat)) 3 + fup Z.1.2.2.2.2 2 (bg_wr (Z.1.2.2.2.2 2 + th q bed.toNat)) 4
              have i6' : lnS Z.1 = Z.1.2.2.2.2 1 - Z.1.2.2.2.2 2 - Z.1.2.2.2.2 3 + Z.1.2.2.2.2 4 := i6
              rw [lnS_bed (by omega), hq3, tot_del hbN, fup_ne (by decide), fup_eq, fup_ne (by decide), fup_ne (by decide), A2, i6']
              omega
            · rw [f3 _ (Or.inr PZ98), bg_up_ne PZ8, bg_up_ne PZ8, hF _ PZ9]; exact hPZ
            · rw [f3 _ (Or.inr PZ98), bg_up_ne PZ8, bg_up_ne PZ8, hF _ PZ9]; omega)
    have loop : ∀ (r : Nat) (k : Int) (g1 : bg_E), k + r = 12 * h + 10 → at_ ≤ k → (∀ x, x ≠ 199 → g1 x = g x) → (∀ j : Nat, g1 199 j = if at_ ≤ (j : Int) ∧ (j : Int) < k then g 199 (j + 2) else g 199 j) → bg_G κ y (1, 64) 392 [some (.inr 0), some (.inr 198), some (.inr 199), some (.inl z), some (.inl v), some (.inl h), some (.inl n), some (.inl bed), some (.inl at_), none, none, none, none, none, none, some (.inl (th q bed.toNat)), some (.inl k), none, none, none, none, none, none, none] [] (bg_O g1) := by
      intro r
      induction r with
      | zero =>
        intro k g1 hk hk2 hF h199
        obtain rfl : k = 12 * h + 10 := by omega
        refine bg_iload16 (pc := 392) X1 dL_acts_392 ?_
        refine bg_bipush (pc := 394) X1 dL_acts_394 rfl (by decide) ?_
        refine bg_iload5 (pc := 396) X1 dL_acts_396 ?_
        refine bg_imul (pc := 398) X1 dL_acts_398 (by omega) ?_
        refine bg_bipush (pc := 399) X1 dL_acts_399 rfl (by decide) ?_
        refine bg_iadd (pc := 401) X1 dL_acts_401 (by omega) ?_
        refine bg_icmp_ge (pc := 402) X1 (tgt := 421) dL_acts_402 (by decide) (fun u402 => ?_) (fun u402 => ?_)
        · exact fin g1 _ hF h199
        · exfalso; omega
      | succ r ih =>
        intro k g1 hk hk2 hF h199
        refine bg_iload16 (pc := 392) X1 dL_acts_392 ?_
        refine bg_bipush (pc := 394) X1 dL_acts_394 rfl (by decide) ?_
        refine bg_iload5 (pc := 396) X1 dL_acts_396 ?_
        refine bg_imul (pc := 398) X1 dL_acts_398 (by omega) ?_
        refine bg_bipush (pc := 399) X1 dL_acts_399 rfl (by decide) ?_
        refine bg_iadd (pc := 401) X1 dL_acts_401 (by omega) ?_
        refine bg_icmp_ge (pc := 402) X1 (tgt := 421) dL_acts_402 (by decide) (fun u402 => ?_) (fun u402 => ?_)
        · exfalso; omega
        · refine bg_aload2 (pc := 405) X1 dL_acts_405 ?_
          refine bg_iload16 (pc := 406) X1 dL_acts_406 ?_
          refine bg_aload2 (pc := 408) X1 dL_acts_408 ?_
          refine bg_iload16 (pc := 409) X1 dL_acts_409 ?_
          refine bg_iconst (pc := 411) X1 dL_acts_411 (by decide) ?_
          refine bg_iadd (pc := 412) X1 dL_acts_412 (by omega) ?_
          refine bq_iaload (pc := 413) X1 dL_acts_413 (by first | assumption | rfl) (by omega) ?_
          refine bq_iastore (pc := 414) X1 dL_acts_414 (by first | assumption | rfl) (by omega) ?_
          rw [show (k + 2).toNat = k.toNat + 2 by omega]
          refine bg_iinc16 (pc := 415) X1 dL_acts_415 (by omega) ?_
          refine bg_goto (pc := 418) X1 (tgt := 392) dL_acts_418 (by decide) ?_
          refine ih (k + 1) _ (by omega) (by omega) (fun x hx => by rw [bg_up_ne hx]; exact hF x hx) (fun j => ?_)
          by_cases hj : j = k.toNat
          · subst hj
            rw [up_eq, h199, if_neg (by omega), if_pos (by omega)]
          · rw [up_k hj, h199]
            by_cases h7 : at_ ≤ (j : Int) ∧ (j : Int) < k
            · rw [if_pos h7, if_pos (by omega)]
            · rw [if_neg h7, if_neg (by omega)]
    refine bg_iload6 (pc := 349) X1 dL_acts_349 ?_
    refine bg_if_eq (pc := 351) X1 (tgt := 361) dL_acts_351 (by decide) (fun u351 => ?_) (fun u351 => ?_)
    · omega
    · refine bg_iload4 (pc := 354) X1 dL_acts_354 ?_
      refine bg_iconst (pc := 356) X1 dL_acts_356 (by decide) ?_
      refine bg_irem (pc := 357) X1 dL_acts_357 (by omega) ?_
      refine bg_if_le (pc := 358) X1 (tgt := 380) dL_acts_358 (by decide) (fun u358 => ?_) (fun u358 => ?_)
      · refine bg_aload2 (pc := 380) X1 dL_acts_380 ?_
        refine bg_iload8 (pc := 381) X1 dL_acts_381 ?_
        refine bg_iconst (pc := 383) X1 dL_acts_383 (by decide) ?_
        refine bg_iadd (pc := 384) X1 dL_acts_384 (by omega) ?_
        refine bq_iaload (pc := 385) X1 dL_acts_385 (by first | assumption | rfl) (by omega) ?_
        rw [show (at_ + 1).toNat = (12 * h + 2 * bed + 1).toNat by rw [hat], rw_th i3 hh ⟨hb.1, by rw [← eq]; omega⟩, ← eq]
        refine bg_istore15 (pc := 386) X1 dL_acts_386 ?_
        refine bg_iload8 (pc := 388) X1 dL_acts_388 ?_
        refine bg_istore16 (pc := 390) X1 dL_acts_390 ?_
        exact loop (12 * h + 10 - at_).toNat _ g (by omega) (by omega) (fun _ _ => rfl) (fun j => by rw [if_neg (by omega)])
      · omega
