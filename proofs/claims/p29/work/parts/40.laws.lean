/-! the law: what the class shows of its state -/
theorem bq_S7m {κ : bg_K} {y : bg_Y} {cs : Nat × Nat} {cc : ByteArray} {own : String} {dd mcc mss pc : Nat} {ls : List (Option bg_V)} {st : List bg_V} {g : bg_E} (X : bg_X κ y cc own dd mcc mss) {d mc ms idx m : Nat} {μ : bg_P} {x1 x2 x3 x4 x5 x6 x7 : bg_V} {P : Int → bg_E → Prop} (hc : bg_S y d mc ms μ [x1, x2, x3, x4, x5, x6, x7] (bg_O g) (bg_pI P)) (hm : bg_mS μ m) (hl : Cond.methodLink own idx μ.1 ∈ bg_T) (hn : 7 = m) (hd : d + 1 ≤ dd) (hdc : decode cc pc = .ok (.invokestatic idx, 3)) (hst : st.length ≤ 8) (hcs : cs.1 + mc ≤ mcc ∧ cs.2 + ms ≤ mss) (kk : ∀ (i : Int) (g' : bg_E), P i g' → bg_G κ y (cs.1 + mc, cs.2 + ms) (pc + 3) ls (.inl i :: st) (bg_O g')) : bg_G κ y cs pc ls (x7 :: x6 :: x5 :: x4 :: x3 :: x2 :: x1 :: st) (bg_O g) := by
  refine bg_callS X (As := [x1, x2, x3, x4, x5, x6, x7]) hc hm hl hn hd hcs hdc hst ?_
  rintro _ _ ⟨i, g', rfl, rfl, hP⟩
  exact kk i g' hP
theorem cntF_mono (f : Nat → Int) (v : Int) (s : Nat) : ∀ n : Nat, cntF f v s ≤ cntF f v (s + n)
  | 0 => Int.le_refl _
  | n + 1 => by
    have h := cntF_mono f v s n
    show _ ≤ cntF f v (s + n) + (if f (s + n) = v then 1 else 0)
    split <;> omega
/-- the bed is found by its mark and how many of that mark are above it -/
theorem fnd_at {q : bm_Q} {m : Int} {t : Nat} (hm : mrk q t = m) : ∀ (f s : Nat) (w : Int), s ≤ t → t < s + f → w = cntF (mrk q) m t - cntF (mrk q) m s → fndB q m f s w = (t : Int)
  | 0, s, w, h1, h2, h3 => by omega
  | f + 1, s, w, h1, h2, h3 => by
    have e : cntF (mrk q) m (s + 1) = cntF (mrk q) m s + (if mrk q s = m then 1 else 0) := rfl
    rw [fndB]
    by_cases hs : s = t
    · subst hs
      rw [if_pos hm, if_pos (by omega)]
    · by_cases hk : mrk q s = m
      · rw [if_pos hk] at e ⊢
        have hmo := cntF_mono (mrk q) m (s + 1) (t - (s + 1))
        rw [show s + 1 + (t - (s + 1)) = t by omega] at hmo
        rw [if_neg (by omega)]
        exact fnd_at hm f (s + 1) _ (by omega) (by omega) (by omega)
      · rw [if_neg hk] at e ⊢
        exact fnd_at hm f (s + 1) _ (by omega) (by omega) (by omega)
/-- the world while only the class changes -/
def sIv (G : bg_E) (Z : bm_X) (g2 : bg_E) : Prop := clsR g2 Z ∧ ∀ x, 198 ≤ x → g2 x = G x
theorem sIv.cls {G g2 g3 : bg_E} {Z : bm_X} (h : sIv G Z g2) (h1 : clsR g3 Z) (h2 : frR 0 198 g2 g3) : sIv G Z g3 := ⟨h1, fun x a => by rw [h2 x (Or.inr a)]; exact h.2 x a⟩
theorem sIv.rw {G g2 : bg_E} {Z : bm_X} (h : sIv G Z g2) (hS : rwR G Z.1) : rwR g2 Z.1 := hS.cg (h.2 198 (Nat.le_refl _)) (h.2 199 (by omega))
theorem rw_acc {g : bg_E} {S : bm_S} (h : rwR g S) {a : Int} (ha : 0 ≤ a ∧ a < 4) : g 198 (14 + a).toNat = S.2.2.2.2 (a.toNat + 1) := by
  rw [show (14 + a).toNat = 13 + (a.toNat + 1) by omega]; exact h.2.2.2.2 _ (by omega) (by omega)
def accB (S : bm_S) (n : Int) : Prop := ∀ a, 1 ≤ a → a < 5 → 0 ≤ S.2.2.2.2 a ∧ S.2.2.2.2 a ≤ n
def accC (S : bm_S) : Prop := lnS S = S.2.2.2.2 1 - S.2.2.2.2 2 - S.2.2.2.2 3 + S.2.2.2.2 4
theorem two_of (z : Int) {l : Int} (hl : 0 ≤ l ∧ l < 3) : arePa (bg_band z 3) (bg_band (bg_band z 3 + 1 + l) 3) := by
  have h1 := band_3 z
  have h2 := band_3 (bg_band z 3 + 1 + l)
  refine ⟨⟨h1.1, by omega⟩, ⟨h2.1, by omega⟩, ?_⟩
  generalize bg_band z 3 = a at *
  have ha : a = 0 ∨ a = 1 ∨ a = 2 ∨ a = 3 := by omega
  have hb : l = 0 ∨ l = 1 ∨ l = 2 := by omega
  rcases ha with rfl | rfl | rfl | rfl <;> rcases hb with rfl | rfl | rfl <;> decide
set_option maxHeartbeats 20000000 in
theorem c_L_isSo {y : bg_Y} {g : bg_E} {z : Int} {Z : bm_X} (hX : clsR g Z) (ok : okX Z) (hS : rwR g Z.1) (h6 : len6 Z.1) (hB : accB Z.1 1000000) (hC : accC Z.1) (hPZ : 0 ≤ g bg_PZ 0 ∧ g bg_PZ 0 ≤ 1000000) : bg_S y 8 1 6 mL_isSo [.inr 0, .inr 198, .inr 199, .inr 200, .inr 201, .inl z] (bg_O g) (bg_pI (fun r g' => r = 1 ∧ clsR g' Z ∧ rwR g' Z.1 ∧ g' bg_PZ 0 = g bg_PZ 0 + 1)) := by
  have hK := ok.1.2.2.2.2.2.1
  obtain ⟨K, eK⟩ : ∃ K, K = Z.1.2.1 := ⟨_, rfl⟩
  rw [← eK] at hK
  have hcl := ok.1.2.2.2.2.2.2.1
  refine bg_enter pnL (Nat.le_of_ble_eq_true rfl) (fun κ X hR hg => ?_)
  have X1 : bg_X κ y cL_isSo RL 8 1 6 := X.1
  show bg_G κ y (0, 0) 0 [some (.inr 0), some (.inr 198), some (.inr 199), some (.inr 200), some (.inr 201), some (.inl z), none, none, none, none, none, none, none, none, none] [] (bg_O g)
  have hp0 : sIv g Z g := ⟨hX, fun _ _ => rfl⟩
  have oth : ∀ x : Nat, 198 ≤ x → x < 202 → True := fun _ _ _ => trivial
  -- what the class answers
  have qcount : ∀ h : Nat, h < 5 → xCount Z (h : Int) = Z.1.1 h := fun h hh => by
    unfold xCount
    rw [if_pos (by omega), Int.toNat_natCast]
  have qhole : ∀ h : Nat, h < 4 → xHole Z (h : Int) 0 = Z.1.2.2.1 h ∧ xHole Z (h : Int) 1 = ((sq Z.1 (h : Int)).length : Int) ∧ xHole Z (h : Int) 2 = dep (sq Z.1 (h : Int)) (sq Z.1 (h : Int)).length := fun h hh => by
    have hq : qH Z (h : Int) = sq Z.1 (h : Int) := rfl
    unfold xHole
    rw [if_pos (⟨by omega, by omega⟩ : isHo (h : Int)), if_pos (⟨by omega, by omega⟩ : isHo (h : Int)), if_pos (⟨by omega, by omega⟩ : isHo (h : Int)), if_pos rfl, if_neg (by decide), if_pos rfl, if_neg (by decide), if_neg (by decide), if_pos rfl, Int.toNat_natCast]
    exact ⟨rfl, rfl, rfl⟩
  have qacc : ∀ h : Nat, h < 4 → xAccount Z ((h : Int) + 1) = Z.1.2.2.2.2 (h + 1) := fun h hh => by
    unfold xAccount
    rw [if_pos (by omega), if_neg (by omega), show ((h : Int) + 1).toNat = h + 1 by omega]
  have qbedN : ∀ h : Nat, h < 4 → xBed Z (h : Int) ((sq Z.1 (h : Int)).length : Int) 0 = -1000009 := fun h hh => by
    have hq : qH Z (h : Int) = sq Z.1 (h : Int) := rfl
    unfold xBed
    rw [hq, if_pos ⟨⟨by omega, by omega⟩, by omega, by omega, by omega⟩, if_neg (by omega)]
    rfl
  have qbed : ∀ h k : Nat, h < 4 → k < (sq Z.1 (h : Int)).length → xBed Z (h : Int) (k : Int) 0 = mrk (sq Z.1 (h : Int)) k ∧ xBed Z (h : Int) (k : Int) 1 = th (sq Z.1 (h : Int)) k ∧ xBed Z (h : Int) (k : Int) 2 = dep (sq Z.1 (h : Int)) k ∧ xBed Z (h : Int) (k : Int) 3 = Z.1.2.2.1 h - dep (sq Z.1 (h : Int)) k := fun h k hh hk => by
    have hq : qH Z (h : Int) = sq Z.1 (h : Int) := rfl
    have b : ∀ w : Int, 0 ≤ w → w ≤ 3 → xBed Z (h : Int) (k : Int) w = if w = 0 then mrk (sq Z.1 (h : Int)) k else if w = 1 then th (sq Z.1 (h : Int)) k else if w = 2 then dep (sq Z.1 (h : Int)) k else Z.1.2.2.1 h - dep (sq Z.1 (h : Int)) k := fun w h0 h3 => by
      unfold xBed
      rw [hq, if_pos ⟨⟨by omega, by omega⟩, by omega, h0, h3⟩, if_pos (by omega), Int.toNat_natCast, Int.toNat_natCast]
    refine ⟨?_, ?_, ?_, ?_⟩
    · rw [b 0 (by decide) (by decide), if_pos rfl]
    · rw [b 1 (by decide) (by decide), if_neg (by decide), if_pos rfl]
    · rw [b 2 (by decide) (by decide), if_neg (by decide), if_neg (by decide), if_pos rfl]
    · rw [b 3 (by decide) (by decide), if_neg (by decide), if_neg (by decide), if_neg (by decide)]
  have qfind : ∀ h k : Nat, h < 4 → k < (sq Z.1 (h : Int)).length → xFind Z (h : Int) (mrk (sq Z.1 (h : Int)) k) (cntF (mrk (sq Z.1 (h : Int))) (mrk (sq Z.1 (h : Int)) k) k) = (k : Int) := fun h k hh hk => by
    have hq : qH Z (h : Int) = sq Z.1 (h : Int) := rfl
    have hm := mkOK (sq_OK ok.1 (a := (h : Int)) ⟨by omega, by omega⟩).1 hk
    have hc := cntF_R (mrk (sq Z.1 (h : Int))) (mrk (sq Z.1 (h : Int)) k) k
    unfold xFind
    rw [hq, if_pos ⟨⟨by omega, by omega⟩, ⟨by omega, by omega⟩, hc.1⟩]
    exact fnd_at rfl _ 0 _ (Nat.zero_le _) (by omega) (by show _ = _ - (0 : Int); omega)
  have q5 : xCount Z 5 = (bsum K.toNat 26 : Int) := by
    unfold xCount
    rw [if_neg (by decide), if_pos rfl, eK]
  have q6 : xCount Z 6 = szS Z.1 := by
    unfold xCount
    rw [if_neg (by decide), if_neg (by decide), if_pos rfl]
  have qa0 : xAccount Z 0 = lnS Z.1 := by
    unfold xAccount
    rw [if_pos (by decide), if_pos rfl]
  have b1 := hB 1 (by omega) (by omega)
  have b2 := hB 2 (by omega) (by omega)
  have b3 := hB 3 (by omega) (by omega)
  have b4 := hB 4 (by omega) (by omega)
  -- the end
  have last : ∀ (g2 : bg_E) (l10 l11 l12 l13 l14 : Option bg_V), sIv g Z g2 → bg_G κ y (0, 0) 385 [some (.inr 0), some (.inr 198), some (.inr 199), some (.inr 200), some (.inr 201), some (.inl z), some (.inl (szS Z.1)), some (.inl (bsum K.toNat 26 : Int)), some (.inl (lnS Z.1)), some (.inl 1), l10, l11, l12, l13, l14] [] (bg_O g2) := by
    intro g2 l10 l11 l12 l13 l14 hp
    have h1 := band_3 z
    have hl := lo_R (v := bg_shr z 2) (n := 3) (by decide)
    have htw := two_of z hl
    have w2 := hp.rw hS
    have a4 := qcount 4 (by omega)
    refine bg_iload5 (pc := 385) X1 dL_isSo_385 ?_
    refine bg_iconst (pc := 387) X1 dL_isSo_387 (by decide) ?_
    refine bg_iand (pc := 388) X1 dL_isSo_388 ?_
    refine bg_istore10 (pc := 389) X1 dL_isSo_389 ?_
    refine bg_iload10 (pc := 391) X1 dL_isSo_391 ?_
    refine bg_iconst (pc := 393) X1 dL_isSo_393 (by decide) ?_
    refine bg_iadd (pc := 394) X1 dL_isSo_394 (by omega) ?_
    refine bg_iload5 (pc := 395) X1 dL_isSo_395 ?_
    refine bg_iconst (pc := 397) X1 dL_isSo_397 (by decide) ?_
    refine bg_ishr (pc := 398) X1 dL_isSo_398 ?_
    refine bg_iconst (pc := 399) X1 dL_isSo_399 (by decide) ?_
    refine bq_S2i (pc := 400) X1 (c_L_low (by decide)) sL_low lL_39 rfl (by decide) dL_isSo_400 (by exact Nat.le_of_ble_eq_true rfl) (by decide) ?_
    rintro _ _ ⟨h9, h8⟩
    obtain rfl := h9.symm
    obtain rfl := h8.symm
    clear h9 h8
    refine bg_iadd (pc := 403) X1 dL_isSo_403 (by omega) ?_
    refine bg_iconst (pc := 404) X1 dL_isSo_404 (by decide) ?_
    refine bg_iand (pc := 405) X1 dL_isSo_405 ?_
    refine bg_istore11 (pc := 406) X1 dL_isSo_406 ?_
    refine bg_iload9 (pc := 408) X1 dL_isSo_408 ?_
    refine bg_if_eq (pc := 410) X1 (tgt := 499) dL_isSo_410 (by decide) (fun u410 => ?_) (fun u410 => ?_)
    · exfalso; omega
    · refine bg_aload0 (pc := 413) X1 dL_isSo_413 ?_
      refine bg_iconst (pc := 414) X1 dL_isSo_414 (by decide) ?_
      refine bq_V1i (pc := 415) X1 (c_X6_count (Z := Z) hp.1 ok) vX6_count lL_98 rfl (by first | assumption | rfl) (by decide) dL_isSo_415 (by exact Nat.le_of_ble_eq_true rfl) (by decide) ?_
      rintro _ g3 ⟨rfl, x3, f3⟩
      have p3 := hp.cls x3 f3
      have w3 := p3.rw hS
      rw [show xCount Z 4 = Z.1.1 4 from a4]
      refine bg_aload1 (pc := 418) X1 dL_isSo_418 ?_
      refine bg_iconst (pc := 419) X1 dL_isSo_419 (by decide) ?_
      refine bq_iaload (pc := 420) X1 dL_isSo_420 (by first | assumption | rfl) (by omega) ?_
      rw [show g3 198 (4 : Int).toNat = Z.1.1 4 from w3.1 4 (by omega)]
      refine bg_icmp_ne (pc := 421) X1 (tgt := 499) dL_isSo_421 (by decide) (fun u421 => ?_) (fun u421 => ?_)
      · exact absurd rfl u421
      · refine bg_aload0 (pc := 424) X1 dL_isSo_424 ?_
        refine bg_iconst (pc := 425) X1 dL_isSo_425 (by decide) ?_
        refine bq_V1i (pc := 426) X1 (c_X6_count (Z := Z) p3.1 ok) vX6_count lL_98 rfl (by first | assumption | rfl) (by decide) dL_isSo_426 (by exact Nat.le_of_ble_eq_true rfl) (by decide) ?_
        rintro _ g4 ⟨rfl, x4, f4⟩
        have p4 := p3.cls x4 f4
        rw [q5]
        refine bg_iload7 (pc := 429) X1 dL_isSo_429 ?_
        refine bg_icmp_ne (pc := 431) X1 (tgt := 499) dL_isSo_431 (by decide) (fun u431 => ?_) (fun u431 => ?_)
        · exact absurd rfl u431
        · refine bg_aload0 (pc := 434) X1 dL_isSo_434 ?_
          refine bg_bipush (pc := 435) X1 dL_isSo_435 rfl (by decide) ?_
          refine bq_V1i (pc := 437) X1 (c_X6_count (Z := Z) p4.1 ok) vX6_count lL_98 rfl (by first | assumption | rfl) (by decide) dL_isSo_437 (by exact Nat.le_of_ble_eq_true rfl) (by decide) ?_
          rintro _ g5 ⟨rfl, x5, f5⟩
          have p5 := p4.cls x5 f5
          rw [q6]
          refine bg_iload6 (pc := 440) X1 dL_isSo_440 ?_
          refine bg_icmp_ne (pc := 442) X1 (tgt := 499) dL_isSo_442 (by decide) (fun u442 => ?_) (fun u442 => ?_)
          · exact absurd rfl u442
          · refine bg_aload0 (pc := 445) X1 dL_isSo_445 ?_
            refine bg_iconst (pc := 446) X1 dL_isSo_446 (by decide) ?_
            refine bq_V1i (pc := 447) X1 (c_X6_account (Z := Z) p5.1 ok) vX6_account lL_105 rfl (by first | assumption | rfl) (by decide) dL_isSo_447 (by exact Nat.le_of_ble_eq_true rfl) (by decide) ?_
            rintro _ g6 ⟨rfl, x6, f6⟩
            have p6 := p5.cls x6 f6
            have w6 := p6.rw hS
            have v1 : g6 198 (14 : Int).toNat = Z.1.2.2.2.2 1 := w6.2.2.2.2 1 (by omega) (by omega)
            have v2 : g6 198 (15 : Int).toNat = Z.1.2.2.2.2 2 := w6.2.2.2.2 2 (by omega) (by omega)
            have v3 : g6 198 (16 : Int).toNat = Z.1.2.2.2.2 3 := w6.2.2.2.2 3 (by omega) (by omega)
            have v4 : g6 198 (17 : Int).toNat = Z.1.2.2.2.2 4 := w6.2.2.2.2 4 (by omega) (by omega)
            rw [qa0]
            refine bg_iload8 (pc := 450) X1 dL_isSo_450 ?_
            refine bg_icmp_ne (pc := 452) X1 (tgt := 499) dL_isSo_452 (by decide) (fun u452 => ?_) (fun u452 => ?_)
            · exact absurd rfl u452
            · refine bg_iload8 (pc := 455) X1 dL_isSo_455 ?_
              refine bg_aload1 (pc := 457) X1 dL_isSo_457 ?_
              refine bg_bipush (pc := 458) X1 dL_isSo_458 rfl (by decide) ?_
              refine bq_iaload (pc := 460) X1 dL_isSo_460 (by first | assumption | rfl) (by omega) ?_
              rw [v1]
              refine bg_aload1 (pc := 461) X1 dL_isSo_461 ?_
              refine bg_bipush (pc := 462) X1 dL_isSo_462 rfl (by decide) ?_
              refine bq_iaload (pc := 464) X1 dL_isSo_464 (by first | assumption | rfl) (by omega) ?_
              rw [v2]
              refine bg_isub (pc := 465) X1 dL_isSo_465 (by omega) ?_
              refine bg_aload1 (pc := 466) X1 dL_isSo_466 ?_
              refine bg_bipush (pc := 467) X1 dL_isSo_467 rfl (by decide) ?_
              refine bq_iaload (pc := 469) X1 dL_isSo_469 (by first | assumption | rfl) (by omega) ?_
              rw [v3]
              refine bg_isub (pc := 470) X1 dL_isSo_470 (by omega) ?_
              refine bg_aload1 (pc := 471) X1 dL_isSo_471 ?_
              refine bg_bipush (pc := 472) X1 dL_isSo_472 rfl (by decide) ?_
              refine bq_iaload (pc := 474) X1 dL_isSo_474 (by first | assumption | rfl) (by omega) ?_
              rw [v4]
              refine bg_iadd (pc := 475) X1 dL_isSo_475 (by omega) ?_
              refine bg_icmp_ne (pc := 476) X1 (tgt := 499) dL_isSo_476 (by decide) (fun u476 => ?_) (fun u476 => ?_)
              · exact absurd hC u476
              · refine bg_aload0 (pc := 479) X1 dL_isSo_479 ?_
                refine bg_aload1 (pc := 480) X1 dL_isSo_480 ?_
                refine bg_aload2 (pc := 481) X1 dL_isSo_481 ?_
                refine bg_aload3 (pc := 482) X1 dL_isSo_482 ?_
                refine bg_aload4 (pc := 483) X1 dL_isSo_483 ?_
                refine bg_iload10 (pc := 485) X1 dL_isSo_485 ?_
                refine bg_iload11 (pc := 487) X1 dL_isSo_487 ?_
                refine bq_S7m (pc := 489) X1 (c_L_arePaired p6.1 ok w6 h6 htw (by rw [p6.2 bg_PZ PZ_big]; exact hPZ)) sL_arePaired lL_114 rfl (by decide) dL_isSo_489 (by exact Nat.le_of_ble_eq_true rfl) (by decide) ?_
                rintro _ g7 ⟨rfl, x7, r7, z7⟩
                refine bg_if_eq (pc := 492) X1 (tgt := 499) dL_isSo_492 (by decide) (fun u492 => ?_) (fun u492 => ?_)
                · omega
                · refine bg_iconst (pc := 495) X1 dL_isSo_495 (by decide) ?_
                  refine bg_goto (pc := 496) X1 (tgt := 500) dL_isSo_496 (by decide) ?_
                  exact bq_zret (pc := 500) X rfl (by first | exact Or.inl rfl | exact Or.inr rfl | exact b2i_01 _) dL_isSo_500 (⟨rfl, x7, r7, by rw [z7, p6.2 bg_PZ PZ_big]⟩)
  -- bed by bed
  have beds : ∀ (h : Nat) (v6 v8 : Int), h < 4 → (∀ (g2 : bg_E) (l11 l12 l13 l14 : Option bg_V), sIv g Z g2 → bg_G κ y (0, 0) 379 [some (.inr 0), some (.inr 198), some (.inr 199), some (.inr 200), some (.inr 201), some (.inl z), some (.inl v6), some (.inl (bsum K.toNat 26 : Int)), some (.inl v8), some (.inl 1), some (.inl (h : Int)), l11, l12, l13, l14] [] (bg_O g2)) → ∀ (r k : Nat) (g2 : bg_E) (l12 l13 l14 : Option bg_V), k + r = (sq Z.1 (h : Int)).length → sIv g Z g2 → bg_G κ y (0, 0) 190 [some (.inr 0), some (.inr 198), some (.inr 199), some (.inr 200), some (.inr 201), some (.inl z), some (.inl v6), some (.inl (bsum K.toNat 26 : Int)), some (.inl v8), some (.inl 1), some (.inl (h : Int)), some (.inl (k : Int)), l12, l13, l14] [] (bg_O g2) := by
    intro h v6 v8 hh kk r
    have hh4 : isHo (h : Int) := ⟨by omega, by omega⟩
    have hl6 := sq_6 h6 hh4
    induction r with
    | zero =>
      intro k g2 l12 l13 l14 hk hp
      refine bg_iload11 (pc := 190) X1 dL_isSo_190 ?_
      refine bg_aload1 (pc := 192) X1 dL_isSo_192 ?_
      refine bg_bipush (pc := 193) X1 dL_isSo_193 rfl (by decide) ?_
      refine bg_iload10 (pc := 195) X1 dL_isSo_195 ?_
      refine bg_iadd (pc := 197) X1 dL_isSo_197 (by omega) ?_
      refine bq_iaload (pc := 198) X1 dL_isSo_198 (by first | assumption | rfl) (by omega) ?_
      rw [rw_len (hp.rw hS) hh4]
      refine bg_icmp_ge (pc := 199) X1 (tgt := 379) dL_isSo_199 (by decide) (fun u199 => ?_) (fun u199 => ?_)
      · exact kk g2 _ _ _ _ hp
      · exfalso; omega
    | succ r ih =>
      intro k g2 l12 l13 l14 hk hp
      have hkl : k < (sq Z.1 (h : Int)).length := by omega
      have kIn : 0 ≤ (k : Int) ∧ (k : Int) < ((sq Z.1 (h : Int)).length : Int) := ⟨by omega, by omega⟩
      have qb := qbed h k hh hkl
      have qf := qfind h k hh hkl
      have hd := sq_dep ok.1 hh4 (n := k) (by omega)
      have hc4 := hcl h hh
      have ek : ((k : Nat) : Int).toNat = k := Int.toNat_natCast _
      have eh : ((h : Nat) : Int).toNat = h := Int.toNat_natCast _
      have same : ∀ (r i : Nat) (s : Int), i + r = k → s = cntF (mrk (sq Z.1 (h : Int))) (mrk (sq Z.1 (h : Int)) k) i → (∀ l14 : Option bg_V, bg_G κ y (0, 0) 267 [some (.inr 0), some (.inr 198), some (.inr 199), some (.inr 200), some (.inr 201), some (.inl z), some (.inl v6), some (.inl (bsum K.toNat 26 : Int)), some (.inl v8), some (.inl 1), some (.inl (h : Int)), some (.inl (k : Int)), some (.inl (cntF (mrk (sq Z.1 (h : Int))) (mrk (sq Z.1 (h : Int)) k) k)), some (.inl (12 * (h : Int) + 2 * (k : Int))), l14] [] (bg_O g2)) → bg_G κ y (0, 0) 225 [some (.inr 0), some (.inr 198), some (.inr 199), some (.inr 200), some (.inr 201), some (.inl z), some (.inl v6), some (.inl (bsum K.toNat 26 : Int)), some (.inl v8), some (.inl 1), some (.inl (h : Int)), some (.inl (k : Int)), some (.inl s), some (.inl (12 * (h : Int) + 2 * (k : Int))), some (.inl (i : Int))] [] (bg_O g2) := by
        intro r
        induction r with
        | zero =>
          intro i s hi hs kk2
          obtain rfl : i = k := by omega
          rw [hs]
          refine bg_iload14 (pc := 225) X1 dL_isSo_225 ?_
          refine bg_iload11 (pc := 227) X1 dL_isSo_227 ?_
          refine bg_icmp_ge (pc := 229) X1 (tgt := 267) dL_isSo_229 (by decide) (fun u229 => ?_) (fun u229 => ?_)
          · exact kk2 _
          · exfalso; omega
        | succ r ih =>
          intro i s hi hs kk2
          have hcR := cntF_R (mrk (sq Z.1 (h : Int))) (mrk (sq Z.1 (h : Int)) k) i
          have e1 : cntF (mrk (sq Z.1 (h : Int))) (mrk (sq Z.1 (h : Int)) k) (i + 1) = cntF (mrk (sq Z.1 (h : Int))) (mrk (sq Z.1 (h : Int)) k) i + (if mrk (sq Z.1 (h : Int)) i = mrk (sq Z.1 (h : Int)) k then 1 else 0) := rfl
          have ei : ((i : Nat) : Int).toNat = i := Int.toNat_natCast _
          refine bg_iload14 (pc := 225) X1 dL_isSo_225 ?_
          refine bg_iload11 (pc := 227) X1 dL_isSo_227 ?_
          refine bg_icmp_ge (pc := 229) X1 (tgt := 267) dL_isSo_229 (by decide) (fun u229 => ?_) (fun u229 => ?_)
          · exfalso; omega
          · refine bg_iload12 (pc := 232) X1 dL_isSo_232 ?_
            refine bg_aload2 (pc := 234) X1 dL_isSo_234 ?_
            refine bg_bipush (pc := 235) X1 dL_isSo_235 rfl (by decide) ?_
            refine bg_iload10 (pc := 237) X1 dL_isSo_237 ?_
            refine bg_imul (pc := 239) X1 dL_isSo_239 (by omega) ?_
            refine bg_iconst (pc := 240) X1 dL_isSo_240 (by decide) ?_
            refine bg_iload14 (pc := 241) X1 dL_isSo_241 ?_
            refine bg_imul (pc := 243) X1 dL_isSo_243 (by omega) ?_
            refine bg_iadd (pc := 244) X1 dL_isSo_244 (by omega) ?_
            refine bq_iaload (pc := 245) X1 dL_isSo_245 (by first | assumption | rfl) (by omega) ?_
            rw [rw_mrk (hp.rw hS) hh4 ⟨by omega, by omega⟩, ei]
            refine bg_aload2 (pc := 246) X1 dL_isSo_246 ?_
            refine bg_iload13 (pc := 247) X1 dL_isSo_247 ?_
            refine bq_iaload (pc := 249) X1 dL_isSo_249 (by first | assumption | rfl) (by omega) ?_
            rw [rw_mrk (hp.rw hS) hh4 ⟨by omega, by omega⟩, ek]
            refine bg_icmp_ne (pc := 250) X1 (tgt := 257) dL_isSo_250 (by decide) (fun u250 => ?_) (fun u250 => ?_)
            · refine bg_iconst (pc := 257) X1 dL_isSo_257 (by decide) ?_
              refine bg_iadd (pc := 258) X1 dL_isSo_258 (by omega) ?_
              refine bg_istore12 (pc := 259) X1 dL_isSo_259 ?_
              refine bg_iinc14 (pc := 261) X1 dL_isSo_261 (by omega) ?_
              refine bg_goto (pc := 264) X1 (tgt := 225) dL_isSo_264 (by decide) ?_
              exact ih (i + 1) _ (by omega) (by first | (rw [e1, if_pos (by assumption), hs]) | (rw [e1, if_neg (by assumption), hs])) kk2
            · refine bg_iconst (pc := 253) X1 dL_isSo_253 (by decide) ?_
              refine bg_goto (pc := 254) X1 (tgt := 258) dL_isSo_254 (by decide) ?_
              refine bg_iadd (pc := 258) X1 dL_isSo_258 (by omega) ?_
              refine bg_istore12 (pc := 259) X1 dL_isSo_259 ?_
              refine bg_iinc14 (pc := 261) X1 dL_isSo_261 (by omega) ?_
              refine bg_goto (pc := 264) X1 (tgt := 225) dL_isSo_264 (by decide) ?_
              exact ih (i + 1) _ (by omega) (by first | (rw [e1, if_pos (by assumption), hs]) | (rw [e1, if_neg (by assumption), hs])) kk2
      have chk : ∀ l14 : Option bg_V, bg_G κ y (0, 0) 267 [some (.inr 0), some (.inr 198), some (.inr 199), some (.inr 200), some (.inr 201), some (.inl z), some (.inl v6), some (.inl (bsum K.toNat 26 : Int)), some (.inl v8), some (.inl 1), some (.inl (h : Int)), some (.inl (k : Int)), some (.inl (cntF (mrk (sq Z.1 (h : Int))) (mrk (sq Z.1 (h : Int)) k) k)), some (.inl (12 * (h : Int) + 2 * (k : Int))), l14] [] (bg_O g2) := by
        intro l14
        refine bg_aload0 (pc := 267) X1 dL_isSo_267 ?_
        refine bg_iload10 (pc := 268) X1 dL_isSo_268 ?_
        refine bg_iload11 (pc := 270) X1 dL_isSo_270 ?_
        refine bg_iconst (pc := 272) X1 dL_isSo_272 (by decide) ?_
        refine bq_V3i (pc := 273) X1 (c_X6_bed (Z := Z) hp.1 ok) vX6_bed lL_108 rfl (by first | assumption | rfl) (by decide) dL_isSo_273 (by exact Nat.le_of_ble_eq_true rfl) (by decide) ?_
        rintro _ g3 ⟨rfl, x3, f3⟩
        have p3 := hp.cls x3 f3
        rw [qb.1]
        refine bg_aload2 (pc := 276) X1 dL_isSo_276 ?_
        refine bg_iload13 (pc := 277) X1 dL_isSo_277 ?_
        refine bq_iaload (pc := 279) X1 dL_isSo_279 (by first | assumption | rfl) (by omega) ?_
        rw [rw_mrk (p3.rw hS) hh4 kIn, ek]
        refine bg_icmp_ne (pc := 280) X1 (tgt := 370) dL_isSo_280 (by decide) (fun u280 => ?_) (fun u280 => ?_)
        · exact absurd rfl u280
        · refine bg_aload0 (pc := 283) X1 dL_isSo_283 ?_
          refine bg_iload10 (pc := 284) X1 dL_isSo_284 ?_
          refine bg_iload11 (pc := 286) X1 dL_isSo_286 ?_
          refine bg_iconst (pc := 288) X1 dL_isSo_288 (by decide) ?_
          refine bq_V3i (pc := 289) X1 (c_X6_bed (Z := Z) p3.1 ok) vX6_bed lL_108 rfl (by first | assumption | rfl) (by decide) dL_isSo_289 (by exact Nat.le_of_ble_eq_true rfl) (by decide) ?_
          rintro _ g4 ⟨rfl, x4, f4⟩
          have p4 := p3.cls x4 f4
          rw [qb.2.1]
          refine bg_aload2 (pc := 292) X1 dL_isSo_292 ?_
          refine bg_iload13 (pc := 293) X1 dL_isSo_293 ?_
          refine bg_iconst (pc := 295) X1 dL_isSo_295 (by decide) ?_
          refine bg_iadd (pc := 296) X1 dL_isSo_296 (by omega) ?_
          refine bq_iaload (pc := 297) X1 dL_isSo_297 (by first | assumption | rfl) (by omega) ?_
          rw [rw_th (p4.rw hS) hh4 kIn, ek]
          refine bg_icmp_ne (pc := 298) X1 (tgt := 370) dL_isSo_298 (by decide) (fun u298 => ?_) (fun u298 => ?_)
          · exact absurd rfl u298
          · refine bg_aload0 (pc := 301) X1 dL_isSo_301 ?_
            refine bg_iload10 (pc := 302) X1 dL_isSo_302 ?_
            refine bg_iload11 (pc := 304) X1 dL_isSo_304 ?_
            refine bg_iconst (pc := 306) X1 dL_isSo_306 (by decide) ?_
            refine bq_V3i (pc := 307) X1 (c_X6_bed (Z := Z) p4.1 ok) vX6_bed lL_108 rfl (by first | assumption | rfl) (by decide) dL_isSo_307 (by exact Nat.le_of_ble_eq_true rfl) (by decide) ?_
            rintro _ g5 ⟨rfl, x5, f5⟩
            have p5 := p4.cls x5 f5
            rw [qb.2.2.1]
            refine bg_aload2 (pc := 310) X1 dL_isSo_310 ?_
            refine bg_iload10 (pc := 311) X1 dL_isSo_311 ?_
            refine bg_iload11 (pc := 313) X1 dL_isSo_313 ?_
            refine bq_S3i (pc := 315) X1 (c_L_depth (p5.rw hS) ok.1 h6 hh4 ⟨by omega, by omega⟩) sL_depth lL_32 rfl (by decide) dL_isSo_315 (by exact Nat.le_of_ble_eq_true rfl) (by decide) ?_
            rintro _ _ ⟨h9, h8⟩
            obtain rfl := h9.symm
            obtain rfl := h8.symm
            clear h9 h8
            rw [ek]
            refine bg_icmp_ne (pc := 318) X1 (tgt := 370) dL_isSo_318 (by decide) (fun u318 => ?_) (fun u318 => ?_)
            · exact absurd rfl u318
            · refine bg_aload0 (pc := 321) X1 dL_isSo_321 ?_
              refine bg_iload10 (pc := 322) X1 dL_isSo_322 ?_
              refine bg_iload11 (pc := 324) X1 dL_isSo_324 ?_
              refine bg_iconst (pc := 326) X1 dL_isSo_326 (by decide) ?_
              refine bq_V3i (pc := 327) X1 (c_X6_bed (Z := Z) p5.1 ok) vX6_bed lL_108 rfl (by first | assumption | rfl) (by decide) dL_isSo_327 (by exact Nat.le_of_ble_eq_true rfl) (by decide) ?_
              rintro _ g6 ⟨rfl, x6, f6⟩
              have p6 := p5.cls x6 f6
              rw [qb.2.2.2]
              refine bg_aload1 (pc := 330) X1 dL_isSo_330 ?_
              refine bg_bipush (pc := 331) X1 dL_isSo_331 rfl (by decide) ?_
              refine bg_iload10 (pc := 333) X1 dL_isSo_333 ?_
              refine bg_iadd (pc := 335) X1 dL_isSo_335 (by omega) ?_
              refine bq_iaload (pc := 336) X1 dL_isSo_336 (by first | assumption | rfl) (by omega) ?_
              rw [rw_col (p6.rw hS) hh4, eh]
              refine bg_aload2 (pc := 337) X1 dL_isSo_337 ?_
              refine bg_iload10 (pc := 338) X1 dL_isSo_338 ?_
              refine bg_iload11 (pc := 340) X1 dL_isSo_340 ?_
              refine bq_S3i (pc := 342) X1 (c_L_depth (p6.rw hS) ok.1 h6 hh4 ⟨by omega, by omega⟩) sL_depth lL_32 rfl (by decide) dL_isSo_342 (by exact Nat.le_of_ble_eq_true rfl) (by decide) ?_
              rintro _ _ ⟨h9, h8⟩
              obtain rfl := h9.symm
              obtain rfl := h8.symm
              clear h9 h8
              rw [ek]
              refine bg_isub (pc := 345) X1 dL_isSo_345 (by omega) ?_
              refine bg_icmp_ne (pc := 346) X1 (tgt := 370) dL_isSo_346 (by decide) (fun u346 => ?_) (fun u346 => ?_)
              · exact absurd rfl u346
              · refine bg_aload0 (pc := 349) X1 dL_isSo_349 ?_
                refine bg_iload10 (pc := 350) X1 dL_isSo_350 ?_
                refine bg_aload2 (pc := 352) X1 dL_isSo_352 ?_
                refine bg_iload13 (pc := 353) X1 dL_isSo_353 ?_
                refine bq_iaload (pc := 355) X1 dL_isSo_355 (by first | assumption | rfl) (by omega) ?_
                rw [rw_mrk (p6.rw hS) hh4 kIn, ek]
                refine bg_iload12 (pc := 356) X1 dL_isSo_356 ?_
                refine bq_V3i (pc := 358) X1 (c_X6_find (Z := Z) p6.1) vX6_find lL_111 rfl (by first | assumption | rfl) (by decide) dL_isSo_358 (by exact Nat.le_of_ble_eq_true rfl) (by decide) ?_
                rintro _ g7 ⟨rfl, x7, f7⟩
                have p7 := p6.cls x7 f7
                rw [qf]
                refine bg_iload11 (pc := 361) X1 dL_isSo_361 ?_
                refine bg_icmp_ne (pc := 363) X1 (tgt := 370) dL_isSo_363 (by decide) (fun u363 => ?_) (fun u363 => ?_)
                · exact absurd rfl u363
                · refine bg_iconst (pc := 366) X1 dL_isSo_366 (by decide) ?_
                  refine bg_goto (pc := 367) X1 (tgt := 371) dL_isSo_367 (by decide) ?_
                  refine bg_istore9 (pc := 371) X1 dL_isSo_371 ?_
                  refine bg_iinc11 (pc := 373) X1 dL_isSo_373 (by omega) ?_
                  refine bg_goto (pc := 376) X1 (tgt := 190) dL_isSo_376 (by decide) ?_
                  exact ih (k + 1) g7 _ _ _ (by omega) p7
      refine bg_iload11 (pc := 190) X1 dL_isSo_190 ?_
      refine bg_aload1 (pc := 192) X1 dL_isSo_192 ?_
      refine bg_bipush (pc := 193) X1 dL_isSo_193 rfl (by decide) ?_
      refine bg_iload10 (pc := 195) X1 dL_isSo_195 ?_
      refine bg_iadd (pc := 197) X1 dL_isSo_197 (by omega) ?_
      refine bq_iaload (pc := 198) X1 dL_isSo_198 (by first | assumption | rfl) (by omega) ?_
      rw [rw_len (hp.rw hS) hh4]
      refine bg_icmp_ge (pc := 199) X1 (tgt := 379) dL_isSo_199 (by decide) (fun u199 => ?_) (fun u199 => ?_)
      · exfalso; omega
      · refine bg_iload9 (pc := 202) X1 dL_isSo_202 ?_
        refine bg_if_eq (pc := 204) X1 (tgt := 379) dL_isSo_204 (by decide) (fun u204 => ?_) (fun u204 => ?_)
        · exfalso; omega
        · refine bg_iconst (pc := 207) X1 dL_isSo_207 (by decide) ?_
          refine bg_istore12 (pc := 208) X1 dL_isSo_208 ?_
          refine bg_bipush (pc := 210) X1 dL_isSo_210 rfl (by decide) ?_
          refine bg_iload10 (pc := 212) X1 dL_isSo_212 ?_
          refine bg_imul (pc := 214) X1 dL_isSo_214 (by omega) ?_
          refine bg_iconst (pc := 215) X1 dL_isSo_215 (by decide) ?_
          refine bg_iload11 (pc := 216) X1 dL_isSo_216 ?_
          refine bg_imul (pc := 218) X1 dL_isSo_218 (by omega) ?_
          refine bg_iadd (pc := 219) X1 dL_isSo_219 (by omega) ?_
          refine bg_istore13 (pc := 220) X1 dL_isSo_220 ?_
          refine bg_iconst (pc := 222) X1 dL_isSo_222 (by decide) ?_
          refine bg_istore14 (pc := 223) X1 dL_isSo_223 ?_
          exact same k 0 0 (Nat.zero_add _) rfl chk
  -- hole by hole
  have holes : ∀ (r h : Nat) (g2 : bg_E) (l11 l12 l13 l14 : Option bg_V), h + r = 4 → sIv g Z g2 → ∀ v6 v8 : Int, v6 = sumN (fun h => ((Z.1.2.2.2.1 h).length : Int)) h → v8 = sumN (fun h => dep (Z.1.2.2.2.1 h) (Z.1.2.2.2.1 h).length) h → 0 ≤ v6 → v6 ≤ 6 * h → 0 ≤ v8 → v8 ≤ 600 * h → bg_G κ y (0, 0) 44 [some (.inr 0), some (.inr 198), some (.inr 199), some (.inr 200), some (.inr 201), some (.inl z), some (.inl v6), some (.inl (bsum K.toNat 26 : Int)), some (.inl v8), some (.inl 1), some (.inl (h : Int)), l11, l12, l13, l14] [] (bg_O g2) := by
    intro r
    induction r with
    | zero =>
      intro h g2 l11 l12 l13 l14 hh hp v6 v8 e6 e8 r6 r6b r8 r8b
      obtain rfl : h = 4 := by omega
      have e6' : v6 = szS Z.1 := e6
      have e8' : v8 = lnS Z.1 := e8
      rw [e6', e8']
      refine bg_iload10 (pc := 44) X1 dL_isSo_44 ?_
      refine bg_iconst (pc := 46) X1 dL_isSo_46 (by decide) ?_
      refine bg_icmp_ge (pc := 47) X1 (tgt := 385) dL_isSo_47 (by decide) (fun u47 => ?_) (fun u47 => ?_)
      · exact last g2 _ _ _ _ _ hp
      · exfalso; omega
    | succ r ih =>
      intro h g2 l11 l12 l13 l14 hh hp v6 v8 e6 e8 r6 r6b r8 r8b
      have h4 : h < 4 := by omega
      have hh4 : isHo (h : Int) := ⟨by omega, by omega⟩
      have hl6 := sq_6 h6 hh4
      have hd := sq_dep ok.1 hh4 (Nat.le_refl (sq Z.1 (h : Int)).length)
      have eh : ((h : Nat) : Int).toNat = h := Int.toNat_natCast _
      have esq : sq Z.1 (h : Int) = Z.1.2.2.2.1 h := by show Z.1.2.2.2.1 ((h : Nat) : Int).toNat = _; rw [eh]
      have qh := qhole h h4
      have n6 : sumN (fun h => ((Z.1.2.2.2.1 h).length : Int)) (h + 1) = sumN (fun h => ((Z.1.2.2.2.1 h).length : Int)) h + ((sq Z.1 (h : Int)).length : Int) := by rw [esq]; rfl
      have n8 : sumN (fun h => dep (Z.1.2.2.2.1 h) (Z.1.2.2.2.1 h).length) (h + 1) = sumN (fun h => dep (Z.1.2.2.2.1 h) (Z.1.2.2.2.1 h).length) h + dep (sq Z.1 (h : Int)) (sq Z.1 (h : Int)).length := by rw [esq]; rfl
      have bd := beds h (v6 + ((sq Z.1 (h : Int)).length : Int)) (v8 + dep (sq Z.1 (h : Int)) (sq Z.1 (h : Int)).length) h4 (fun g3 l11 l12 l13 l14 hp3 => by
        refine bg_iinc10 (pc := 379) X1 dL_isSo_379 (by omega) ?_
        refine bg_goto (pc := 382) X1 (tgt := 44) dL_isSo_382 (by decide) ?_
        exact ih (h + 1) g3 _ _ _ _ (by omega) hp3 _ _ (by rw [n6, e6]) (by rw [n8, e8]) (by omega) (by omega) (by omega) (by omega)
        )
      refine bg_iload10 (pc := 44) X1 dL_isSo_44 ?_
      refine bg_iconst (pc := 46) X1 dL_isSo_46 (by decide) ?_
      refine bg_icmp_ge (pc := 47) X1 (tgt := 385) dL_isSo_47 (by decide) (fun u47 => ?_) (fun u47 => ?_)
      · exfalso; omega
      · refine bg_iload9 (pc := 50) X1 dL_isSo_50 ?_
        refine bg_if_eq (pc := 52) X1 (tgt := 385) dL_isSo_52 (by decide) (fun u52 => ?_) (fun u52 => ?_)
        · exfalso; omega
        · refine bg_iload6 (pc := 55) X1 dL_isSo_55 ?_
          refine bg_aload1 (pc := 57) X1 dL_isSo_57 ?_
          refine bg_bipush (pc := 58) X1 dL_isSo_58 rfl (by decide) ?_
          refine bg_iload10 (pc := 60) X1 dL_isSo_60 ?_
          refine bg_iadd (pc := 62) X1 dL_isSo_62 (by omega) ?_
          refine bq_iaload (pc := 63) X1 dL_isSo_63 (by first | assumption | rfl) (by omega) ?_
          rw [rw_len (hp.rw hS) hh4]
          refine bg_iadd (pc := 64) X1 dL_isSo_64 (by omega) ?_
          refine bg_istore6 (pc := 65) X1 dL_isSo_65 ?_
          refine bg_iload8 (pc := 67) X1 dL_isSo_67 ?_
          refine bg_aload1 (pc := 69) X1 dL_isSo_69 ?_
          refine bg_aload2 (pc := 70) X1 dL_isSo_70 ?_
          refine bg_iload10 (pc := 71) X1 dL_isSo_71 ?_
          refine bq_S3i (pc := 73) X1 (c_L_length (hp.rw hS) ok.1 h6 hh4) sL_length lL_61 rfl (by decide) dL_isSo_73 (by exact Nat.le_of_ble_eq_true rfl) (by decide) ?_
          rintro _ _ ⟨h9, h8⟩
          obtain rfl := h9.symm
          obtain rfl := h8.symm
          clear h9 h8
          refine bg_iadd (pc := 76) X1 dL_isSo_76 (by omega) ?_
          refine bg_istore8 (pc := 77) X1 dL_isSo_77 ?_
          refine bg_aload0 (pc := 79) X1 dL_isSo_79 ?_
          refine bg_iload10 (pc := 80) X1 dL_isSo_80 ?_
          refine bq_V1i (pc := 82) X1 (c_X6_count (Z := Z) hp.1 ok) vX6_count lL_98 rfl (by first | assumption | rfl) (by decide) dL_isSo_82 (by exact Nat.le_of_ble_eq_true rfl) (by decide) ?_
          rintro _ g3 ⟨rfl, x3, f3⟩
          have p3 := hp.cls x3 f3
          rw [qcount h (by omega)]
          refine bg_aload1 (pc := 85) X1 dL_isSo_85 ?_
          refine bg_iload10 (pc := 86) X1 dL_isSo_86 ?_
          refine bq_iaload (pc := 88) X1 dL_isSo_88 (by first | assumption | rfl) (by omega) ?_
          rw [rw_num (p3.rw hS) ⟨by omega, by omega⟩, eh]
          refine bg_icmp_ne (pc := 89) X1 (tgt := 184) dL_isSo_89 (by decide) (fun u89 => ?_) (fun u89 => ?_)
          · exact absurd rfl u89
          · refine bg_aload0 (pc := 92) X1 dL_isSo_92 ?_
            refine bg_iload10 (pc := 93) X1 dL_isSo_93 ?_
            refine bg_iconst (pc := 95) X1 dL_isSo_95 (by decide) ?_
            refine bq_V2i (pc := 96) X1 (c_X6_hole (Z := Z) p3.1 ok) vX6_hole lL_102 rfl (by first | assumption | rfl) (by decide) dL_isSo_96 (by exact Nat.le_of_ble_eq_true rfl) (by decide) ?_
            rintro _ g4 ⟨rfl, x4, f4⟩
            have p4 := p3.cls x4 f4
            rw [qh.1]
            refine bg_aload1 (pc := 99) X1 dL_isSo_99 ?_
            refine bg_bipush (pc := 100) X1 dL_isSo_100 rfl (by decide) ?_
            refine bg_iload10 (pc := 102) X1 dL_isSo_102 ?_
            refine bg_iadd (pc := 104) X1 dL_isSo_104 (by omega) ?_
            refine bq_iaload (pc := 105) X1 dL_isSo_105 (by first | assumption | rfl) (by omega) ?_
            rw [rw_col (p4.rw hS) hh4, eh]
            refine bg_icmp_ne (pc := 106) X1 (tgt := 184) dL_isSo_106 (by decide) (fun u106 => ?_) (fun u106 => ?_)
            · exact absurd rfl u106
            · refine bg_aload0 (pc := 109) X1 dL_isSo_109 ?_
              refine bg_iload10 (pc := 110) X1 dL_isSo_110 ?_
              refine bg_iconst (pc := 112) X1 dL_isSo_112 (by decide) ?_
              refine bq_V2i (pc := 113) X1 (c_X6_hole (Z := Z) p4.1 ok) vX6_hole lL_102 rfl (by first | assumption | rfl) (by decide) dL_isSo_113 (by exact Nat.le_of_ble_eq_true rfl) (by decide) ?_
              rintro _ g5 ⟨rfl, x5, f5⟩
              have p5 := p4.cls x5 f5
              rw [qh.2.1]
              refine bg_aload1 (pc := 116) X1 dL_isSo_116 ?_
              refine bg_bipush (pc := 117) X1 dL_isSo_117 rfl (by decide) ?_
              refine bg_iload10 (pc := 119) X1 dL_isSo_119 ?_
              refine bg_iadd (pc := 121) X1 dL_isSo_121 (by omega) ?_
              refine bq_iaload (pc := 122) X1 dL_isSo_122 (by first | assumption | rfl) (by omega) ?_
              rw [rw_len (p5.rw hS) hh4]
              refine bg_icmp_ne (pc := 123) X1 (tgt := 184) dL_isSo_123 (by decide) (fun u123 => ?_) (fun u123 => ?_)
              · exact absurd rfl u123
              · refine bg_aload0 (pc := 126) X1 dL_isSo_126 ?_
                refine bg_iload10 (pc := 127) X1 dL_isSo_127 ?_
                refine bg_iconst (pc := 129) X1 dL_isSo_129 (by decide) ?_
                refine bq_V2i (pc := 130) X1 (c_X6_hole (Z := Z) p5.1 ok) vX6_hole lL_102 rfl (by first | assumption | rfl) (by decide) dL_isSo_130 (by exact Nat.le_of_ble_eq_true rfl) (by decide) ?_
                rintro _ g6 ⟨rfl, x6, f6⟩
                have p6 := p5.cls x6 f6
                rw [qh.2.2]
                refine bg_aload1 (pc := 133) X1 dL_isSo_133 ?_
                refine bg_aload2 (pc := 134) X1 dL_isSo_134 ?_
                refine bg_iload10 (pc := 135) X1 dL_isSo_135 ?_
                refine bq_S3i (pc := 137) X1 (c_L_length (p6.rw hS) ok.1 h6 hh4) sL_length lL_61 rfl (by decide) dL_isSo_137 (by exact Nat.le_of_ble_eq_true rfl) (by decide) ?_
                rintro _ _ ⟨h9, h8⟩
                obtain rfl := h9.symm
                obtain rfl := h8.symm
                clear h9 h8
                refine bg_icmp_ne (pc := 140) X1 (tgt := 184) dL_isSo_140 (by decide) (fun u140 => ?_) (fun u140 => ?_)
                · exact absurd rfl u140
                · refine bg_aload0 (pc := 143) X1 dL_isSo_143 ?_
                  refine bg_iload10 (pc := 144) X1 dL_isSo_144 ?_
                  refine bg_iconst (pc := 146) X1 dL_isSo_146 (by decide) ?_
                  refine bg_iadd (pc := 147) X1 dL_isSo_147 (by omega) ?_
                  refine bq_V1i (pc := 148) X1 (c_X6_account (Z := Z) p6.1 ok) vX6_account lL_105 rfl (by first | assumption | rfl) (by decide) dL_isSo_148 (by exact Nat.le_of_ble_eq_true rfl) (by decide) ?_
                  rintro _ g7 ⟨rfl, x7, f7⟩
                  have p7 := p6.cls x7 f7
                  rw [qacc h h4]
                  refine bg_aload1 (pc := 151) X1 dL_isSo_151 ?_
                  refine bg_bipush (pc := 152) X1 dL_isSo_152 rfl (by decide) ?_
                  refine bg_iload10 (pc := 154) X1 dL_isSo_154 ?_
                  refine bg_iadd (pc := 156) X1 dL_isSo_156 (by omega) ?_
                  refine bq_iaload (pc := 157) X1 dL_isSo_157 (by first | assumption | rfl) (by omega) ?_
                  rw [rw_acc (p7.rw hS) ⟨by omega, by omega⟩, eh]
                  refine bg_icmp_ne (pc := 158) X1 (tgt := 184) dL_isSo_158 (by decide) (fun u158 => ?_) (fun u158 => ?_)
                  · exact absurd rfl u158
                  · refine bg_aload0 (pc := 161) X1 dL_isSo_161 ?_
                    refine bg_iload10 (pc := 162) X1 dL_isSo_162 ?_
                    refine bg_aload1 (pc := 164) X1 dL_isSo_164 ?_
                    refine bg_bipush (pc := 165) X1 dL_isSo_165 rfl (by decide) ?_
                    refine bg_iload10 (pc := 167) X1 dL_isSo_167 ?_
                    refine bg_iadd (pc := 169) X1 dL_isSo_169 (by omega) ?_
                    refine bq_iaload (pc := 170) X1 dL_isSo_170 (by first | assumption | rfl) (by omega) ?_
                    rw [rw_len (p7.rw hS) hh4]
                    refine bg_iconst (pc := 171) X1 dL_isSo_171 (by decide) ?_
                    refine bq_V3i (pc := 172) X1 (c_X6_bed (Z := Z) p7.1 ok) vX6_bed lL_108 rfl (by first | assumption | rfl) (by decide) dL_isSo_172 (by exact Nat.le_of_ble_eq_true rfl) (by decide) ?_
                    rintro _ g8 ⟨rfl, x8, f8⟩
                    have p8 := p7.cls x8 f8
                    rw [qbedN h h4]
                    refine bg_ldc (pc := 175) X1 dL_isSo_175 kL_36 (by decide) ?_
                    refine bg_icmp_ne (pc := 177) X1 (tgt := 184) dL_isSo_177 (by decide) (fun u177 => ?_) (fun u177 => ?_)
                    · exact absurd rfl u177
                    · refine bg_iconst (pc := 180) X1 dL_isSo_180 (by decide) ?_
                      refine bg_goto (pc := 181) X1 (tgt := 185) dL_isSo_181 (by decide) ?_
                      refine bg_istore9 (pc := 185) X1 dL_isSo_185 ?_
                      refine bg_iconst (pc := 187) X1 dL_isSo_187 (by decide) ?_
                      refine bg_istore11 (pc := 188) X1 dL_isSo_188 ?_
                      exact bd _ 0 g8 _ _ _ (Nat.zero_add _) p8
  have keys : ∀ (r k : Nat) (v : Int), k + r = 26 → v = (bsum K.toNat k : Int) → v ≤ k → bg_G κ y (0, 0) 15 [some (.inr 0), some (.inr 198), some (.inr 199), some (.inr 200), some (.inr 201), some (.inl z), some (.inl 0), some (.inl v), some (.inl 0), some (.inl 1), some (.inl (k : Int)), none, none, none, none] [] (bg_O g) := by
    intro r
    induction r with
    | zero =>
      intro k v hk hv hv2
      obtain rfl : k = 26 := by omega
      rw [hv]
      refine bg_iload10 (pc := 15) X1 dL_isSo_15 ?_
      refine bg_bipush (pc := 17) X1 dL_isSo_17 rfl (by decide) ?_
      refine bg_icmp_ge (pc := 19) X1 (tgt := 41) dL_isSo_19 (by decide) (fun u19 => ?_) (fun u19 => ?_)
      · refine bg_iconst (pc := 41) X1 dL_isSo_41 (by decide) ?_
        refine bg_istore10 (pc := 42) X1 dL_isSo_42 ?_
        exact holes 4 0 g _ _ _ _ rfl hp0 0 0 rfl rfl (by omega) (by omega) (by omega) (by omega)
      · exfalso; omega
    | succ r ih =>
      intro k v hk hv hv2
      have hkb := kb_nat hK (m := (k : Int)) ⟨by omega, by omega⟩
      have h01 := kb_01 hK (m := (k : Int)) ⟨by omega, by omega⟩
      rw [Int.toNat_natCast] at hkb
      have e5 : g 198 (5 : Int).toNat = K := by rw [eK]; exact hS.2.1
      refine bg_iload10 (pc := 15) X1 dL_isSo_15 ?_
      refine bg_bipush (pc := 17) X1 dL_isSo_17 rfl (by decide) ?_
      refine bg_icmp_ge (pc := 19) X1 (tgt := 41) dL_isSo_19 (by decide) (fun u19 => ?_) (fun u19 => ?_)
      · exfalso; omega
      · refine bg_iload7 (pc := 22) X1 dL_isSo_22 ?_
        refine bg_aload1 (pc := 24) X1 dL_isSo_24 ?_
        refine bg_iconst (pc := 25) X1 dL_isSo_25 (by decide) ?_
        refine bq_iaload (pc := 26) X1 dL_isSo_26 (by first | assumption | rfl) (by omega) ?_
        rw [e5]
        refine bg_iload10 (pc := 27) X1 dL_isSo_27 ?_
        refine bg_ishr (pc := 29) X1 dL_isSo_29 ?_
        refine bg_iconst (pc := 30) X1 dL_isSo_30 (by decide) ?_
        refine bg_iand (pc := 31) X1 dL_isSo_31 ?_
        rw [show bg_band (bg_shr K (k : Int)) 1 = kb K (k : Int) from rfl]
        refine bg_iadd (pc := 32) X1 dL_isSo_32 (by omega) ?_
        refine bg_istore7 (pc := 33) X1 dL_isSo_33 ?_
        refine bg_iinc10 (pc := 35) X1 dL_isSo_35 (by omega) ?_
        refine bg_goto (pc := 38) X1 (tgt := 15) dL_isSo_38 (by decide) ?_
        refine ih (k + 1) _ (by omega) ?_ (by omega)
        rw [hv, hkb]
        rfl
  refine bg_iconst (pc := 0) X1 dL_isSo_0 (by decide) ?_
  refine bg_istore6 (pc := 1) X1 dL_isSo_1 ?_
  refine bg_iconst (pc := 3) X1 dL_isSo_3 (by decide) ?_
  refine bg_istore7 (pc := 4) X1 dL_isSo_4 ?_
  refine bg_iconst (pc := 6) X1 dL_isSo_6 (by decide) ?_
  refine bg_istore8 (pc := 7) X1 dL_isSo_7 ?_
  refine bg_iconst (pc := 9) X1 dL_isSo_9 (by decide) ?_
  refine bg_istore9 (pc := 10) X1 dL_isSo_10 ?_
  refine bg_iconst (pc := 12) X1 dL_isSo_12 (by decide) ?_
  refine bg_istore10 (pc := 13) X1 dL_isSo_13 ?_
  exact keys 26 0 0 rfl rfl (by decide)
