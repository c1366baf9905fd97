/-! the law: a cut -/
theorem tot_cut {q : bm_Q} (hq : colOK q) {d b : Int} (hd : 1 ≤ d ∧ d ≤ tot q - 1) (hb : -d ≤ b) : tot (cutL q d b) = tot q + (d - min d (d + b)) - (min (tot q) (max d (d + b)) - d) := by
  have hn := Nat.le_refl q.length
  show tot (prt q 0 d q.length ++ prt q (min d (d + b)) d q.length ++ prt q (min (dep q q.length) (max d (d + b))) (dep q q.length) q.length) = _
  have ht : tot q = dep q q.length := rfl
  rw [tot_app, tot_app, tot_prt hq (by omega) _ hn, tot_prt hq (by omega) _ hn, tot_prt hq (by omega) _ hn]
  omega
set_option maxHeartbeats 20000000 in
theorem a_cut {κ : bg_K} {y : bg_Y} {g : bg_E} {z v h n bed at_ T : Int} {Z : bm_X} (X : bg_Xm κ y mL_acts 7 1 64 (bg_pI (aP g T))) (hI : actI g Z T) (hT : 0 ≤ T ∧ T ≤ 1000000) (hPZ : 0 ≤ g bg_PZ 0) (hPZ2 : g bg_PZ 0 ≤ 1000000) (hv : 0 ≤ v ∧ v < 10000000) (hh : isHo h) (hn : n = ((sq Z.1 h).length : Int)) (hb : 0 ≤ bed ∧ (0 < n → bed < n)) (hat : at_ = 12 * h + 2 * bed) : bg_G κ y (0, 0) 595 [some (.inr 0), some (.inr 198), some (.inr 199), some (.inl z), some (.inl v), some (.inl h), some (.inl n), some (.inl bed), some (.inl at_), none, none, none, none, none, none, none, none, none, none, none, none, none, none, none] [] (bg_O g) := by
  obtain ⟨i1, i2, i3, i4, i5, i6⟩ := hI
  have X1 : bg_X κ y cL_acts RL 7 1 64 := X.1
  have PZ98 : 198 ≤ bg_PZ := PZ_big
  have lh := sq_6 i4 hh
  obtain ⟨q, eq⟩ : ∃ q, q = sq Z.1 h := ⟨_, rfl⟩
  have qq : qH Z h = q := eq.symm
  have okq := (sq_OK i2.1 hh).1
  have hq3 : Z.1.2.2.2.1 h.toNat = q := eq.symm
  have row := i3.2.2.2.1 h.toNat
  rw [hq3] at row
  have i6' : lnS Z.1 = Z.1.2.2.2.2 1 - Z.1.2.2.2.2 2 - Z.1.2.2.2.2 3 + Z.1.2.2.2.2 4 := i6
  have a1 := i5 1 (by omega) (by omega)
  have a2 := i5 2 (by omega) (by omega)
  have a3 := i5 3 (by omega) (by omega)
  have a4 := i5 4 (by omega) (by omega)
  have c1 : g 198 14 = Z.1.2.2.2.2 1 := i3.2.2.2.2 1 (by omega) (by omega)
  have c2 : g 198 15 = Z.1.2.2.2.2 2 := i3.2.2.2.2 2 (by omega) (by omega)
  have c3 : g 198 16 = Z.1.2.2.2.2 3 := i3.2.2.2.2 3 (by omega) (by omega)
  have c4 : g 198 17 = Z.1.2.2.2.2 4 := i3.2.2.2.2 4 (by omega) (by omega)
  rw [← eq] at okq lh
  obtain ⟨L, eL⟩ : ∃ L, L = dep q q.length := ⟨_, rfl⟩
  have eL2 : dep (sq Z.1 h) (sq Z.1 h).length = L := by rw [eL, eq]
  have hL := sq_dep i2.1 hh (Nat.le_refl (sq Z.1 h).length)
  rw [eL2] at hL
  have hL6 : L ≤ 594 := by have := sq_6 i4 hh; omega
  have hqd : dep (qH Z h) (qH Z h).length = L := by rw [qq, eL]
  by_cases hc : L < 2
  · have ex : xCut Z h 1 1 = (INV, Z) := by
      unfold xCut
      rw [if_neg (fun h9 => by have := h9.2.2.1; rw [hqd] at this; omega)]
    refine bg_aload1 (pc := 595) X1 dL_acts_595 ?_
    refine bg_aload2 (pc := 596) X1 dL_acts_596 ?_
    refine bg_iload5 (pc := 597) X1 dL_acts_597 ?_
    refine bq_S3i (pc := 599) X1 (c_L_length i3 i2.1 i4 hh) sL_length lL_61 rfl (by decide) dL_acts_599 (by exact Nat.le_of_ble_eq_true rfl) (by decide) ?_
    rintro _ _ ⟨h9, h8⟩
    obtain rfl := h9.symm
    obtain rfl := h8.symm
    clear h9 h8
    rw [eL2]
    refine bg_istore17 (pc := 602) X1 dL_acts_602 ?_
    refine bg_iload17 (pc := 604) X1 dL_acts_604 ?_
    refine bg_iconst (pc := 606) X1 dL_acts_606 (by decide) ?_
    refine bg_icmp_ge (pc := 607) X1 (tgt := 629) dL_acts_607 (by decide) (fun u607 => ?_) (fun u607 => ?_)
    · omega
    · refine bg_widen (k := 1) (n := 64) (by decide) (by decide) ?_
      refine bg_aload0 (pc := 610) X1 dL_acts_610 ?_
      refine bg_iload5 (pc := 611) X1 dL_acts_611 ?_
      refine bg_iconst (pc := 613) X1 dL_acts_613 (by decide) ?_
      refine bg_iconst (pc := 614) X1 dL_acts_614 (by decide) ?_
      refine bq_V3i (pc := 615) X1 (c_X6_cut (Z := Z) i1 i2) vX6_cut lL_65 rfl (by first | assumption | rfl) (by decide) dL_acts_615 (by exact Nat.le_of_ble_eq_true rfl) (by decide) ?_
      rintro _ g3 ⟨rfl, x3, f3⟩
      rw [ex] at x3 ⊢
      refine bg_ldc (pc := 618) X1 dL_acts_618 kL_56 (by decide) ?_
      refine bg_icmp_ne (pc := 620) X1 (tgt := 627) dL_acts_620 (by decide) (fun u620 => ?_) (fun u620 => ?_)
      · exact absurd rfl u620
      · refine bg_iconst (pc := 623) X1 dL_acts_623 (by decide) ?_
        refine bg_goto (pc := 624) X1 (tgt := 628) dL_acts_624 (by decide) ?_
        exact bq_zret (pc := 628) X rfl (by first | exact Or.inl rfl | exact Or.inr rfl | exact b2i_01 _) dL_acts_628 (⟨rfl, ⟨Z, x3, i2, i3.cg (f3 198 (by omega)) (f3 199 (by omega)), i4, i5.up hT.1, i6⟩, by rw [f3 _ (Or.inr PZ98)]; exact hPZ, by rw [f3 _ (Or.inr PZ98)]; omega⟩)
  · obtain ⟨p0, ep⟩ : ∃ p0, p0 = v / 4 % (L - 1) := ⟨_, rfl⟩
    have hp : 0 ≤ p0 ∧ p0 ≤ L - 2 := by
      have h1 := Int.emod_nonneg (v / 4) (show L - 1 ≠ 0 by omega)
      have h2 := Int.emod_lt_of_pos (v / 4) (show 0 < L - 1 by omega)
      rw [← ep] at h1 h2
      omega
    have hP : 0 ≤ g bg_PZ 0 ∧ g bg_PZ 0 ≤ 1000000 := ⟨hPZ, hPZ2⟩
    have hG : pGv (bg_nw g 64) (bg_n g) 64 := pGv.mk hP
    have n198 : (198 : Nat) ≠ bg_n g := by have := hG.1; omega
    have n199 : (199 : Nat) ≠ bg_n g := by have := hG.1; omega
    have hlo : ∀ x, x < 202 → bg_nw g 64 x = g x := fun x hx => bg_nw_lo hx
    have mid : ∀ b : Int, ¬ b = 0 → -(1 + p0) ≤ b → b ≤ 60 → bg_G κ y (0, 0) 674 [some (.inr 0), some (.inr 198), some (.inr 199), some (.inl z), some (.inl v), some (.inl h), some (.inl n), some (.inl bed), some (.inl at_), none, none, none, none, none, none, none, none, some (.inl L), some (.inl (1 + p0)), some (.inl b), none, none, none, none] [] (bg_O g) := by
      intro b hb0 hb1 hb2
      have ect : ctP (sq Z.1 h) (1 + p0) b 3 = cutL q (1 + p0) b := by
        rw [← eq]
        exact ctP_3 okq (by omega) ⟨by omega, by rw [← eL]; omega⟩ ⟨hb0, by omega⟩
      have hcut := tot_cut okq (d := 1 + p0) (b := b) ⟨by omega, by rw [show tot q = L from eL.symm]; omega⟩ (by omega)
      rw [show tot q = L from eL.symm] at hcut
      -- the end of it
      have fin : ∀ (g2 : bg_E) (k x w : Int), (cutL q (1 + p0) b).length ≤ 6 → x = (if b < 0 then 0 else if L - (1 + p0) < b then L - (1 + p0) else b) → w = (if b < 0 then -b else 0) → (∀ j, j ≠ 198 → j ≠ 199 → j ≠ bg_n g → g2 j = bg_nw g 64 j) → (∀ j, j < 14 → j ≠ 10 + h.toNat → g2 198 j = g 198 j) → g2 198 (10 + h.toNat) = ((cutL q (1 + p0) b).length : Int) → g2 198 14 = Z.1.2.2.2.2 1 → g2 198 15 = Z.1.2.2.2.2 2 → g2 198 16 = Z.1.2.2.2.2 3 + x → g2 198 17 = Z.1.2.2.2.2 4 + w → (∀ j : Nat, ¬ (12 * h.toNat ≤ j ∧ j < 12 * h.toNat + 12) → g2 199 j = g 199 j) → (∀ j, j < (cutL q (1 + p0) b).length → g2 199 (12 * h.toNat + 2 * j) = mrk (cutL q (1 + p0) b) j ∧ g2 199 (12 * h.toNat + 2 * j + 1) = th (cutL q (1 + p0) b) j) → bg_G κ y (1, 64) 820 [some (.inr 0), some (.inr 198), some (.inr 199), some (.inl z), some (.inl v), some (.inl h), some (.inl n), some (.inl bed), some (.inl at_), none, none, none, none, none, none, none, none, some (.inl L), some (.inl (1 + p0)), some (.inl b), some (.inr (bg_n g)), some (.inl ((cutL q (1 + p0) b).length : Int)), some (.inl k), none] [] (bg_O g2) := by
        intro g2 k x w hm hx hw hF f1 f2 f3a f3b f3c f3d f4 f5
        have ex : xCut Z h (1 + p0) b = (((cutL q (1 + p0) b).length : Int), xPut Z (sBook (sBook (sBed Z.1 h.toNat (cutL q (1 + p0) b)) 3 (min L (max (1 + p0) (1 + p0 + b)) - (1 + p0))) 4 (1 + p0 - min (1 + p0) (1 + p0 + b)))) := by
          unfold xCut
          rw [hqd, qq, if_pos ⟨hh, by omega, by omega, hb0, by omega, by omega⟩, if_pos (by omega)]
        have hxe : min L (max (1 + p0) (1 + p0 + b)) - (1 + p0) = x := by
          rw [hx]
          split
          · omega
          · split <;> omega
        have hwe : 1 + p0 - min (1 + p0) (1 + p0 + b) = w := by
          rw [hw]
          split <;> omega
        rw [hxe, hwe] at ex hcut
        have xR : 0 ≤ x ∧ x ≤ 600 := by omega
        have wR : 0 ≤ w ∧ w ≤ 600 := by omega
        have A3 : bg_wr (Z.1.2.2.2.2 3 + x) = Z.1.2.2.2.2 3 + x := bg_wr_id ⟨by omega, by omega⟩
        have A4 : bg_wr (Z.1.2.2.2.2 4 + w) = Z.1.2.2.2.2 4 + w := bg_wr_id ⟨by omega, by omega⟩
        obtain ⟨A, eA⟩ : ∃ A : Nat → Int, A = fup (fup Z.1.2.2.2.2 3 (bg_wr (Z.1.2.2.2.2 3 + x))) 4 (bg_wr (fup Z.1.2.2.2.2 3 (bg_wr (Z.1.2.2.2.2 3 + x)) 4 + w)) := ⟨_, rfl⟩
        have B1 : A 1 = Z.1.2.2.2.2 1 := by rw [eA, fup_ne (by decide), fup_ne (by decide)]
        have B2 : A 2 = Z.1.2.2.2.2 2 := by rw [eA, fup_ne (by decide), fup_ne (by decide)]
        have B3 : A 3 = Z.1.2.2.2.2 3 + x := by rw [eA, fup_ne (by decide), fup_eq, A3]
        have B4 : A 4 = Z.1.2.2.2.2 4 + w := by rw [eA, fup_eq, fup_ne (by decide), A4]
        have eS : xPut Z (sBook (sBook (sBed Z.1 h.toNat (cutL q (1 + p0) b)) 3 x) 4 w) = xPut Z (Z.1.1, Z.1.2.1, Z.1.2.2.1, fup Z.1.2.2.2.1 h.toNat (cutL q (1 + p0) b), A) := by rw [eA]; rfl
        have hX2 : clsR g2 Z := i1.lo (fun j hj => by rw [hF j (by omega) (by omega) (by have := hG.1; omega)]; exact hlo j (by omega))
        have hZ2 : g2 bg_PZ 0 = g bg_PZ 0 + 1 := by rw [hF bg_PZ PZ8 PZ9 (Ne.symm hG.2.1)]; exact bg_nw_0
        refine bg_aload0 (pc := 820) X1 dL_acts_820 ?_
        refine bg_iload5 (pc := 821) X1 dL_acts_821 ?_
        refine bg_iload18 (pc := 823) X1 dL_acts_823 ?_
        refine bg_iload19 (pc := 825) X1 dL_acts_825 ?_
        refine bq_V3i (pc := 827) X1 (c_X6_cut (Z := Z) hX2 i2) vX6_cut lL_65 rfl (by first | assumption | rfl) (by decide) dL_acts_827 (by exact Nat.le_of_ble_eq_true rfl) (by decide) ?_
        rintro _ g3 ⟨rfl, x3, f3⟩
        have okn := ok_cut i2 (a := h) (d := 1 + p0) (b := b)
        rw [ex, eS] at okn
        rw [ex, eS] at x3
        rw [ex]
        refine bg_iload21 (pc := 830) X1 dL_acts_830 ?_
        refine bg_icmp_ne (pc := 832) X1 (tgt := 839) dL_acts_832 (by decide) (fun u832 => ?_) (fun u832 => ?_)
        · exact absurd rfl u832
        · refine bg_iconst (pc := 835) X1 dL_acts_835 (by decide) ?_
          refine bg_goto (pc := 836) X1 (tgt := 840) dL_acts_836 (by decide) ?_
          exact bq_zret (pc := 840) X rfl (by first | exact Or.inl rfl | exact Or.inr rfl | exact b2i_01 _) dL_acts_840 (by
              refine ⟨rfl, act_fin i4 i6 (h := h.toNat) (by omega) x3 okn ?_ hm (fun a h1 h2 => ?_) ?_, ?_, ?_⟩
              · refine rwR.cg (g := g2) ?_ (f3 198 (by omega)) (f3 199 (by omega))
                refine rwR.bed i3 i4 f1 (by omega) f2 f4 f5 (fun a h1 h2 => ?_)
                have hc4 : a = 1 ∨ a = 2 ∨ a = 3 ∨ a = 4 := by omega
                rcases hc4 with rfl | rfl | rfl | rfl
                · rw [B1]; exact f3a
                · rw [B2]; exact f3b
                · rw [B3]; exact f3c
                · rw [B4]; exact f3d
              · have hc4 : a = 1 ∨ a = 2 ∨ a = 3 ∨ a = 4 := by omega
                rcases hc4 with rfl | rfl | rfl | rfl
                · rw [B1]; omega
                · rw [B2]; omega
                · rw [B3]; omega
                · rw [B4]; omega
              · rw [B1, B2, B3, B4, hq3, hcut, show tot q = L from eL.symm]
                omega
              · rw [f3 _ (Or.inr PZ98), hZ2]; omega
              · rw [f3 _ (Or.inr PZ98), hZ2]; omega)
      -- the accounts
      have acc : ∀ (g2 : bg_E) (k : Int), (cutL q (1 + p0) b).length ≤ 6 → (∀ j, j ≠ 199 → j ≠ bg_n g → g2 j = bg_nw g 64 j) → (∀ j : Nat, ¬ (12 * h.toNat ≤ j ∧ j < 12 * h.toNat + 12) → g2 199 j = g 199 j) → (∀ j, j < (cutL q (1 + p0) b).length → g2 199 (12 * h.toNat + 2 * j) = mrk (cutL q (1 + p0) b) j ∧ g2 199 (12 * h.toNat + 2 * j + 1) = th (cutL q (1 + p0) b) j) → bg_G κ y (1, 64) 756 [some (.inr 0), some (.inr 198), some (.inr 199), some (.inl z), some (.inl v), some (.inl h), some (.inl n), some (.inl bed), some (.inl at_), none, none, none, none, none, none, none, none, some (.inl L), some (.inl (1 + p0)), some (.inl b), some (.inr (bg_n g)), some (.inl ((cutL q (1 + p0) b).length : Int)), some (.inl k), none] [] (bg_O g2) := by
        intro g2 k hm hF f4 f5
        have e198 : g2 198 = g 198 := (hF 198 (by omega) n198).trans (hlo 198 (by omega))
        have e10 : (10 + h).toNat = 10 + h.toNat := by omega
        have lst2 : ∀ x w : Int, x = (if b < 0 then 0 else if L - (1 + p0) < b then L - (1 + p0) else b) → w = (if b < 0 then -b else 0) → bg_G κ y (1, 64) 820 [some (.inr 0), some (.inr 198), some (.inr 199), some (.inl z), some (.inl v), some (.inl h), some (.inl n), some (.inl bed), some (.inl at_), none, none, none, none, none, none, none, none, some (.inl L), some (.inl (1 + p0)), some (.inl b), some (.inr (bg_n g)), some (.inl ((cutL q (1 + p0) b).length : Int)), some (.inl k), none] [] (bg_O (bg_up (bg_up (bg_up g2 198 (10 + h.toNat) ((cutL q (1 + p0) b).length : Int)) 198 16 (Z.1.2.2.2.2 3 + x)) 198 17 (Z.1.2.2.2.2 4 + w))) := by
          intro x w hx hw
          refine fin _ k x w hm hx hw (fun j a1 a2 a3 => ?_) (fun j a1 a2 => ?_) ?_ ?_ ?_ ?_ ?_ (fun j a1 => ?_) (fun j a1 => ?_)
          · rw [bg_up_ne a1, bg_up_ne a1, bg_up_ne a1]; exact hF j a2 a3
          · rw [up_k (by omega), up_k (by omega), up_k a2, e198]
          · rw [up_k (by omega), up_k (by omega), up_eq]
          · rw [up_k (by omega), up_k (by omega), up_k (by omega), e198]; exact c1
          · rw [up_k (by omega), up_k (by omega), up_k (by omega), e198]; exact c2
          · rw [up_k (by omega), up_eq]
          · rw [up_eq]
          · rw [bg_up_ne (by decide), bg_up_ne (by decide), bg_up_ne (by decide)]; exact f4 j a1
          · rw [bg_up_ne (by decide), bg_up_ne (by decide), bg_up_ne (by decide)]; exact f5 j a1
        have lst1 : ∀ x : Int, x = (if b < 0 then 0 else if L - (1 + p0) < b then L - (1 + p0) else b) → bg_G κ y (1, 64) 801 [some (.inr 0), some (.inr 198), some (.inr 199), some (.inl z), some (.inl v), some (.inl h), some (.inl n), some (.inl bed), some (.inl at_), none, none, none, none, none, none, none, none, some (.inl L), some (.inl (1 + p0)), some (.inl b), some (.inr (bg_n g)), some (.inl ((cutL q (1 + p0) b).length : Int)), some (.inl k), none] [] (bg_O (bg_up (bg_up g2 198 (10 + h.toNat) ((cutL q (1 + p0) b).length : Int)) 198 16 (Z.1.2.2.2.2 3 + x))) := by
          intro x hx
          refine bg_aload1 (pc := 801) X1 dL_acts_801 ?_
          refine bg_bipush (pc := 802) X1 dL_acts_802 rfl (by decide) ?_
          refine bg_dup2 (pc := 804) X1 dL_acts_804 ?_
          refine bq_iaload (pc := 805) X1 dL_acts_805 (by first | assumption | rfl) (by omega) ?_
          rw [show (17 : Int).toNat = 17 from rfl, up_k (by omega), up_k (by omega), e198, c4]
          refine bg_iload19 (pc := 806) X1 dL_acts_806 ?_
          refine bg_if_ge (pc := 808) X1 (tgt := 817) dL_acts_808 (by decide) (fun u808 => ?_) (fun u808 => ?_)
          · refine bg_iconst (pc := 817) X1 dL_acts_817 (by decide) ?_
            refine bg_iadd (pc := 818) X1 dL_acts_818 (by omega) ?_
            refine bq_iastore (pc := 819) X1 dL_acts_819 (by first | assumption | rfl) (by omega) ?_
            exact lst2 _ _ hx (by first | exact (if_pos (by omega)).symm | exact (if_neg (by omega)).symm)
          · refine bg_iload19 (pc := 811) X1 dL_acts_811 ?_
            refine bg_ineg (pc := 813) X1 dL_acts_813 (by omega) ?_
            refine bg_goto (pc := 814) X1 (tgt := 818) dL_acts_814 (by decide) ?_
            refine bg_iadd (pc := 818) X1 dL_acts_818 (by omega) ?_
            refine bq_iastore (pc := 819) X1 dL_acts_819 (by first | assumption | rfl) (by omega) ?_
            exact lst2 _ _ hx (by first | exact (if_pos (by omega)).symm | exact (if_neg (by omega)).symm)
        refine bg_aload1 (pc := 756) X1 dL_acts_756 ?_
        refine bg_bipush (pc := 757) X1 dL_acts_757 rfl (by decide) ?_
        refine bg_iload5 (pc := 759) X1 dL_acts_759 ?_
        refine bg_iadd (pc := 761) X1 dL_acts_761 (by omega) ?_
        refine bg_iload21 (pc := 762) X1 dL_acts_762 ?_
        refine bq_iastore (pc := 764) X1 dL_acts_764 (by first | assumption | rfl) (by omega) ?_
        rw [e10]
        refine bg_aload1 (pc := 765) X1 dL_acts_765 ?_
        refine bg_bipush (pc := 766) X1 dL_acts_766 rfl (by decide) ?_
        refine bg_dup2 (pc := 768) X1 dL_acts_768 ?_
        refine bq_iaload (pc := 769) X1 dL_acts_769 (by first | assumption | rfl) (by omega) ?_
        rw [show (16 : Int).toNat = 16 from rfl, up_k (by omega), e198, c3]
        refine bg_iload19 (pc := 770) X1 dL_acts_770 ?_
        refine bg_if_ge (pc := 772) X1 (tgt := 779) dL_acts_772 (by decide) (fun u772 => ?_) (fun u772 => ?_)
        · refine bg_iload19 (pc := 779) X1 dL_acts_779 ?_
          refine bg_iload17 (pc := 781) X1 dL_acts_781 ?_
          refine bg_iload18 (pc := 783) X1 dL_acts_783 ?_
          refine bg_isub (pc := 785) X1 dL_acts_785 (by omega) ?_
          refine bg_icmp_le (pc := 786) X1 (tgt := 797) dL_acts_786 (by decide) (fun u786 => ?_) (fun u786 => ?_)
          · refine bg_iload19 (pc := 797) X1 dL_acts_797 ?_
            refine bg_iadd (pc := 799) X1 dL_acts_799 (by omega) ?_
            refine bq_iastore (pc := 800) X1 dL_acts_800 (by first | assumption | rfl) (by omega) ?_
            exact lst1 _ (by first | exact (if_pos (by omega)).symm | (rw [if_neg (by omega)]; first | exact (if_pos (by omega)).symm | exact (if_neg (by omega)).symm))
          · refine bg_iload17 (pc := 789) X1 dL_acts_789 ?_
            refine bg_iload18 (pc := 791) X1 dL_acts_791 ?_
            refine bg_isub (pc := 793) X1 dL_acts_793 (by omega) ?_
            refine bg_goto (pc := 794) X1 (tgt := 799) dL_acts_794 (by decide) ?_
            refine bg_iadd (pc := 799) X1 dL_acts_799 (by omega) ?_
            refine bq_iastore (pc := 800) X1 dL_acts_800 (by first | assumption | rfl) (by omega) ?_
            exact lst1 _ (by first | exact (if_pos (by omega)).symm | (rw [if_neg (by omega)]; first | exact (if_pos (by omega)).symm | exact (if_neg (by omega)).symm))
        · refine bg_iconst (pc := 775) X1 dL_acts_775 (by decide) ?_
          refine bg_goto (pc := 776) X1 (tgt := 799) dL_acts_776 (by decide) ?_
          refine bg_iadd (pc := 799) X1 dL_acts_799 (by omega) ?_
          refine bq_iastore (pc := 800) X1 dL_acts_800 (by first | assumption | rfl) (by omega) ?_
          exact lst1 _ (by first | exact (if_pos (by omega)).symm | (rw [if_neg (by omega)]; first | exact (if_pos (by omega)).symm | exact (if_neg (by omega)).symm))
      -- the beds
      have copy : ∀ (g2 : bg_E), (cutL q (1 + p0) b).length ≤ 6 → cR g2 (bg_n g) (cutL q (1 + p0) b) → (∀ x, x ≠ bg_n g → g2 x = bg_nw g 64 x) → ∀ (r : Nat) (k : Int) (g3 : bg_E), 0 ≤ k → k + r = 2 * ((cutL q (1 + p0) b).length : Int) → (∀ x, x ≠ 199 → g3 x = g2 x) → (∀ j : Nat, g3 199 j = if 12 * h.toNat ≤ j ∧ (j : Int) < 12 * h + k then g2 (bg_n g) (j - 12 * h.toNat) else g 199 j) → bg_G κ y (1, 64) 726 [some (.inr 0), some (.inr 198), some (.inr 199), some (.inl z), some (.inl v), some (.inl h), some (.inl n), some (.inl bed), some (.inl at_), none, none, none, none, none, none, none, none, some (.inl L), some (.inl (1 + p0)), some (.inl b), some (.inr (bg_n g)), some (.inl ((cutL q (1 + p0) b).length : Int)), some (.inl k), none] [] (bg_O g3) := by
        intro g2 hm hR hF r
        induction r with
        | zero =>
          intro k g3 hk0 hk hF3 h199
          refine bg_iload22 (pc := 726) X1 dL_acts_726 ?_
          refine bg_iconst (pc := 728) X1 dL_acts_728 (by decide) ?_
          refine bg_iload21 (pc := 729) X1 dL_acts_729 ?_
          refine bg_imul (pc := 731) X1 dL_acts_731 (by omega) ?_
          refine bg_icmp_ge (pc := 732) X1 (tgt := 756) dL_acts_732 (by decide) (fun u732 => ?_) (fun u732 => ?_)
          · refine acc g3 _ hm (fun j a1 a2 => (hF3 j a1).trans (hF j a2)) (fun j a1 => by rw [h199, if_neg (by omega)]) (fun j a1 => ?_)
            have hr := hR j a1
            exact ⟨by rw [h199, if_pos (by omega), show 12 * h.toNat + 2 * j - 12 * h.toNat = 2 * j by omega]; exact hr.1, by rw [h199, if_pos (by omega), show 12 * h.toNat + 2 * j + 1 - 12 * h.toNat = 2 * j + 1 by omega]; exact hr.2⟩
          · exfalso; omega
        | succ r ih =>
          intro k g3 hk0 hk hF3 h199
          have eP : g3 bg_PZ = bg_nw g 64 bg_PZ := (hF3 _ PZ9).trans (hF _ (Ne.symm hG.2.1))
          have kd : bg_kdd g3 (bg_n g) = some (8, 64) := bg_kdD hG.1 (by rw [eP]; exact hG.2.2.1)
          have klt : bg_n g < bg_n g3 := by rw [bg_n_P eP]; exact hG.2.2.2
          have ec : g3 (bg_n g) = g2 (bg_n g) := hF3 _ (Ne.symm n199)
          refine bg_iload22 (pc := 726) X1 dL_acts_726 ?_
          refine bg_iconst (pc := 728) X1 dL_acts_728 (by decide) ?_
          refine bg_iload21 (pc := 729) X1 dL_acts_729 ?_
          refine bg_imul (pc := 731) X1 dL_acts_731 (by omega) ?_
          refine bg_icmp_ge (pc := 732) X1 (tgt := 756) dL_acts_732 (by decide) (fun u732 => ?_) (fun u732 => ?_)
          · exfalso; omega
          · refine bg_aload2 (pc := 735) X1 dL_acts_735 ?_
            refine bg_bipush (pc := 736) X1 dL_acts_736 rfl (by decide) ?_
            refine bg_iload5 (pc := 738) X1 dL_acts_738 ?_
            refine bg_imul (pc := 740) X1 dL_acts_740 (by omega) ?_
            refine bg_iload22 (pc := 741) X1 dL_acts_741 ?_
            refine bg_iadd (pc := 743) X1 dL_acts_743 (by omega) ?_
            refine bg_aload20 (pc := 744) X1 dL_acts_744 ?_
            refine bg_iload22 (pc := 746) X1 dL_acts_746 ?_
            refine bq_ialoadD (pc := 748) X1 (N := 64) dL_acts_748 kd klt (by omega) ?_
            rw [ec]
            refine bq_iastore (pc := 749) X1 dL_acts_749 (by first | assumption | rfl) (by omega) ?_
            refine bg_iinc22 (pc := 750) X1 dL_acts_750 (by omega) ?_
            refine bg_goto (pc := 753) X1 (tgt := 726) dL_acts_753 (by decide) ?_
            refine ih (k + 1) _ (by omega) (by omega) (fun x hx => by rw [bg_up_ne hx]; exact hF3 x hx) (fun j => ?_)
            by_cases hj : j = (12 * h + k).toNat
            · subst hj
              rw [up_eq, if_pos (by omega), show (12 * h + k).toNat - 12 * h.toNat = k.toNat by omega]
            · rw [up_k hj, h199]
              by_cases h7 : 12 * h.toNat ≤ j ∧ (j : Int) < 12 * h + k
              · rw [if_pos h7, if_pos (by omega)]
              · rw [if_neg h7, if_neg (by omega)]
      refine bg_bipush (pc := 674) X1 dL_acts_674 rfl (by decide) ?_
      refine bq_newI (pc := 676) X1 (N := 64) dL_acts_676 rfl (by decide) hP (by decide) (by decide) ?_
      refine bg_astore20 (pc := 678) X1 dL_acts_678 ?_
      refine bg_aload1 (pc := 680) X1 dL_acts_680 ?_
      refine bg_aload2 (pc := 681) X1 dL_acts_681 ?_
      refine bg_iload5 (pc := 682) X1 dL_acts_682 ?_
      refine bg_iload18 (pc := 684) X1 dL_acts_684 ?_
      refine bg_iload19 (pc := 686) X1 dL_acts_686 ?_
      refine bg_aload20 (pc := 688) X1 dL_acts_688 ?_
      refine bq_S6i (pc := 690) X1 (c_L_cuts (S := Z.1) (i3.cg (hlo 198 (by omega)) (hlo 199 (by omega))) i2.1 i4 hh ⟨by omega, by omega⟩ ⟨by omega, by omega⟩ ⟨hG.1, hG.2.1, hG.2.2.1, hG.2.2.2⟩) sL_cuts lL_68 rfl (by decide) dL_acts_690 (by exact Nat.le_of_ble_eq_true rfl) (by decide) ?_
      rintro _ g2 ⟨rfl, R2, F2, l18⟩
      rw [ect] at R2 l18 ⊢
      have hX2 : clsR g2 Z := i1.lo (fun j hj => by rw [F2 j (by have := hG.1; omega)]; exact hlo j (by omega))
      have hZ2 : g2 bg_PZ 0 = g bg_PZ 0 + 1 := by rw [F2 bg_PZ (Ne.symm hG.2.1)]; exact bg_nw_0
      have exN : xCut Z h L b = (INV, Z) := by
        unfold xCut
        rw [if_neg (fun h9 => by have := h9.2.2.1; rw [hqd] at this; omega)]
      refine bg_istore21 (pc := 693) X1 dL_acts_693 ?_
      refine bg_iload21 (pc := 695) X1 dL_acts_695 ?_
      refine bg_bipush (pc := 697) X1 dL_acts_697 rfl (by decide) ?_
      refine bg_icmp_le (pc := 699) X1 (tgt := 723) dL_acts_699 (by decide) (fun u699 => ?_) (fun u699 => ?_)
      · refine bg_iconst (pc := 723) X1 dL_acts_723 (by decide) ?_
        refine bg_istore22 (pc := 724) X1 dL_acts_724 ?_
        exact copy g2 (by omega) R2 F2 (2 * (cutL q (1 + p0) b).length) 0 g2 (Int.le_refl 0) (by omega) (fun _ _ => rfl) (fun j => by rw [if_neg (by omega), F2 199 n199, hlo 199 (by omega)])
      · refine bg_aload0 (pc := 702) X1 dL_acts_702 ?_
        refine bg_iload5 (pc := 703) X1 dL_acts_703 ?_
        refine bg_iload17 (pc := 705) X1 dL_acts_705 ?_
        refine bg_iload19 (pc := 707) X1 dL_acts_707 ?_
        refine bq_V3i (pc := 709) X1 (c_X6_cut (Z := Z) hX2 i2) vX6_cut lL_65 rfl (by first | assumption | rfl) (by decide) dL_acts_709 (by exact Nat.le_of_ble_eq_true rfl) (by decide) ?_
        rintro _ g3 ⟨rfl, x3, f3⟩
        rw [exN] at x3 ⊢
        refine bg_ldc (pc := 712) X1 dL_acts_712 kL_56 (by decide) ?_
        refine bg_icmp_ne (pc := 714) X1 (tgt := 721) dL_acts_714 (by decide) (fun u714 => ?_) (fun u714 => ?_)
        · exact absurd rfl u714
        · refine bg_iconst (pc := 717) X1 dL_acts_717 (by decide) ?_
          refine bg_goto (pc := 718) X1 (tgt := 722) dL_acts_718 (by decide) ?_
          exact bq_zret (pc := 722) X rfl (by first | exact Or.inl rfl | exact Or.inr rfl | exact b2i_01 _) dL_acts_722 (⟨rfl, ⟨Z, x3, i2, i3.cg ((f3 198 (by omega)).trans ((F2 198 n198).trans (hlo 198 (by omega)))) ((f3 199 (by omega)).trans ((F2 199 n199).trans (hlo 199 (by omega)))), i4, i5.up hT.1, i6⟩, by rw [f3 _ (Or.inr PZ98), hZ2]; omega, by rw [f3 _ (Or.inr PZ98), hZ2]; omega⟩)
    obtain ⟨b0, eb⟩ : ∃ b0, b0 = v / 7 % (1 + p0) := ⟨_, rfl⟩
    have hb0 : 0 ≤ b0 ∧ b0 ≤ p0 := by
      have h1 := Int.emod_nonneg (v / 7) (show 1 + p0 ≠ 0 by omega)
      have h2 := Int.emod_lt_of_pos (v / 7) (show 0 < 1 + p0 by omega)
      rw [← eb] at h1 h2
      omega
    refine bg_aload1 (pc := 595) X1 dL_acts_595 ?_
    refine bg_aload2 (pc := 596) X1 dL_acts_596 ?_
    refine bg_iload5 (pc := 597) X1 dL_acts_597 ?_
    refine bq_S3i (pc := 599) X1 (c_L_length i3 i2.1 i4 hh) sL_length lL_61 rfl (by decide) dL_acts_599 (by exact Nat.le_of_ble_eq_true rfl) (by decide) ?_
    rintro _ _ ⟨h9, h8⟩
    obtain rfl := h9.symm
    obtain rfl := h8.symm
    clear h9 h8
    rw [eL2]
    refine bg_istore17 (pc := 602) X1 dL_acts_602 ?_
    refine bg_iload17 (pc := 604) X1 dL_acts_604 ?_
    refine bg_iconst (pc := 606) X1 dL_acts_606 (by decide) ?_
    refine bg_icmp_ge (pc := 607) X1 (tgt := 629) dL_acts_607 (by decide) (fun u607 => ?_) (fun u607 => ?_)
    · refine bg_iconst (pc := 629) X1 dL_acts_629 (by decide) ?_
      refine bg_iload4 (pc := 630) X1 dL_acts_630 ?_
      refine bg_iconst (pc := 632) X1 dL_acts_632 (by decide) ?_
      refine bg_idiv (pc := 633) X1 dL_acts_633 (by omega) ?_
      refine bg_iload17 (pc := 634) X1 dL_acts_634 ?_
      refine bg_iconst (pc := 636) X1 dL_acts_636 (by decide) ?_
      refine bg_isub (pc := 637) X1 dL_acts_637 (by omega) ?_
      refine bg_irem (pc := 638) X1 dL_acts_638 (by omega) ?_
      rw [← ep]
      refine bg_iadd (pc := 639) X1 dL_acts_639 (by omega) ?_
      refine bg_istore18 (pc := 640) X1 dL_acts_640 ?_
      refine bg_iload4 (pc := 642) X1 dL_acts_642 ?_
      refine bg_iconst (pc := 644) X1 dL_acts_644 (by decide) ?_
      refine bg_irem (pc := 645) X1 dL_acts_645 (by omega) ?_
      refine bg_if_ne (pc := 646) X1 (tgt := 662) dL_acts_646 (by decide) (fun u646 => ?_) (fun u646 => ?_)
      · refine bg_iconst (pc := 662) X1 dL_acts_662 (by decide) ?_
        refine bg_iload4 (pc := 663) X1 dL_acts_663 ?_
        refine bg_bipush (pc := 665) X1 dL_acts_665 rfl (by decide) ?_
        refine bg_idiv (pc := 667) X1 dL_acts_667 (by omega) ?_
        refine bg_iload18 (pc := 668) X1 dL_acts_668 ?_
        refine bg_irem (pc := 670) X1 dL_acts_670 (by omega) ?_
        rw [← eb]
        refine bg_isub (pc := 671) X1 dL_acts_671 (by omega) ?_
        refine bg_istore19 (pc := 672) X1 dL_acts_672 ?_
        exact mid _ (by omega) (by omega) (by omega)
      · refine bg_iconst (pc := 649) X1 dL_acts_649 (by decide) ?_
        refine bg_iload4 (pc := 650) X1 dL_acts_650 ?_
        refine bg_bipush (pc := 652) X1 dL_acts_652 rfl (by decide) ?_
        refine bg_idiv (pc := 654) X1 dL_acts_654 (by omega) ?_
        refine bg_bipush (pc := 655) X1 dL_acts_655 rfl (by decide) ?_
        refine bg_irem (pc := 657) X1 dL_acts_657 (by omega) ?_
        refine bg_iadd (pc := 658) X1 dL_acts_658 (by omega) ?_
        refine bg_goto (pc := 659) X1 (tgt := 672) dL_acts_659 (by decide) ?_
        refine bg_istore19 (pc := 672) X1 dL_acts_672 ?_
        exact mid _ (by omega) (by omega) (by omega)
    · omega
theorem c_L_acts {y : bg_Y} {g : bg_E} {z T : Int} {Z : bm_X} (hI : actI g Z T) (hT : 0 ≤ T ∧ T ≤ 1000000) (hPZ : 0 ≤ g bg_PZ 0 ∧ g bg_PZ 0 ≤ 1000000) : bg_S y 7 1 64 mL_acts [.inr 0, .inr 198, .inr 199, .inl z] (bg_O g) (bg_pI (aP g T)) := by
  refine bg_enter pnL (Nat.le_of_ble_eq_true rfl) (fun κ X hR hg => ?_)
  have X1 : bg_X κ y cL_acts RL 7 1 64 := X.1
  show bg_G κ y (0, 0) 0 [some (.inr 0), some (.inr 198), some (.inr 199), some (.inl z), none, none, none, none, none, none, none, none, none, none, none, none, none, none, none, none, none, none, none, none] [] (bg_O g)
  obtain ⟨v, ev⟩ : ∃ v, v = lo (bg_shr z 5) 10000000 := ⟨_, rfl⟩
  have hv : 0 ≤ v ∧ v < 10000000 := by rw [ev]; exact lo_R (by decide)
  have hh : isHo (v % 4) := ⟨by omega, by omega⟩
  have h6 := sq_6 hI.2.2.2.1 hh
  have h20 := lo_R (v := z) (n := 20) (by decide)
  have sw : ∀ n bed : Int, n = ((sq Z.1 (v % 4)).length : Int) → (0 ≤ bed ∧ (0 < n → bed < n) ∧ bed ≤ 10) → bg_G κ y (0, 0) 43 [some (.inr 0), some (.inr 198), some (.inr 199), some (.inl z), some (.inl v), some (.inl (v % 4)), some (.inl n), some (.inl bed), none, none, none, none, none, none, none, none, none, none, none, none, none, none, none, none] [] (bg_O g) := by
    intro n bed hn hb
    have W : ∀ {pc : Nat} {ls : List (Option bg_V)}, bg_G κ y (1, 64) pc ls [] (bg_O g) → bg_G κ y (0, 0) pc ls [] (bg_O g) := fun kk => bg_widen (k := 1) (n := 64) (by decide) (by decide) kk
    refine bg_bipush (pc := 43) X1 dL_acts_43 rfl (by decide) ?_
    refine bg_iload5 (pc := 45) X1 dL_acts_45 ?_
    refine bg_imul (pc := 47) X1 dL_acts_47 (by omega) ?_
    refine bg_iconst (pc := 48) X1 dL_acts_48 (by decide) ?_
    refine bg_iload7 (pc := 49) X1 dL_acts_49 ?_
    refine bg_imul (pc := 51) X1 dL_acts_51 (by omega) ?_
    refine bg_iadd (pc := 52) X1 dL_acts_52 (by omega) ?_
    refine bg_istore8 (pc := 53) X1 dL_acts_53 ?_
    refine bg_iload3 (pc := 55) X1 dL_acts_55 ?_
    refine bg_bipush (pc := 56) X1 dL_acts_56 rfl (by decide) ?_
    refine bq_S2i (pc := 58) X1 (c_L_low (by decide)) sL_low lL_39 rfl (by decide) dL_acts_58 (by exact Nat.le_of_ble_eq_true rfl) (by decide) ?_
    rintro _ _ ⟨h9, h8⟩
    obtain rfl := h9.symm
    obtain rfl := h8.symm
    clear h9 h8
    refine bg_tsw12 (pc := 61) X1 (t0 := 124) (t1 := 124) (t2 := 124) (t3 := 235) (t4 := 297) (t5 := 349) (t6 := 460) (t7 := 460) (t8 := 595) (t9 := 595) (t10 := 595) (t11 := 595) (td := 841) dL_acts_61 (by decide) (by decide) (by decide) (by decide) (by decide) (by decide) (by decide) (by decide) (by decide) (by decide) (by decide) (by decide) (by decide) (fun u61 => ?_) (fun u61 => ?_) (fun u61 => ?_) (fun u61 => ?_) (fun u61 => ?_) (fun u61 => ?_) (fun u61 => ?_) (fun u61 => ?_) (fun u61 => ?_) (fun u61 => ?_) (fun u61 => ?_) (fun u61 => ?_) (fun u61 => ?_) 
    · exact W (a_num X hI hT hPZ.1 hv hh hn ⟨hb.1, hb.2.1⟩ rfl)
    · exact W (a_num X hI hT hPZ.1 hv hh hn ⟨hb.1, hb.2.1⟩ rfl)
    · exact W (a_num X hI hT hPZ.1 hv hh hn ⟨hb.1, hb.2.1⟩ rfl)
    · exact W (a_key X hI hT hPZ.1 hv hh hn ⟨hb.1, hb.2.1⟩ rfl)
    · exact W (a_col X hI hT hPZ.1 hv hh hn ⟨hb.1, hb.2.1⟩ rfl)
    · exact W (a_rem X hI hT hPZ.1 hv hh hn ⟨hb.1, hb.2.1⟩ rfl)
    · exact W (a_thk X hI hT hPZ.1 hv hh hn ⟨hb.1, hb.2.1⟩ rfl)
    · exact W (a_thk X hI hT hPZ.1 hv hh hn ⟨hb.1, hb.2.1⟩ rfl)
    · exact a_cut X hI hT hPZ.1 hPZ.2 hv hh hn ⟨hb.1, hb.2.1⟩ rfl
    · exact a_cut X hI hT hPZ.1 hPZ.2 hv hh hn ⟨hb.1, hb.2.1⟩ rfl
    · exact a_cut X hI hT hPZ.1 hPZ.2 hv hh hn ⟨hb.1, hb.2.1⟩ rfl
    · exact a_cut X hI hT hPZ.1 hPZ.2 hv hh hn ⟨hb.1, hb.2.1⟩ rfl
    · exact W (a_add X hI hT hPZ.1 hv hh hn ⟨hb.1, hb.2.1⟩ rfl)
  refine bg_iload3 (pc := 0) X1 dL_acts_0 ?_
  refine bg_iconst (pc := 1) X1 dL_acts_1 (by decide) ?_
  refine bg_ishr (pc := 2) X1 dL_acts_2 ?_
  refine bg_ldc (pc := 3) X1 dL_acts_3 kL_38 (by decide) ?_
  refine bq_S2i (pc := 5) X1 (c_L_low (by decide)) sL_low lL_39 rfl (by decide) dL_acts_5 (by exact Nat.le_of_ble_eq_true rfl) (by decide) ?_
  rintro _ _ ⟨h9, h8⟩
  obtain rfl := h9.symm
  obtain rfl := h8.symm
  clear h9 h8
  rw [← ev]
  refine bg_istore4 (pc := 8) X1 dL_acts_8 ?_
  refine bg_iload4 (pc := 10) X1 dL_acts_10 ?_
  refine bg_iconst (pc := 12) X1 dL_acts_12 (by decide) ?_
  refine bg_irem (pc := 13) X1 dL_acts_13 (by omega) ?_
  refine bg_istore5 (pc := 14) X1 dL_acts_14 ?_
  refine bg_aload1 (pc := 16) X1 dL_acts_16 ?_
  refine bg_bipush (pc := 17) X1 dL_acts_17 rfl (by decide) ?_
  refine bg_iload5 (pc := 19) X1 dL_acts_19 ?_
  refine bg_iadd (pc := 21) X1 dL_acts_21 (by omega) ?_
  refine bq_iaload (pc := 22) X1 dL_acts_22 (by first | assumption | rfl) (by omega) ?_
  rw [rw_len hI.2.2.1 hh]
  refine bg_istore6 (pc := 23) X1 dL_acts_23 ?_
  refine bg_iload6 (pc := 25) X1 dL_acts_25 ?_
  refine bg_if_ne (pc := 27) X1 (tgt := 34) dL_acts_27 (by decide) (fun u27 => ?_) (fun u27 => ?_)
  · refine bg_iload4 (pc := 34) X1 dL_acts_34 ?_
    refine bg_iconst (pc := 36) X1 dL_acts_36 (by decide) ?_
    refine bg_idiv (pc := 37) X1 dL_acts_37 (by omega) ?_
    refine bg_iload6 (pc := 38) X1 dL_acts_38 ?_
    refine bg_irem (pc := 40) X1 dL_acts_40 (by omega) ?_
    refine bg_istore7 (pc := 41) X1 dL_acts_41 ?_
    first
    | exact sw _ _ rfl ⟨Int.le_refl 0, fun h => by omega, by decide⟩
    | exact sw _ _ rfl ⟨Int.emod_nonneg _ (by omega), fun h => Int.emod_lt_of_pos _ h, by have := Int.emod_lt_of_pos (v / 4) (show 0 < ((sq Z.1 (v % 4)).length : Int) by omega); omega⟩
  · refine bg_iconst (pc := 30) X1 dL_acts_30 (by decide) ?_
    refine bg_goto (pc := 31) X1 (tgt := 41) dL_acts_31 (by decide) ?_
    refine bg_istore7 (pc := 41) X1 dL_acts_41 ?_
    first
    | exact sw _ _ rfl ⟨Int.le_refl 0, fun h => by omega, by decide⟩
    | exact sw _ _ rfl ⟨Int.emod_nonneg _ (by omega), fun h => Int.emod_lt_of_pos _ h, by have := Int.emod_lt_of_pos (v / 4) (show 0 < ((sq Z.1 (v % 4)).length : Int) by omega); omega⟩
