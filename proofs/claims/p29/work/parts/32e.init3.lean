/-! the class's and the model's constructors -/
def bm_X0 : bm_X := (bm_S0, [], (fun _ => none), [])
theorem bm_S0_ok : staOK bm_S0 := by
  refine ⟨by decide, by decide, by decide, by decide, by decide, by decide, fun h hh => (show (-9999 : Int) ≤ 0 ∧ (0 : Int) ≤ 9999 from ⟨by decide, by decide⟩), fun h hh => ⟨fun p hp => (by cases hp), Nat.zero_le _⟩⟩
theorem bm_X0_ok : okX bm_X0 := ⟨bm_S0_ok, fun T hT => (by cases hT), fun i T hi hT => (by cases hT)⟩
theorem c_X6_init {y : bg_Y} {r : Nat → Nat → Option Nat} {g : bg_E} : bg_S y 4 197 4846 mX6_init [.inr 0] (1, r, g) (bg_pC 198 (fun r' g' => done r' 0 198 ∧ clsR g' bm_X0)) := by
  have b1 : bg_sta 1 := bg_stas 1 (by simp)
  have c153 : bg_col 153 := bg_cols 153 (by simp)
  refine bg_enterI pnX6 (Nat.le_of_ble_eq_true rfl) (fun κ X hin hR hg => ?_)
  have X1 : bg_X κ y cX6_init RX6 4 197 4846 := X.1
  have hin : κ.2.2.2.2.2.2.2.2.1.name = "<init>" := hin
  show bg_G κ y (0, 0) 0 [some (.inr 0), none] [] (1, r, g)
  have tail : ∀ (r2 : Nat → Nat → Option Nat) (g2 : bg_E) (l1 : Option bg_V), rowL r2 0 [(2, 115), (1, 17), (0, 1)] → done r2 1 148 → staR g2 1 bm_S0 → g2 17 1 = 0 → g2 17 2 = 0 → bg_G κ y (147, 2045) 60 [some (.inr 0), l1] [] (148, r2, g2) := by
    intro r2 g2 l1 J1 J2 J3 J4 J5
    refine bg_aload0 (pc := 60) X1 dX6_init_60 ?_
    refine bg_iconst (pc := 61) X1 dX6_init_61 (by decide) ?_
    refine bg_putI (pc := 62) X1 dX6_init_62 fX6_27 (by first | assumption | rfl) rfl (by omega) ?_
    refine bg_aload0 (pc := 65) X1 dX6_init_65 ?_
    refine bg_new (pc := 66) X1 (ci := 5) dX6_init_66 rfl qX6_31 qI_RX5 iC_RX5 (by first | assumption | rfl) (by omega) (by omega) ?_
    refine bg_dup (pc := 69) X1 dX6_init_69 ?_
    refine bo_I (pc := 70) X1 (c_X5_init) bX5_init nX5_init rfl rfl lX6_33 (by decide) (by omega) (by omega) dX6_init_70 (by exact Nat.le_of_ble_eq_true rfl) ?_
    rintro ra ga ⟨a1, a2, a3⟩
    refine bg_putR (pc := 73) X1 dX6_init_73 fX6_34 (by first | assumption | rfl) rfl (by omega) hin rfl ?_
    refine bg_aload0 (pc := 76) X1 dX6_init_76 ?_
    refine bg_new (pc := 77) X1 (ci := 0) dX6_init_77 rfl qX6_38 qI_RX0 iC_RX0 (by first | assumption | rfl) (by omega) (by omega) ?_
    refine bg_dup (pc := 80) X1 dX6_init_80 ?_
    refine bo_I (pc := 81) X1 (c_X0_init c153) bX0_init nX0_init rfl rfl lX6_40 (by decide) (by omega) (by omega) dX6_init_81 (by exact Nat.le_of_ble_eq_true rfl) ?_
    rintro rb gb ⟨b4, b5, b6, b7⟩
    refine bg_putR (pc := 84) X1 dX6_init_84 fX6_41 (by first | assumption | rfl) rfl (by omega) hin rfl ?_
    refine bg_aload0 (pc := 87) X1 dX6_init_87 ?_
    refine bg_new (pc := 88) X1 (ci := 2) dX6_init_88 rfl qX6_45 qI_RX2 iC_RX2 (by first | assumption | rfl) (by omega) (by omega) ?_
    refine bg_dup (pc := 91) X1 dX6_init_91 ?_
    refine bo_I (pc := 92) X1 (c_X2_init (q := 156) (Or.inl rfl)) bX2_init nX2_init rfl rfl lX6_47 (by decide) (by omega) (by omega) dX6_init_92 (by exact Nat.le_of_ble_eq_true rfl) ?_
    rintro rc gc ⟨e1, e2, e3⟩
    refine bg_putR (pc := 95) X1 dX6_init_95 fX6_48 (by first | assumption | rfl) rfl (by omega) hin rfl ?_
    refine bg_aload0 (pc := 98) X1 dX6_init_98 ?_
    refine bg_new (pc := 99) X1 (ci := 2) dX6_init_99 rfl qX6_45 qI_RX2 iC_RX2 (by first | assumption | rfl) (by omega) (by omega) ?_
    refine bg_dup (pc := 102) X1 dX6_init_102 ?_
    refine bo_I (pc := 103) X1 (c_X2_init (q := 170) (Or.inr (Or.inl rfl))) bX2_init nX2_init rfl rfl lX6_47 (by decide) (by omega) (by omega) dX6_init_103 (by exact Nat.le_of_ble_eq_true rfl) ?_
    rintro rd gd ⟨f1, f2, f3⟩
    refine bg_putR (pc := 106) X1 dX6_init_106 fX6_52 (by first | assumption | rfl) rfl (by omega) hin rfl ?_
    refine bg_aload0 (pc := 109) X1 dX6_init_109 ?_
    refine bg_new (pc := 110) X1 (ci := 2) dX6_init_110 rfl qX6_45 qI_RX2 iC_RX2 (by first | assumption | rfl) (by omega) (by omega) ?_
    refine bg_dup (pc := 113) X1 dX6_init_113 ?_
    refine bo_I (pc := 114) X1 (c_X2_init (q := 184) (Or.inr (Or.inr rfl))) bX2_init nX2_init rfl rfl lX6_47 (by decide) (by omega) (by omega) dX6_init_114 (by exact Nat.le_of_ble_eq_true rfl) ?_
    rintro re ge ⟨h1, h2, h3⟩
    refine bg_putR (pc := 117) X1 dX6_init_117 fX6_55 (by first | assumption | rfl) rfl (by omega) hin rfl ?_
    exact bg_vret (pc := 120) X rfl dX6_init_120 (fun hg9 => by
        have Gd : gl 184 gd ge := (gl.rf.z (by omega)).low h1 (by omega)
        have Gc : gl 170 gc ge := ((gl.rf.z (by omega)).low f1 (by omega)).tr Gd (by omega)
        have Gb : gl 156 gb ge := ((gl.rf.z (by omega)).low e1 (by omega)).tr Gc (by omega)
        have Ga : gl 153 ga ge := ((gl.rf.z (by omega)).low b4 (by omega)).tr Gb (by omega)
        have G2 : gl 148 (bg_up g2 0 3 0) ge := ((gl.rf.z (by omega)).low a1 (by omega)).tr Ga (by omega)
        have R1 := (((J1.z (n := 148) (by decide)).low a1 (by decide)).put (k := 4) (v := 148) rfl)
        have R2 := (((R1.z (n := 153) (by decide)).low b4 (by decide)).put (k := 5) (v := 153) rfl)
        have R3 := (((R2.z (n := 156) (by decide)).low e1 (by decide)).put (k := 6) (v := 156) rfl)
        have R4 := (((R3.z (n := 170) (by decide)).low f1 (by decide)).put (k := 7) (v := 170) rfl)
        have R5 := (((R4.z (n := 184) (by decide)).low h1 (by decide)).put (k := 8) (v := 184) rfl)
        have D1 := (((J2.z (n := 148) (by decide)).low a1 (by decide)).app a2).uR (n := 0) (k := 4) (v := some 148) (by decide)
        have D2 := (((D1.z (n := 153) (by decide)).low b4 (by decide)).app (colF.done c153 b5)).uR (n := 0) (k := 5) (v := some 153) (by decide)
        have D3 := (((D2.z (n := 156) (by decide)).low e1 (by decide)).app e2).uR (n := 0) (k := 6) (v := some 156) (by decide)
        have D4 := (((D3.z (n := 170) (by decide)).low f1 (by decide)).app f2).uR (n := 0) (k := 7) (v := some 170) (by decide)
        have D5 := (((D4.z (n := 184) (by decide)).low h1 (by decide)).app h2).uR (n := 0) (k := 8) (v := some 184) (by decide)
        refine ⟨_, _, rfl, rfl, (done.one (R5.ok (ci := 6) (N := 9) rfl (by decide +kernel))).app D5, ?_⟩
        have t0 : ∀ (q : Nat) (g0 : bg_E), tabZ g0 q → gl (q + 14) g0 ge → tabOK ge q := fun q g0 h1 h2 k hk => by
          rw [h2 (q + 9) (by omega), h1 k]
          exact ⟨by decide, by decide⟩
        refine ⟨J3.cg (fun x h1 h2 => (G2 x (by omega)).trans (bg_up_ne (by omega))), ⟨?_, Nat.zero_le _, ?_, ?_, fun j S hj => (by cases hj)⟩, ?_, fun i T hi hT => (by cases hT), ⟨?_, Nat.zero_le _, fun k hk => absurd hk (Nat.not_lt_zero _), fun x hx => (by cases hx)⟩, t0 156 gc e3 Gc, t0 170 gd f3 Gd, t0 184 ge h3 gl.rf⟩
        · rw [G2 17 (by decide), up_a (by decide)]; exact J4
        · rw [G2 17 (by decide), up_a (by decide), J5]; decide
        · rw [G2 17 (by decide), up_a (by decide), J5]; decide
        · rw [G2 0 (by decide), up_eq]; rfl
        · rw [Ga 148 (by decide)]; exact a3)
  have loop : ∀ (m k : Nat) (r2 : Nat → Nat → Option Nat) (g2 : bg_E), k + m = 2 → rowL r2 0 [(2, 115), (1, 17), (0, 1)] → done r2 1 115 → (∀ p, p < k → r2 115 p = some (116 + 16 * p)) → done r2 116 (116 + 16 * k) → staR g2 1 bm_S0 → g2 17 1 = 0 → g2 17 2 = 0 → bg_G κ y (115 + 16 * k, 1593 + 226 * k) 36 [some (.inr 0), some (.inl (k : Int))] [] (116 + 16 * k, r2, g2) := by
    intro m
    induction m with
    | zero =>
      intro k r2 g2 hk J1 J2 J6 J7 J3 J4 J5
      obtain rfl : k = 2 := by omega
      refine bg_to (d1 := 147) (d2 := 2045) (n' := 148) rfl rfl rfl ?_
      refine bg_iload1 (pc := 36) X1 dX6_init_36 ?_
      refine bg_iconst (pc := 37) X1 dX6_init_37 (by decide) ?_
      refine bg_icmp_ge (pc := 38) X1 (tgt := 60) dX6_init_38 (by decide) (fun u38 => ?_) (fun u38 => ?_)
      · refine tail _ _ _ J1 (J2.app (done.app (done.one ?_) J7)) J3 J4 J5
        intro ci N k h1 h2 h3 h4
        have hk : bg_kd 115 = some (9, 2) := rfl
        cases hk.symm.trans h1
        exact (J6 k h2).trans (bg_imgs k h2).1.symm
      · exfalso; omega
    | succ m ih =>
      intro k r2 g2 hk J1 J2 J6 J7 J3 J4 J5
      have kc := (bg_imgs k (by omega)).2
      have j115 : r2 0 2 = some 115 := J1 2 115 rfl
      refine bg_iload1 (pc := 36) X1 dX6_init_36 ?_
      refine bg_iconst (pc := 37) X1 dX6_init_37 (by decide) ?_
      refine bg_icmp_ge (pc := 38) X1 (tgt := 60) dX6_init_38 (by decide) (fun u38 => ?_) (fun u38 => ?_)
      · exfalso; omega
      · refine bg_aload0 (pc := 41) X1 dX6_init_41 ?_
        refine bg_getR (pc := 42) X1 dX6_init_42 fX6_23 (by first | assumption | rfl) rfl (by omega) ((by first | assumption | rfl)) ?_
        refine bg_iload1 (pc := 45) X1 dX6_init_45 ?_
        refine bg_new (pc := 46) X1 (ci := 4) dX6_init_46 rfl qX6_7 qI_RX4 iC_RX4 kc.1 (by omega) (by omega) ?_
        refine bg_dup (pc := 49) X1 dX6_init_49 ?_
        refine bo_I (pc := 50) X1 (c_X4_init kc) bX4_init nX4_init rfl rfl lX6_9 (by decide) (by omega) (by omega) dX6_init_50 (by exact Nat.le_of_ble_eq_true rfl) ?_
        rintro r3 g3 ⟨x1, x2, x3⟩
        refine bg_aast (pc := 53) X1 dX6_init_53 (by first | assumption | rfl) (kc.1) (by decide) (by omega) (by omega) (by omega) ?_
        refine bg_iinc1 (pc := 54) X1 dX6_init_54 (by omega) ?_
        refine bg_goto (pc := 57) X1 (tgt := 36) dX6_init_57 (by decide) ?_
        refine bg_to (by omega) (by omega) (by omega) (ih (k + 1) _ _ (by omega) ?_ ?_ (fun p hp => ?_) ?_ (J3.cg (fun x h1 h2 => ?_)) ?_ ?_)
        · exact ((J1.z (by omega)).low x1 (by omega)).uR (by omega)
        · exact ((J2.z (by omega)).low x1 (by omega)).uR (by omega)
        · rw [show ((k : Int)).toNat = k by omega]
          by_cases e : p = k
          · rw [e, upR_eq]
          · rw [upR_k e, (x1 115 (by omega)).1, zR_a (by omega)]; exact J6 p (by omega)
        · have d1 : done r3 116 (116 + 16 * k) := (J7.z (by omega)).low x1 (by omega)
          have d2 := d1.app (staF.done kc x2)
          rw [show 116 + 16 * (k + 1) = 116 + 16 * k + 16 by omega]
          exact d2.uR (by omega)
        · rw [(x1 x (by omega)).2, bg_z_ne (by omega)]
        · rw [(x1 17 (by omega)).2, z_a (by omega)]; exact J4
        · rw [(x1 17 (by omega)).2, z_a (by omega)]; exact J5
  refine bg_aload0 (pc := 0) X1 dX6_init_0 ?_
  refine bg_objI (pc := 1) X1 lX6_1 dX6_init_1 (by decide) (by exact Nat.le_of_ble_eq_true rfl) ?_
  refine bg_aload0 (pc := 4) X1 dX6_init_4 ?_
  refine bg_new (pc := 5) X1 (ci := 4) dX6_init_5 rfl qX6_7 qI_RX4 iC_RX4 (by first | assumption | rfl) (by omega) (by omega) ?_
  refine bg_dup (pc := 8) X1 dX6_init_8 ?_
  refine bo_I (pc := 9) X1 (c_X4_init b1) bX4_init nX4_init rfl rfl lX6_9 (by decide) (by omega) (by omega) dX6_init_9 (by exact Nat.le_of_ble_eq_true rfl) ?_
  rintro r1 g1 ⟨x1, x2, x3⟩
  refine bg_putR (pc := 12) X1 dX6_init_12 fX6_10 (by first | assumption | rfl) rfl (by omega) hin rfl ?_
  refine bg_aload0 (pc := 15) X1 dX6_init_15 ?_
  refine bg_new (pc := 16) X1 (ci := 1) dX6_init_16 rfl qX6_16 qI_RX1 iC_RX1 (by first | assumption | rfl) (by omega) (by omega) ?_
  refine bg_dup (pc := 19) X1 dX6_init_19 ?_
  refine bo_I (pc := 20) X1 (c_X1_init) bX1_init nX1_init rfl rfl lX6_18 (by decide) (by omega) (by omega) dX6_init_20 (by exact Nat.le_of_ble_eq_true rfl) ?_
  rintro r2 g2 ⟨y1, y2, y3, y4⟩
  refine bg_putR (pc := 23) X1 dX6_init_23 fX6_19 (by first | assumption | rfl) rfl (by omega) hin rfl ?_
  refine bg_aload0 (pc := 26) X1 dX6_init_26 ?_
  refine bg_iconst (pc := 27) X1 dX6_init_27 (by decide) ?_
  refine bg_newQ (pc := 28) X1 (ci := 9) (N := 2) dX6_init_28 qX6_7 (Or.inl ⟨rfl, rfl⟩) rfl (by first | assumption | rfl) (by omega) (by omega) (by omega) ?_
  refine bg_putR (pc := 31) X1 dX6_init_31 fX6_23 (by first | assumption | rfl) rfl (by omega) hin rfl ?_
  refine bg_iconst (pc := 34) X1 dX6_init_34 (by decide) ?_
  refine bg_istore1 (pc := 35) X1 dX6_init_35 ?_
  refine loop 2 0 _ _ rfl ?_ ?_ (fun p hp => absurd hp (Nat.not_lt_zero _)) done.nil (x3.cg (fun x h1 h2 => ?_)) ?_ ?_
  · refine rowL.put (((rowL.put ?_ rfl).z (by decide))) rfl
    exact (((rowL.put rowL.nil rfl).z (by decide)).low y1 (by decide))
  · have d1 := (staF.done b1 x2).uR (n := 0) (k := 0) (v := some 1) (by decide)
    have d2 := (((d1.z (n := 17) (by decide)).low y1 (by decide)).app y2).uR (n := 0) (k := 1) (v := some 17) (by decide)
    exact (d2.z (by decide)).uR (by decide)
  · rw [bg_z_ne (by omega), (y1 x (by omega)).2, bg_z_ne (by omega)]
  · rw [z_a (by decide)]; exact y3
  · rw [z_a (by decide)]; exact y4
