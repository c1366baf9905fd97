/-! the constructors -/
def bg_pC (n' : Nat) (P : (Nat → Nat → Option Nat) → bg_E → Prop) : Option bg_V → bg_M → Prop := fun v M' => ∃ (r' : Nat → Nat → Option Nat) (g' : bg_E), v = none ∧ M' = (n', r', g') ∧ P r' g'
theorem bo_I {κ : bg_K} {y : bg_Y} {c1 c2 : Nat} {cc : ByteArray} {own : String} {dd mcc mss pc : Nat} {ls : List (Option bg_V)} {st : List bg_V} (X : bg_X κ y cc own dd mcc mss) {d mc ms idx a n' : Nat} {μ : bg_P} {M : bg_M} {P : (Nat → Nat → Option Nat) → bg_E → Prop} (hc : bg_S y d mc ms μ [.inr a] M (bg_pC n' P)) (hm : bg_mB μ 0) (hni : Cond.instanceMethod μ.1 ∈ bg_T) (hnm : μ.1.name = "<init>") (hret : μ.2.2.2 = none) (hl : Cond.methodLink own idx μ.1 ∈ bg_T) (hd : d + 1 ≤ dd) (h1 : c1 + mc ≤ mcc) (h2 : c2 + ms ≤ mss) (hdc : decode cc pc = .ok (.invokespecial idx, 3)) (hst : st.length ≤ 8)
    (kk : ∀ r' g', P r' g' → bg_G κ y (c1 + mc, c2 + ms) (pc + 3) ls st (n', r', g')) : bg_G κ y (c1, c2) pc ls (.inr a :: st) M := by
  refine bg_callI X hc hm hni hnm hret hl hd h1 h2 hdc hst ?_
  rintro _ _ ⟨r', g', rfl, rfl, hP⟩
  exact kk r' g' hP
theorem upR_eq {r : Nat → Nat → Option Nat} {a k : Nat} {v : Option Nat} : bg_upR r a k v a k = v := by simp [bg_upR]
theorem upR_k {r : Nat → Nat → Option Nat} {a k j : Nat} {v : Option Nat} (h : j ≠ k) : bg_upR r a k v a j = r a j := by simp [bg_upR, h]
theorem upR_a {r : Nat → Nat → Option Nat} {a x k j : Nat} {v : Option Nat} (h : x ≠ a) : bg_upR r a k v x j = r x j := by simp [bg_upR, h]
theorem z_a {g : bg_E} {n x j : Nat} (h : x ≠ n) : bg_z g n x j = g x j := by simp [bg_z, h]
theorem zR_a {r : Nat → Nat → Option Nat} {n x j : Nat} (h : x ≠ n) : bg_zR r n x j = r x j := by simp [bg_zR, h]
theorem z_0 {g : bg_E} {n j : Nat} : bg_z g n n j = 0 := by simp [bg_z]
/-- below n nothing has changed -/
def low (n : Nat) (r r' : Nat → Nat → Option Nat) (g g' : bg_E) : Prop := ∀ x, x < n → r' x = r x ∧ g' x = g x
theorem low.rf {n : Nat} {r : Nat → Nat → Option Nat} {g : bg_E} : low n r r g g := fun _ _ => ⟨rfl, rfl⟩
theorem low.tr {n n' : Nat} {r r1 r2 : Nat → Nat → Option Nat} {g g1 g2 : bg_E} (h : low n r r1 g g1) (h2 : low n' r1 r2 g1 g2) (hn : n ≤ n') : low n r r2 g g2 := fun x hx => ⟨(h2 x (by omega)).1.trans (h x hx).1, (h2 x (by omega)).2.trans (h x hx).2⟩
theorem low.z {n a : Nat} {r r1 : Nat → Nat → Option Nat} {g g1 : bg_E} (h : low n r r1 g g1) (ha : n ≤ a) : low n r (bg_zR r1 a) g (bg_z g1 a) := fun x hx => ⟨(bg_zR_ne (by omega)).trans (h x hx).1, (bg_z_ne (by omega)).trans (h x hx).2⟩
theorem low.uR {n a k : Nat} {v : Option Nat} {r r1 : Nat → Nat → Option Nat} {g g1 : bg_E} (h : low n r r1 g g1) (ha : n ≤ a) : low n r (bg_upR r1 a k v) g g1 := fun x hx => ⟨(bg_upR_ne (by omega)).trans (h x hx).1, (h x hx).2⟩
theorem low.u {n a k : Nat} {v : Int} {r r1 : Nat → Nat → Option Nat} {g g1 : bg_E} (h : low n r r1 g g1) (ha : n ≤ a) : low n r r1 g (bg_up g1 a k v) := fun x hx => ⟨(h x hx).1, (bg_up_ne (by omega)).trans (h x hx).2⟩
def colF (r : Nat → Nat → Option Nat) (c : Nat) : Prop := r c 2 = some (c + 1) ∧ r c 3 = some (c + 2)
def staF (r : Nat → Nat → Option Nat) (b : Nat) : Prop := r b 0 = some (b + 1) ∧ r b 2 = some (b + 2) ∧ r b 3 = some (b + 15) ∧ ∀ h, h < 4 → r (b + 2) h = some (b + 3 + 3 * h) ∧ colF r (b + 3 + 3 * h)
theorem colF.low {r r' : Nat → Nat → Option Nat} {g g' : bg_E} {n c : Nat} (h : colF r c) (hl : low n r r' g g') (hc : c < n) : colF r' c := by
  unfold colF
  rw [(hl c hc).1]
  exact h
theorem staF.low {r r' : Nat → Nat → Option Nat} {g g' : bg_E} {n b : Nat} (h : staF r b) (hl : low n r r' g g') (hc : b + 15 < n) : staF r' b := by
  obtain ⟨h1, h2, h3, h4⟩ := h
  unfold staF
  rw [(hl b (by omega)).1, (hl (b + 2) (by omega)).1]
  exact ⟨h1, h2, h3, fun k hk => ⟨(h4 k hk).1, (h4 k hk).2.low hl (by omega)⟩⟩
theorem c_X0_init {y : bg_Y} {r : Nat → Nat → Option Nat} {g : bg_E} {c : Nat} (hc : bg_col c) : bg_S y 1 2 48 mX0_init [.inr c] (c + 1, r, g) (bg_pC (c + 3) (fun r' g' => low c r r' g g' ∧ colF r' c ∧ g' c 0 = 0 ∧ g' c 1 = 0)) := by
  obtain ⟨k1, k2, k3, k4, k5⟩ := id hc
  refine bg_enterI pnX0 (Nat.le_of_ble_eq_true rfl) (fun κ X hin hR hg => ?_)
  have X1 : bg_X κ y cX0_init RX0 1 2 48 := X.1
  have hin : κ.2.2.2.2.2.2.2.2.1.name = "<init>" := hin
  show bg_G κ y (0, 0) 0 [some (.inr c)] [] (c + 1, r, g)
  refine bg_aload0 (pc := 0) X1 dX0_init_0 ?_
  refine bg_objI (pc := 1) X1 lX0_3 dX0_init_1 (by decide) (by exact Nat.le_of_ble_eq_true rfl) ?_
  refine bg_aload0 (pc := 4) X1 dX0_init_4 ?_
  refine bg_iconst (pc := 5) X1 dX0_init_5 (by decide) ?_
  refine bg_putI (pc := 6) X1 dX0_init_6 fX0_9 (by first | assumption | rfl) rfl (by omega) ?_
  refine bg_aload0 (pc := 9) X1 dX0_init_9 ?_
  refine bg_iconst (pc := 10) X1 dX0_init_10 (by decide) ?_
  refine bg_putI (pc := 11) X1 dX0_init_11 fX0_15 (by first | assumption | rfl) rfl (by omega) ?_
  refine bg_aload0 (pc := 14) X1 dX0_init_14 ?_
  refine bg_bipush (pc := 15) X1 dX0_init_15 rfl (by decide) ?_
  refine bg_newI (pc := 17) X1 (N := 24) dX0_init_17 rfl (by first | assumption | rfl) (by omega) (by omega) (by omega) ?_
  refine bg_putR (pc := 19) X1 dX0_init_19 fX0_18 (by first | assumption | rfl) rfl (by omega) hin rfl ?_
  refine bg_aload0 (pc := 22) X1 dX0_init_22 ?_
  refine bg_bipush (pc := 23) X1 dX0_init_23 rfl (by decide) ?_
  refine bg_newI (pc := 25) X1 (N := 24) dX0_init_25 rfl (by first | assumption | rfl) (by omega) (by omega) (by omega) ?_
  refine bg_putR (pc := 27) X1 dX0_init_27 fX0_22 (by first | assumption | rfl) rfl (by omega) hin rfl ?_
  exact bg_vret (pc := 30) X rfl dX0_init_30 (fun hg9 => by
      refine ⟨_, _, rfl, rfl, ((((((low.rf.u (by omega)).u (by omega)).z (by omega)).uR (by omega)).z (by omega)).uR (by omega)), ⟨?_, ?_⟩, ?_, ?_⟩
      · rw [upR_k (by decide), zR_a (by omega), upR_eq]
      · rw [upR_eq]
      · rw [z_a (by omega), z_a (by omega), up_k (by decide), up_eq]
      · rw [z_a (by omega), z_a (by omega), up_eq])
def bm_S0 : bm_S := (bg_first, 0, (fun _ => 0), (fun _ => []), (fun _ => 0))
theorem bg_first_R : ∀ n, R32 (bg_first n) := fun n => by unfold bg_first; split <;> decide
/-- a number out of the class's table of first numbers, read by a nest mate: getstatic, iload_1, iaload -/
theorem bg_statN {κ : bg_K} {y : bg_Y} {cs : Nat × Nat} {cc : ByteArray} {own : String} {dd mcc mss pc : Nat} {st : List bg_V} {n : Nat} {r : Nat → Nat → Option Nat} {g : Nat → Nat → Int} (X : bg_X κ y cc own dd mcc mss) {idx : Nat} {nm host : String} {f : Nat → Int} {i : Int} {o : Option bg_V} {t : List (Option bg_V)} (hd : decode cc pc = .ok (.getstatic idx, 3)) (hd2 : decode cc (pc + 3) = .ok (.iload_n 1, 1)) (hd3 : decode cc (pc + 4) = .ok (.iaload, 1)) (hl : Cond.fieldLinkNest own idx "BoreholeColumns" nm "[I" host ∈ bg_NW) (hst : bg_KK y (bg_s κ) → bg_ST y nm f (bg_s κ) (bg_s κ).heap) (h0 : 0 ≤ i ∧ i < 5) (hf : R32 (f i.toNat)) (kk : bg_G κ y cs (pc + 5) (o :: some (.inl i) :: t) (.inl (f i.toNat) :: st) (n, r, g)) : bg_G κ y cs pc (o :: some (.inl i) :: t) st (n, r, g) := by
  intro H locs a hD hS hL hR
  obtain ⟨hx, hb, hown, hts, hK, hbs, hlk, -⟩ := X
  obtain ⟨t1, hZ, hT⟩ := hst hK
  obtain ⟨hl1, hi⟩ := hL.2.2.2 1 (.inl i) rfl
  have hi : R32 i := hi
  have hix := bg_idx hi
  refine va_getsN (A := bg_A y) hx hb hZ hS hown (va_Nw.use (bg_NW_onTables _ hl) (hK.2.1 _ hl)) (fun _ h => h) hd ?_
  refine lv_iload_n hx hb hd2 rfl hl1 ?_
  obtain ⟨cell, c1, c2, c3, c4, c5, c6, c7⟩ := hT
  have hlt : i.toNat < 5 := by omega
  refine W.iald (v := .int (Int32.ofInt (f i.toNat))) hx hb (by rw [hS.2.1 t1 (Array.getElem?_eq_some_iff.mp c1).1 c7]; exact c1) c2 c3 ?_ ?_ rfl rfl hd3 (kk H locs a hD hS hL ⟨hf, hR⟩)
  · rw [hix]
    rintro (h | h)
    · have := (bg_lt (b := 0) hi (by decide)).mp h; omega
    · omega
  · rw [hix]; exact c6 _ hlt
theorem c_X4_init {y : bg_Y} {r : Nat → Nat → Option Nat} {g : bg_E} {b : Nat} (hb : bg_sta b) : bg_S y 2 15 222 mX4_init [.inr b] (b + 1, r, g) (bg_pC (b + 16) (fun r' g' => low b r r' g g' ∧ staF r' b ∧ staR g' b bm_S0)) := by
  obtain ⟨s1, s2, s3, s4, s5, s6, s7, s8, s9⟩ := id hb
  refine bg_enterI pnX4 (Nat.le_of_ble_eq_true rfl) (fun κ X hin hR hg => ?_)
  have X1 : bg_X κ y cX4_init RX4 2 15 222 := X.1
  have hin : κ.2.2.2.2.2.2.2.2.1.name = "<init>" := hin
  show bg_G κ y (0, 0) 0 [some (.inr b), none] [] (b + 1, r, g)
  have l2 : ∀ (m k : Nat) (r2 : Nat → Nat → Option Nat) (g2 : bg_E), k + m = 4 → low b r r2 g g2 → r2 b 0 = some (b + 1) → r2 b 2 = some (b + 2) → (∀ j, j < 5 → g2 (b + 1) j = bg_first j) → g2 b 1 = 0 → (∀ h, h < k → r2 (b + 2) h = some (b + 3 + 3 * h) ∧ colF r2 (b + 3 + 3 * h) ∧ g2 (b + 3 + 3 * h) 0 = 0 ∧ g2 (b + 3 + 3 * h) 1 = 0) → bg_G κ y (2 + 3 * k, 9 + 52 * k) 50 [some (.inr b), some (.inl (k : Int))] [] (b + 3 + 3 * k, r2, g2) := by
    intro m
    induction m with
    | zero =>
      intro k r2 g2 hk I1 I2 I3 I4 I5 I6
      obtain rfl : k = 4 := by omega
      refine bg_to (d1 := 14) (d2 := 217) (n' := b + 15) rfl rfl rfl ?_
      refine bg_iload1 (pc := 50) X1 dX4_init_50 ?_
      refine bg_iconst (pc := 51) X1 dX4_init_51 (by decide) ?_
      refine bg_icmp_ge (pc := 52) X1 (tgt := 74) dX4_init_52 (by decide) (fun u52 => ?_) (fun u52 => ?_)
      · refine bg_aload0 (pc := 74) X1 dX4_init_74 ?_
        refine bg_iconst (pc := 75) X1 dX4_init_75 (by decide) ?_
        refine bg_newI (pc := 76) X1 (N := 5) dX4_init_76 rfl (by first | assumption | rfl) (by omega) (by omega) (by omega) ?_
        refine bg_putR (pc := 78) X1 dX4_init_78 fX4_29 (by first | assumption | rfl) rfl (by omega) hin rfl ?_
        exact bg_vret (pc := 81) X rfl dX4_init_81 (fun hg9 => by
            refine ⟨_, _, rfl, rfl, (I1.z (by omega)).uR (by omega), ⟨?_, ?_, ?_, fun h hh => ⟨?_, ?_⟩⟩, ⟨fun j hj => ?_, ?_, fun h hh => ⟨?_, ?_, ?_, fun k hk => absurd hk (Nat.not_lt_zero _)⟩, fun a h5 h6 => ?_⟩⟩
            · rw [upR_k (by decide), zR_a (by omega)]; exact I2
            · rw [upR_k (by decide), zR_a (by omega)]; exact I3
            · rw [upR_eq]
            · rw [upR_a (by omega), zR_a (by omega)]; exact (I6 h hh).1
            · unfold colF; rw [upR_a (by omega), zR_a (by omega), upR_a (by omega), zR_a (by omega)]; exact (I6 h hh).2.1
            · rw [z_a (by omega)]; exact I4 j hj
            · rw [z_a (by omega)]; exact I5
            · rw [z_a (by omega)]; exact (I6 h hh).2.2.1
            · rw [z_a (by omega)]; exact (I6 h hh).2.2.2
            · exact Nat.zero_le _
            · exact z_0)
      · exfalso; omega
    | succ m ih =>
      intro k r2 g2 hk I1 I2 I3 I4 I5 I6
      have kc := s9 k (by omega)
      refine bg_iload1 (pc := 50) X1 dX4_init_50 ?_
      refine bg_iconst (pc := 51) X1 dX4_init_51 (by decide) ?_
      refine bg_icmp_ge (pc := 52) X1 (tgt := 74) dX4_init_52 (by decide) (fun u52 => ?_) (fun u52 => ?_)
      · exfalso; omega
      · refine bg_aload0 (pc := 55) X1 dX4_init_55 ?_
        refine bg_getR (pc := 56) X1 dX4_init_56 fX4_24 (by first | assumption | rfl) rfl (by omega) ((by first | assumption | rfl)) ?_
        refine bg_iload1 (pc := 59) X1 dX4_init_59 ?_
        refine bg_new (pc := 60) X1 (ci := 0) dX4_init_60 rfl qX4_22 qI_RX0 iC_RX0 kc.1 (by omega) (by omega) ?_
        refine bg_dup (pc := 63) X1 dX4_init_63 ?_
        refine bo_I (pc := 64) X1 (c_X0_init kc) bX0_init nX0_init rfl rfl lX4_28 (by decide) (by omega) (by omega) dX4_init_64 (by exact Nat.le_of_ble_eq_true rfl) ?_
        rintro r3 g3 ⟨x1, x2, x3, x4⟩
        refine bg_aast (pc := 67) X1 dX4_init_67 (by first | assumption | rfl) (kc.1) (by decide) (by omega) (by omega) (by omega) ?_
        refine bg_iinc1 (pc := 68) X1 dX4_init_68 (by omega) ?_
        refine bg_goto (pc := 71) X1 (tgt := 50) dX4_init_71 (by decide) ?_
        refine bg_to (by omega) (by omega) (by omega) (ih (k + 1) _ _ (by omega) (((I1.z (by omega)).tr x1 (by omega)).uR (by omega)) ?_ ?_ (fun j hj => ?_) ?_ (fun h hh => ?_))
        · rw [upR_a (by omega), (x1 b (by omega)).1, zR_a (by omega)]; exact I2
        · rw [upR_a (by omega), (x1 b (by omega)).1, zR_a (by omega)]; exact I3
        · rw [(x1 (b + 1) (by omega)).2, z_a (by omega)]; exact I4 j hj
        · rw [(x1 b (by omega)).2, z_a (by omega)]; exact I5
        · by_cases e : h = k
          · subst e
            refine ⟨?_, ?_, x3, x4⟩
            · rw [show ((h : Int)).toNat = h by omega, upR_eq]
            · unfold colF; rw [upR_a (by omega), upR_a (by omega)]; exact x2
          · have i6 := I6 h (by omega)
            refine ⟨?_, ?_, ?_, ?_⟩
            · rw [upR_k (by omega), (x1 _ (by omega)).1, zR_a (by omega)]; exact i6.1
            · unfold colF; rw [upR_a (by omega), upR_a (by omega), (x1 _ (by omega)).1, zR_a (by omega), zR_a (by omega)]; exact i6.2.1
            · rw [(x1 _ (by omega)).2, z_a (by omega)]; exact i6.2.2.1
            · rw [(x1 _ (by omega)).2, z_a (by omega)]; exact i6.2.2.2
  have l1 : ∀ (m k : Nat) (r1 : Nat → Nat → Option Nat) (g1 : bg_E), k + m = 5 → low b r r1 g g1 → r1 b 0 = some (b + 1) → (∀ j, j < k → g1 (b + 1) j = bg_first j) → bg_G κ y (1, 5) 13 [some (.inr b), some (.inl (k : Int))] [] (b + 2, r1, g1) := by
    intro m
    induction m with
    | zero =>
      intro k r1 g1 hk I1 I2 I4
      obtain rfl : k = 5 := by omega
      refine bg_iload1 (pc := 13) X1 dX4_init_13 ?_
      refine bg_iconst (pc := 14) X1 dX4_init_14 (by decide) ?_
      refine bg_icmp_ge (pc := 15) X1 (tgt := 35) dX4_init_15 (by decide) (fun u15 => ?_) (fun u15 => ?_)
      · refine bg_aload0 (pc := 35) X1 dX4_init_35 ?_
        refine bg_iconst (pc := 36) X1 dX4_init_36 (by decide) ?_
        refine bg_putI (pc := 37) X1 dX4_init_37 fX4_18 (by first | assumption | rfl) rfl (by omega) ?_
        refine bg_aload0 (pc := 40) X1 dX4_init_40 ?_
        refine bg_iconst (pc := 41) X1 dX4_init_41 (by decide) ?_
        refine bg_newQ (pc := 42) X1 (ci := 10) (N := 4) dX4_init_42 qX4_22 (Or.inr ⟨rfl, rfl⟩) rfl (by first | assumption | rfl) (by omega) (by omega) (by omega) ?_
        refine bg_putR (pc := 45) X1 dX4_init_45 fX4_24 (by first | assumption | rfl) rfl (by omega) hin rfl ?_
        refine bg_iconst (pc := 48) X1 dX4_init_48 (by decide) ?_
        refine bg_istore1 (pc := 49) X1 dX4_init_49 ?_
        refine l2 4 0 _ _ rfl (((I1.u (by omega)).z (by omega)).uR (by omega)) ?_ ?_ (fun j hj => ?_) ?_ (fun h hh => absurd hh (Nat.not_lt_zero _))
        · rw [upR_k (by decide), zR_a (by omega)]; exact I2
        · rw [upR_eq]
        · rw [z_a (by omega), up_a (by omega)]; exact I4 j hj
        · rw [z_a (by omega), up_eq]
      · exfalso; omega
    | succ m ih =>
      intro k r1 g1 hk I1 I2 I4
      refine bg_iload1 (pc := 13) X1 dX4_init_13 ?_
      refine bg_iconst (pc := 14) X1 dX4_init_14 (by decide) ?_
      refine bg_icmp_ge (pc := 15) X1 (tgt := 35) dX4_init_15 (by decide) (fun u15 => ?_) (fun u15 => ?_)
      · exfalso; omega
      · refine bg_aload0 (pc := 18) X1 dX4_init_18 ?_
        refine bg_getR (pc := 19) X1 dX4_init_19 fX4_9 (by first | assumption | rfl) rfl (by omega) ((by first | assumption | rfl)) ?_
        refine bg_iload1 (pc := 22) X1 dX4_init_22 ?_
        refine bg_statN (pc := 23) X1 (f := bg_first) dX4_init_23 dX4_init_26 dX4_init_27 hX4_15 (fun h => h.2.2.2.1) (by omega) (bg_first_R _) ?_
        refine bg_iastore (pc := 28) X1 dX4_init_28 (by first | assumption | rfl) (by omega) (by omega) ?_
        refine bg_iinc1 (pc := 29) X1 dX4_init_29 (by omega) ?_
        refine bg_goto (pc := 32) X1 (tgt := 13) dX4_init_32 (by decide) ?_
        refine ih (k + 1) _ _ (by omega) (I1.u (by omega)) I2 (fun j hj => ?_)
        rw [show ((k : Int)).toNat = k by omega]
        by_cases e : j = k
        · rw [e, up_eq]
        · rw [up_k e]; exact I4 j (by omega)
  refine bg_aload0 (pc := 0) X1 dX4_init_0 ?_
  refine bg_objI (pc := 1) X1 lX4_3 dX4_init_1 (by decide) (by exact Nat.le_of_ble_eq_true rfl) ?_
  refine bg_aload0 (pc := 4) X1 dX4_init_4 ?_
  refine bg_iconst (pc := 5) X1 dX4_init_5 (by decide) ?_
  refine bg_newI (pc := 6) X1 (N := 5) dX4_init_6 rfl (by first | assumption | rfl) (by omega) (by omega) (by omega) ?_
  refine bg_putR (pc := 8) X1 dX4_init_8 fX4_9 (by first | assumption | rfl) rfl (by omega) hin rfl ?_
  refine bg_iconst (pc := 11) X1 dX4_init_11 (by decide) ?_
  refine bg_istore1 (pc := 12) X1 dX4_init_12 ?_
  refine l1 5 0 _ _ rfl ((low.rf.z (by omega)).uR (by omega)) ?_ (fun j hj => absurd hj (Nat.not_lt_zero _))
  rw [upR_eq]
