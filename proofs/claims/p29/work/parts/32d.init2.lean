/-! the other constructors -/
def rOK (r : Nat → Nat → Option Nat) (x : Nat) : Prop := ∀ ci N k, bg_kd x = some (ci, N) → k < N → ¬ ci = 8 → bg_fi ci k = false → r x k = bg_F x k
def done (r : Nat → Nat → Option Nat) (lo hi : Nat) : Prop := ∀ x, lo ≤ x → x < hi → rOK r x
def rowL (r : Nat → Nat → Option Nat) (a : Nat) (L : List (Nat × Nat)) : Prop := ∀ k v, L.lookup k = some v → r a k = some v
def gl (n : Nat) (g g' : bg_E) : Prop := ∀ x, x < n → g' x = g x
theorem rOK.same {r r' : Nat → Nat → Option Nat} {x : Nat} (h : rOK r x) (e : r' x = r x) : rOK r' x := fun ci N k h1 h2 h3 h4 => by rw [e]; exact h ci N k h1 h2 h3 h4
theorem done.app {r : Nat → Nat → Option Nat} {a b c : Nat} (h1 : done r a b) (h2 : done r b c) : done r a c := fun x hx hy => by
  rcases Nat.lt_or_ge x b with h | h
  · exact h1 x hx h
  · exact h2 x h hy
theorem done.low {r r' : Nat → Nat → Option Nat} {g g' : bg_E} {n a b : Nat} (h : done r a b) (hl : low n r r' g g') (hn : b ≤ n) : done r' a b := fun x hx hy => (h x hx hy).same (hl x (by omega)).1
theorem done.z {r : Nat → Nat → Option Nat} {n a b : Nat} (h : done r a b) (hn : b ≤ n ∨ n < a) : done (bg_zR r n) a b := fun x hx hy => (h x hx hy).same (bg_zR_ne (by omega))
theorem done.uR {r : Nat → Nat → Option Nat} {n a b k : Nat} {v : Option Nat} (h : done r a b) (hn : b ≤ n ∨ n < a) : done (bg_upR r n k v) a b := fun x hx hy => (h x hx hy).same (bg_upR_ne (by omega))
theorem rOK.ints {r : Nat → Nat → Option Nat} {x N : Nat} (h : bg_kd x = some (8, N)) : rOK r x := fun ci N' k h1 h2 h3 h4 => by
  cases h.symm.trans h1
  exact absurd rfl h3
theorem done.ints {r : Nat → Nat → Option Nat} {x N : Nat} (h : bg_kd x = some (8, N)) : done r x (x + 1) := fun z h1 h2 => by
  obtain rfl : z = x := by omega
  exact rOK.ints h
theorem done.nil {r : Nat → Nat → Option Nat} {x : Nat} : done r x x := fun z h1 h2 => by omega
theorem done.one {r : Nat → Nat → Option Nat} {x : Nat} (h : rOK r x) : done r x (x + 1) := fun z h1 h2 => by
  obtain rfl : z = x := by omega
  exact h
theorem rowL.low {r r' : Nat → Nat → Option Nat} {g g' : bg_E} {n a : Nat} {L : List (Nat × Nat)} (h : rowL r a L) (hl : low n r r' g g') (hn : a < n) : rowL r' a L := fun k v e => by rw [(hl a hn).1]; exact h k v e
theorem rowL.z {r : Nat → Nat → Option Nat} {n a : Nat} {L : List (Nat × Nat)} (h : rowL r a L) (hn : a ≠ n) : rowL (bg_zR r n) a L := fun k v e => by rw [zR_a hn]; exact h k v e
theorem rowL.uR {r : Nat → Nat → Option Nat} {n a k : Nat} {w : Option Nat} {L : List (Nat × Nat)} (h : rowL r a L) (hn : a ≠ n) : rowL (bg_upR r n k w) a L := fun k v e => by rw [upR_a hn]; exact h k v e
theorem rowL.put {r : Nat → Nat → Option Nat} {a k v : Nat} {L : List (Nat × Nat)} (h : rowL r a L) (hn : L.lookup k = none) : rowL (bg_upR r a k (some v)) a ((k, v) :: L) := fun j w e => by
  rw [List.lookup_cons] at e
  by_cases hj : j = k
  · subst hj
    rw [beq_self_eq_true] at e
    rw [upR_eq]
    exact e
  · rw [upR_k hj]
    rw [show (j == k) = false from beq_eq_false_iff_ne.mpr hj] at e
    exact h j w e
theorem rowL.nil {r : Nat → Nat → Option Nat} {a : Nat} : rowL r a [] := fun k v e => by cases e
theorem rowL.ok {r : Nat → Nat → Option Nat} {x ci N : Nat} {L : List (Nat × Nat)} (h : rowL r x L) (hk : bg_kd x = some (ci, N)) (hd : ∀ k, k < N → bg_fi ci k = false → (L.lookup k).isSome = true ∧ bg_F x k = L.lookup k) : rOK r x := fun ci' N' k h1 h2 h3 h4 => by
  cases hk.symm.trans h1
  obtain ⟨e1, e2⟩ := hd k h2 h4
  obtain ⟨v, hv⟩ := Option.isSome_iff_exists.mp e1
  rw [e2, hv]
  exact h k v hv
theorem gl.rf {n : Nat} {g : bg_E} : gl n g g := fun _ _ => rfl
theorem gl.tr {n m : Nat} {g g1 g2 : bg_E} (h : gl n g g1) (h2 : gl m g1 g2) (hn : n ≤ m) : gl n g g2 := fun x hx => (h2 x (by omega)).trans (h x hx)
theorem gl.z {n a : Nat} {g g1 : bg_E} (h : gl n g g1) (ha : n ≤ a) : gl n g (bg_z g1 a) := fun x hx => (bg_z_ne (by omega)).trans (h x hx)
theorem gl.low {n m : Nat} {r r' : Nat → Nat → Option Nat} {g g1 g2 : bg_E} (h : gl n g g1) (h2 : low m r r' g1 g2) (hn : n ≤ m) : gl n g g2 := fun x hx => ((h2 x (by omega)).2).trans (h x hx)
theorem colF.done {r : Nat → Nat → Option Nat} {c : Nat} (hc : bg_col c) (h : colF r c) : done r c (c + 3) := by
  obtain ⟨k1, k2, k3, k4, k5⟩ := hc
  intro x hx hy
  have e : x = c ∨ x = c + 1 ∨ x = c + 2 := by omega
  rcases e with rfl | rfl | rfl
  · intro ci N k h1 h2 h3 h4
    cases k1.symm.trans h1
    have e : k = 0 ∨ k = 1 ∨ k = 2 ∨ k = 3 := by omega
    rcases e with rfl | rfl | rfl | rfl
    · exact absurd h4 (by decide)
    · exact absurd h4 (by decide)
    · rw [k2]; exact h.1
    · rw [k3]; exact h.2
  · exact rOK.ints k4
  · exact rOK.ints k5
theorem staF.done {r : Nat → Nat → Option Nat} {b : Nat} (hb : bg_sta b) (h : staF r b) : done r b (b + 16) := by
  obtain ⟨s1, s2, s3, s4, s5, s6, s7, s8, s9⟩ := hb
  obtain ⟨h1, h2, h3, h4⟩ := h
  intro x hx hy
  by_cases e0 : x = b
  · subst e0
    intro ci N k g1 g2 g3 g4
    cases s1.symm.trans g1
    have e : k = 0 ∨ k = 1 ∨ k = 2 ∨ k = 3 := by omega
    rcases e with rfl | rfl | rfl | rfl
    · rw [s2]; exact h1
    · exact absurd g4 (by decide)
    · rw [s3]; exact h2
    · rw [s4]; exact h3
  by_cases e1 : x = b + 1
  · subst e1; exact rOK.ints s5
  by_cases e2 : x = b + 2
  · subst e2
    intro ci N k g1 g2 g3 g4
    cases s6.symm.trans g1
    rw [s8 k g2]; exact (h4 k g2).1
  by_cases e3 : x = b + 15
  · subst e3; exact rOK.ints s7
  obtain ⟨k, hk, hk2⟩ : ∃ k, k < 4 ∧ b + 3 + 3 * k ≤ x ∧ x < b + 3 + 3 * k + 3 := ⟨(x - b - 3) / 3, by omega, by omega⟩
  exact colF.done (s9 k hk) (h4 k hk).2 x hk2.1 hk2.2
theorem staR.cg {g g' : bg_E} {b : Nat} {S : bm_S} (h : staR g b S) (he : ∀ x, b ≤ x → x ≤ b + 15 → g' x = g x) : staR g' b S := by
  obtain ⟨h1, h2, h3, h4⟩ := h
  refine ⟨fun k hk => by rw [he (b + 1) (by omega) (by omega)]; exact h1 k hk, by rw [he b (by omega) (by omega)]; exact h2, fun h hh => ⟨by rw [he (b + 3 + 3 * h) (by omega) (by omega)]; exact (h3 h hh).1, ?_⟩, fun a h5 h6 => by rw [he (b + 15) (by omega) (by omega)]; exact h4 a h5 h6⟩
  have h7 := (h3 h hh).2
  unfold colR at h7 ⊢
  rw [he (b + 3 + 3 * h) (by omega) (by omega), he (b + 3 + 3 * h + 1) (by omega) (by omega), he (b + 3 + 3 * h + 2) (by omega) (by omega)]
  exact h7
theorem c_X1_init {y : bg_Y} {r : Nat → Nat → Option Nat} {g : bg_E} : bg_S y 3 97 1362 mX1_init [.inr 17] (18, r, g) (bg_pC 115 (fun r' g' => low 17 r r' g g' ∧ done r' 17 115 ∧ g' 17 1 = 0 ∧ g' 17 2 = 0)) := by
  refine bg_enterI pnX1 (Nat.le_of_ble_eq_true rfl) (fun κ X hin hR hg => ?_)
  have X1 : bg_X κ y cX1_init RX1 3 97 1362 := X.1
  have hin : κ.2.2.2.2.2.2.2.2.1.name = "<init>" := hin
  show bg_G κ y (0, 0) 0 [some (.inr 17), none] [] (18, r, g)
  have loop : ∀ (m k : Nat) (r2 : Nat → Nat → Option Nat) (g2 : bg_E), k + m = 6 → low 17 r r2 g g2 → r2 17 0 = some 18 → (∀ p, p < k → r2 18 p = some (19 + 16 * p)) → done r2 19 (19 + 16 * k) → bg_G κ y (1 + 16 * k, 6 + 226 * k) 15 [some (.inr 17), some (.inl (k : Int))] [] (19 + 16 * k, r2, g2) := by
    intro m
    induction m with
    | zero =>
      intro k r2 g2 hk I1 I2 I3 I4
      obtain rfl : k = 6 := by omega
      refine bg_to (d1 := 97) (d2 := 1362) (n' := 115) rfl rfl rfl ?_
      refine bg_iload1 (pc := 15) X1 dX1_init_15 ?_
      refine bg_bipush (pc := 16) X1 dX1_init_16 rfl (by decide) ?_
      refine bg_icmp_ge (pc := 18) X1 (tgt := 40) dX1_init_18 (by decide) (fun u18 => ?_) (fun u18 => ?_)
      · refine bg_aload0 (pc := 40) X1 dX1_init_40 ?_
        refine bg_iconst (pc := 41) X1 dX1_init_41 (by decide) ?_
        refine bg_putI (pc := 42) X1 dX1_init_42 fX1_18 (by first | assumption | rfl) rfl (by omega) ?_
        refine bg_aload0 (pc := 45) X1 dX1_init_45 ?_
        refine bg_iconst (pc := 46) X1 dX1_init_46 (by decide) ?_
        refine bg_putI (pc := 47) X1 dX1_init_47 fX1_22 (by first | assumption | rfl) rfl (by omega) ?_
        exact bg_vret (pc := 50) X rfl dX1_init_50 (fun hg9 => by
            refine ⟨_, _, rfl, rfl, (I1.u (by omega)).u (by omega), ?_, by rw [up_k (by decide), up_eq], up_eq⟩
            refine done.app (done.app (done.one ?_) (done.one ?_)) I4
            · intro ci N k h1 h2 h3 h4
              have hk : bg_kd 17 = some (1, 3) := rfl
              cases hk.symm.trans h1
              have e : k = 0 ∨ k = 1 ∨ k = 2 := by omega
              rcases e with rfl | rfl | rfl
              · exact I2
              · exact absurd h4 (by decide)
              · exact absurd h4 (by decide)
            · intro ci N k h1 h2 h3 h4
              have hk : bg_kd 18 = some (9, 6) := rfl
              cases hk.symm.trans h1
              exact (I3 k h2).trans (bg_hist k h2).1.symm)
      · exfalso; omega
    | succ m ih =>
      intro k r2 g2 hk I1 I2 I3 I4
      have kc := (bg_hist k (by omega)).2
      refine bg_iload1 (pc := 15) X1 dX1_init_15 ?_
      refine bg_bipush (pc := 16) X1 dX1_init_16 rfl (by decide) ?_
      refine bg_icmp_ge (pc := 18) X1 (tgt := 40) dX1_init_18 (by decide) (fun u18 => ?_) (fun u18 => ?_)
      · exfalso; omega
      · refine bg_aload0 (pc := 21) X1 dX1_init_21 ?_
        refine bg_getR (pc := 22) X1 dX1_init_22 fX1_11 (by first | assumption | rfl) rfl (by omega) ((by first | assumption | rfl)) ?_
        refine bg_iload1 (pc := 25) X1 dX1_init_25 ?_
        refine bg_new (pc := 26) X1 (ci := 4) dX1_init_26 rfl qX1_9 qI_RX4 iC_RX4 kc.1 (by omega) (by omega) ?_
        refine bg_dup (pc := 29) X1 dX1_init_29 ?_
        refine bo_I (pc := 30) X1 (c_X4_init kc) bX4_init nX4_init rfl rfl lX1_17 (by decide) (by omega) (by omega) dX1_init_30 (by exact Nat.le_of_ble_eq_true rfl) ?_
        rintro r3 g3 ⟨x1, x2, x3⟩
        refine bg_aast (pc := 33) X1 dX1_init_33 (by first | assumption | rfl) (kc.1) (by decide) (by omega) (by omega) (by omega) ?_
        refine bg_iinc1 (pc := 34) X1 dX1_init_34 (by omega) ?_
        refine bg_goto (pc := 37) X1 (tgt := 15) dX1_init_37 (by decide) ?_
        refine bg_to (by omega) (by omega) (by omega) (ih (k + 1) _ _ (by omega) (((I1.z (by omega)).tr x1 (by omega)).uR (by omega)) ?_ (fun p hp => ?_) ?_)
        · rw [upR_a (by omega), (x1 17 (by omega)).1, zR_a (by omega)]; exact I2
        · rw [show ((k : Int)).toNat = k by omega]
          by_cases e : p = k
          · rw [e, upR_eq]
          · rw [upR_k e, (x1 18 (by omega)).1, zR_a (by omega)]; exact I3 p (by omega)
        · have d1 : done r3 19 (19 + 16 * k) := (I4.z (by omega)).low x1 (by omega)
          have d2 := d1.app (staF.done kc x2)
          rw [show 19 + 16 * (k + 1) = 19 + 16 * k + 16 by omega]
          exact d2.uR (by omega)
  refine bg_aload0 (pc := 0) X1 dX1_init_0 ?_
  refine bg_objI (pc := 1) X1 lX1_3 dX1_init_1 (by decide) (by exact Nat.le_of_ble_eq_true rfl) ?_
  refine bg_aload0 (pc := 4) X1 dX1_init_4 ?_
  refine bg_bipush (pc := 5) X1 dX1_init_5 rfl (by decide) ?_
  refine bg_newQ (pc := 7) X1 (ci := 9) (N := 6) dX1_init_7 qX1_9 (Or.inl ⟨rfl, rfl⟩) rfl (by first | assumption | rfl) (by omega) (by omega) (by omega) ?_
  refine bg_putR (pc := 10) X1 dX1_init_10 fX1_11 (by first | assumption | rfl) rfl (by omega) hin rfl ?_
  refine bg_iconst (pc := 13) X1 dX1_init_13 (by decide) ?_
  refine bg_istore1 (pc := 14) X1 dX1_init_14 ?_
  refine loop 6 0 _ _ rfl ((low.rf.z (by omega)).uR (by omega)) upR_eq (fun p hp => absurd hp (Nat.not_lt_zero _)) done.nil
theorem c_X5_init {y : bg_Y} {r : Nat → Nat → Option Nat} {g : bg_E} : bg_S y 2 4 152 mX5_init [.inr 148] (149, r, g) (bg_pC 153 (fun r' g' => low 148 r r' g g' ∧ done r' 148 153 ∧ g' 148 1 = 0)) := by
  have kc : bg_col 150 := bg_cols 150 (by simp)
  refine bg_enterI pnX5 (Nat.le_of_ble_eq_true rfl) (fun κ X hin hR hg => ?_)
  have X1 : bg_X κ y cX5_init RX5 2 4 152 := X.1
  have hin : κ.2.2.2.2.2.2.2.2.1.name = "<init>" := hin
  show bg_G κ y (0, 0) 0 [some (.inr 148)] [] (149, r, g)
  refine bg_aload0 (pc := 0) X1 dX5_init_0 ?_
  refine bg_objI (pc := 1) X1 lX5_3 dX5_init_1 (by decide) (by exact Nat.le_of_ble_eq_true rfl) ?_
  refine bg_aload0 (pc := 4) X1 dX5_init_4 ?_
  refine bg_bipush (pc := 5) X1 dX5_init_5 rfl (by decide) ?_
  refine bg_newI (pc := 7) X1 (N := 100) dX5_init_7 rfl (by first | assumption | rfl) (by omega) (by omega) (by omega) ?_
  refine bg_putR (pc := 9) X1 dX5_init_9 fX5_9 (by first | assumption | rfl) rfl (by omega) hin rfl ?_
  refine bg_aload0 (pc := 12) X1 dX5_init_12 ?_
  refine bg_iconst (pc := 13) X1 dX5_init_13 (by decide) ?_
  refine bg_putI (pc := 14) X1 dX5_init_14 fX5_15 (by first | assumption | rfl) rfl (by omega) ?_
  refine bg_aload0 (pc := 17) X1 dX5_init_17 ?_
  refine bg_iconst (pc := 18) X1 dX5_init_18 (by decide) ?_
  refine bg_putI (pc := 19) X1 dX5_init_19 fX5_19 (by first | assumption | rfl) rfl (by omega) ?_
  refine bg_aload0 (pc := 22) X1 dX5_init_22 ?_
  refine bg_iconst (pc := 23) X1 dX5_init_23 (by decide) ?_
  refine bg_putI (pc := 24) X1 dX5_init_24 fX5_22 (by first | assumption | rfl) rfl (by omega) ?_
  refine bg_aload0 (pc := 27) X1 dX5_init_27 ?_
  refine bg_new (pc := 28) X1 (ci := 0) dX5_init_28 rfl qX5_25 qI_RX0 iC_RX0 kc.1 (by omega) (by omega) ?_
  refine bg_dup (pc := 31) X1 dX5_init_31 ?_
  refine bo_I (pc := 32) X1 (c_X0_init kc) bX0_init nX0_init rfl rfl lX5_27 (by decide) (by omega) (by omega) dX5_init_32 (by exact Nat.le_of_ble_eq_true rfl) ?_
  rintro r1 g1 ⟨x1, x2, x3, x4⟩
  refine bg_putR (pc := 35) X1 dX5_init_35 fX5_28 (by first | assumption | rfl) rfl (by omega) hin rfl ?_
  exact bg_vret (pc := 38) X rfl dX5_init_38 (fun hg9 => by
      refine ⟨_, _, rfl, rfl, ((((((low.rf.z (by omega)).uR (by omega)).u (by omega)).u (by omega)).u (by omega)).z (by omega)).tr x1 (by omega) |>.uR (by omega), ?_, ?_⟩
      · refine done.app (done.app (done.one ?_) (done.ints (x := 149) rfl)) ((colF.done kc x2).uR (by omega))
        refine rowL.ok (L := [(4, 150), (0, 149)]) ?_ (ci := 5) (N := 5) rfl (by decide +kernel)
        refine rowL.put ?_ rfl
        exact ((rowL.put rowL.nil rfl).z (by decide)).low x1 (by decide)
      · rw [(x1 148 (by decide)).2, z_a (by decide), up_k (by decide), up_k (by decide), up_eq])
def tabZ (g : bg_E) (q : Nat) : Prop := ∀ k, g (q + 9) k = 0
theorem c_X3_init {y : bg_Y} {r : Nat → Nat → Option Nat} {g : bg_E} {q : Nat} (hq : q = 156 ∨ q = 170 ∨ q = 184) : bg_S y 2 8 755 mX3_init [.inr (q + 1)] (q + 2, r, g) (bg_pC (q + 10) (fun r' g' => low (q + 1) r r' g g' ∧ done r' (q + 1) (q + 10) ∧ tabZ g' q)) := by
  have hm : bg_mat q := by
    rcases hq with rfl | rfl | rfl
    · exact bm_1
    · exact bm_2
    · exact bm_3
  obtain ⟨m1, m2, m3, m4, m5, m6, m7, m8, m9, m10, m11, m12, m13, m14, m15, m16, m17, m18, m19⟩ := id hm
  refine bg_enterI pnX3 (Nat.le_of_ble_eq_true rfl) (fun κ X hin hR hg => ?_)
  have X1 : bg_X κ y cX3_init RX3 2 8 755 := X.1
  have hin : κ.2.2.2.2.2.2.2.2.1.name = "<init>" := hin
  show bg_G κ y (0, 0) 0 [some (.inr (q+1))] [] (q + 2, r, g)
  refine bg_aload0 (pc := 0) X1 dX3_init_0 ?_
  refine bg_objI (pc := 1) X1 lX3_3 dX3_init_1 (by decide) (by exact Nat.le_of_ble_eq_true rfl) ?_
  refine bg_aload0 (pc := 4) X1 dX3_init_4 ?_
  refine bg_new (pc := 5) X1 (ci := 0) dX3_init_5 rfl qX3_9 qI_RX0 iC_RX0 m12.1 (by omega) (by omega) ?_
  refine bg_dup (pc := 8) X1 dX3_init_8 ?_
  refine bo_I (pc := 9) X1 (c_X0_init m12) bX0_init nX0_init rfl rfl lX3_11 (by decide) (by omega) (by omega) dX3_init_9 (by exact Nat.le_of_ble_eq_true rfl) ?_
  rintro r1 g1 ⟨x1, x2, x3, x4⟩
  refine bg_putR (pc := 12) X1 dX3_init_12 fX3_12 (by first | assumption | rfl) rfl (by omega) hin rfl ?_
  refine bg_aload0 (pc := 15) X1 dX3_init_15 ?_
  refine bg_new (pc := 16) X1 (ci := 0) dX3_init_16 rfl qX3_9 qI_RX0 iC_RX0 m13.1 (by omega) (by omega) ?_
  refine bg_dup (pc := 19) X1 dX3_init_19 ?_
  refine bo_I (pc := 20) X1 (c_X0_init m13) bX0_init nX0_init rfl rfl lX3_11 (by decide) (by omega) (by omega) dX3_init_20 (by exact Nat.le_of_ble_eq_true rfl) ?_
  rintro r2 g2 ⟨y1, y2, y3, y4⟩
  refine bg_putR (pc := 23) X1 dX3_init_23 fX3_18 (by first | assumption | rfl) rfl (by omega) hin rfl ?_
  refine bg_aload0 (pc := 26) X1 dX3_init_26 ?_
  refine bg_bipush (pc := 27) X1 dX3_init_27 rfl (by decide) ?_
  refine bg_newI (pc := 29) X1 (N := 26) dX3_init_29 rfl m14 (by omega) (by omega) (by omega) ?_
  refine bg_putR (pc := 31) X1 dX3_init_31 fX3_21 (by first | assumption | rfl) rfl (by omega) hin rfl ?_
  refine bg_aload0 (pc := 34) X1 dX3_init_34 ?_
  refine bg_iconst (pc := 35) X1 dX3_init_35 (by decide) ?_
  refine bg_putI (pc := 36) X1 dX3_init_36 fX3_25 (by first | assumption | rfl) rfl (by omega) ?_
  refine bg_aload0 (pc := 39) X1 dX3_init_39 ?_
  refine bg_iconst (pc := 40) X1 dX3_init_40 (by decide) ?_
  refine bg_putI (pc := 41) X1 dX3_init_41 fX3_29 (by first | assumption | rfl) rfl (by omega) ?_
  refine bg_aload0 (pc := 44) X1 dX3_init_44 ?_
  refine bg_iconst (pc := 45) X1 dX3_init_45 (by decide) ?_
  refine bg_putI (pc := 46) X1 dX3_init_46 fX3_32 (by first | assumption | rfl) rfl (by omega) ?_
  refine bg_aload0 (pc := 49) X1 dX3_init_49 ?_
  refine bg_sipush (pc := 50) X1 dX3_init_50 rfl (by decide) ?_
  refine bg_newI (pc := 53) X1 (N := 625) dX3_init_53 rfl m15 (by omega) (by omega) (by omega) ?_
  refine bg_putR (pc := 55) X1 dX3_init_55 fX3_35 (by first | assumption | rfl) rfl (by omega) hin rfl ?_
  exact bg_vret (pc := 58) X rfl dX3_init_58 (fun hg9 => by
      refine ⟨_, _, rfl, rfl, ?_, ?_, ?_⟩
      · exact ((((((((((low.rf.z (by omega)).tr x1 (by omega)).uR (by omega)).z (by omega)).tr y1 (by omega)).uR (by omega)).z (by omega)).uR (by omega)).u (by omega)).u (by omega)).u (by omega) |>.z (by omega) |>.uR (by omega)
      · have d2 : done r2 (q + 2) (q + 5) := (((colF.done m12 x2).uR (by omega)).z (by omega)).low y1 (by omega)
        have d3 : done r2 (q + 2) (q + 8) := d2.app (colF.done m13 y2)
        have d4 := ((d3.uR (n := q + 1) (k := 1) (v := some (q + 5)) (by omega)).z (n := q + 8) (by omega)).uR (n := q + 1) (k := 2) (v := some (q + 8)) (by omega)
        have d5 := (d4.z (n := q + 9) (by omega)).uR (n := q + 1) (k := 6) (v := some (q + 9)) (by omega)
        refine done.app (done.one ?_) (done.app (done.app d5 (done.ints m14)) (done.ints m15))
        refine rowL.ok (L := [(6, q + 9), (2, q + 8), (1, q + 5), (0, q + 2)]) ?_ (ci := 3) (N := 7) m7 (by rcases hq with rfl | rfl | rfl <;> decide +kernel)
        refine rowL.put (((rowL.put (((rowL.put ((((rowL.put rowL.nil rfl).z (by omega)).low y1 (by omega))) rfl).z (by omega))) rfl).z (by omega))) rfl
      · intro k
        exact z_0)
theorem c_X2_init {y : bg_Y} {r : Nat → Nat → Option Nat} {g : bg_E} {q : Nat} (hq : q = 156 ∨ q = 170 ∨ q = 184) : bg_S y 3 13 858 mX2_init [.inr q] (q + 1, r, g) (bg_pC (q + 14) (fun r' g' => low q r r' g g' ∧ done r' q (q + 14) ∧ tabZ g' q)) := by
  have hm : bg_mat q := by
    rcases hq with rfl | rfl | rfl
    · exact bm_1
    · exact bm_2
    · exact bm_3
  obtain ⟨m1, m2, m3, m4, m5, m6, m7, m8, m9, m10, m11, m12, m13, m14, m15, m16, m17, m18, m19⟩ := id hm
  refine bg_enterI pnX2 (Nat.le_of_ble_eq_true rfl) (fun κ X hin hR hg => ?_)
  have X1 : bg_X κ y cX2_init RX2 3 13 858 := X.1
  have hin : κ.2.2.2.2.2.2.2.2.1.name = "<init>" := hin
  show bg_G κ y (0, 0) 0 [some (.inr q)] [] (q + 1, r, g)
  refine bg_aload0 (pc := 0) X1 dX2_init_0 ?_
  refine bg_objI (pc := 1) X1 lX2_3 dX2_init_1 (by decide) (by exact Nat.le_of_ble_eq_true rfl) ?_
  refine bg_aload0 (pc := 4) X1 dX2_init_4 ?_
  refine bg_new (pc := 5) X1 (ci := 3) dX2_init_5 rfl qX2_9 qI_RX3 iC_RX3 m7 (by omega) (by omega) ?_
  refine bg_dup (pc := 8) X1 dX2_init_8 ?_
  refine bo_I (pc := 9) X1 (c_X3_init hq) bX3_init nX3_init rfl rfl lX2_11 (by decide) (by omega) (by omega) dX2_init_9 (by exact Nat.le_of_ble_eq_true rfl) ?_
  rintro r1 g1 ⟨x1, x2, x3⟩
  refine bg_putR (pc := 12) X1 dX2_init_12 fX2_12 (by first | assumption | rfl) rfl (by omega) hin rfl ?_
  refine bg_aload0 (pc := 15) X1 dX2_init_15 ?_
  refine bg_bipush (pc := 16) X1 dX2_init_16 rfl (by decide) ?_
  refine bg_newI (pc := 18) X1 (N := 24) dX2_init_18 rfl m16 (by omega) (by omega) (by omega) ?_
  refine bg_putR (pc := 20) X1 dX2_init_20 fX2_18 (by first | assumption | rfl) rfl (by omega) hin rfl ?_
  refine bg_aload0 (pc := 23) X1 dX2_init_23 ?_
  refine bg_bipush (pc := 24) X1 dX2_init_24 rfl (by decide) ?_
  refine bg_newI (pc := 26) X1 (N := 24) dX2_init_26 rfl m17 (by omega) (by omega) (by omega) ?_
  refine bg_putR (pc := 28) X1 dX2_init_28 fX2_22 (by first | assumption | rfl) rfl (by omega) hin rfl ?_
  refine bg_aload0 (pc := 31) X1 dX2_init_31 ?_
  refine bg_bipush (pc := 32) X1 dX2_init_32 rfl (by decide) ?_
  refine bg_newI (pc := 34) X1 (N := 24) dX2_init_34 rfl m18 (by omega) (by omega) (by omega) ?_
  refine bg_putR (pc := 36) X1 dX2_init_36 fX2_25 (by first | assumption | rfl) rfl (by omega) hin rfl ?_
  refine bg_aload0 (pc := 39) X1 dX2_init_39 ?_
  refine bg_bipush (pc := 40) X1 dX2_init_40 rfl (by decide) ?_
  refine bg_newI (pc := 42) X1 (N := 24) dX2_init_42 rfl m19 (by omega) (by omega) (by omega) ?_
  refine bg_putR (pc := 44) X1 dX2_init_44 fX2_28 (by first | assumption | rfl) rfl (by omega) hin rfl ?_
  refine bg_aload0 (pc := 47) X1 dX2_init_47 ?_
  refine bg_iconst (pc := 48) X1 dX2_init_48 (by decide) ?_
  refine bg_putI (pc := 49) X1 dX2_init_49 fX2_31 (by first | assumption | rfl) rfl (by omega) ?_
  exact bg_vret (pc := 52) X rfl dX2_init_52 (fun hg9 => by
      refine ⟨_, _, rfl, rfl, ?_, ?_, ?_⟩
      · exact ((((((((((low.rf.z (by omega)).tr x1 (by omega)).uR (by omega)).z (by omega)).uR (by omega)).z (by omega)).uR (by omega)).z (by omega)).uR (by omega)).z (by omega)).uR (by omega) |>.u (by omega)
      · have d1 := x2.uR (n := q) (k := 0) (v := some (q + 1)) (by omega)
        have d2 := (d1.z (n := q + 10) (by omega)).uR (n := q) (k := 1) (v := some (q + 10)) (by omega)
        have d3 := (d2.z (n := q + 11) (by omega)).uR (n := q) (k := 2) (v := some (q + 11)) (by omega)
        have d4 := (d3.z (n := q + 12) (by omega)).uR (n := q) (k := 3) (v := some (q + 12)) (by omega)
        have d5 := (d4.z (n := q + 13) (by omega)).uR (n := q) (k := 4) (v := some (q + 13)) (by omega)
        refine done.app (done.one ?_) (done.app (done.app (done.app (done.app d5 (done.ints m16)) (done.ints m17)) (done.ints m18)) (done.ints m19))
        refine rowL.ok (L := [(4, q + 13), (3, q + 12), (2, q + 11), (1, q + 10), (0, q + 1)]) ?_ (ci := 2) (N := 6) m1 (by rcases hq with rfl | rfl | rfl <;> decide +kernel)
        exact rowL.put ((rowL.put ((rowL.put ((rowL.put ((rowL.put rowL.nil rfl).z (by omega)) rfl).z (by omega)) rfl).z (by omega)) rfl).z (by omega)) rfl
      · intro k
        rw [up_a (by omega), z_a (by omega), z_a (by omega), z_a (by omega), z_a (by omega)]
        exact x3 k)
