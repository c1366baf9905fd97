/-! from the entry on -/
theorem bl_ST {args : Array Value} {s : State} {y : bg_Y} {n : String} {f : Nat → Int} (hy : y.1 = s.heap.size) (hl : (Cond.laysStatic "BoreholeColumns" n "[I").before args s = true) (hini : (Cond.initialized "BoreholeColumns").before args s = true) (harr : (Cond.arrayOf (.static "BoreholeColumns" n "[I") .int).before args s = true) (hlen : (Cond.eq (.length (.static "BoreholeColumns" n "[I")) (.int 5)).before args s = true) (h0 : (Cond.eq (.elem (.static "BoreholeColumns" n "[I") (.int 0)) (.int (Int32.ofInt (f 0)))).before args s = true) (h1 : (Cond.eq (.elem (.static "BoreholeColumns" n "[I") (.int 1)) (.int (Int32.ofInt (f 1)))).before args s = true) (h2 : (Cond.eq (.elem (.static "BoreholeColumns" n "[I") (.int 2)) (.int (Int32.ofInt (f 2)))).before args s = true) (h3 : (Cond.eq (.elem (.static "BoreholeColumns" n "[I") (.int 3)) (.int (Int32.ofInt (f 3)))).before args s = true) (h4 : (Cond.eq (.elem (.static "BoreholeColumns" n "[I") (.int 4)) (.int (Int32.ofInt (f 4)))).before args s = true) : bg_ST y n f s s.heap := by
  have hA : ∀ a : Nat, a < s.heap.size → ¬ bg_A y a := fun a h1 h2 => by
    have h2 : y.1 ≤ a := h2
    omega
  obtain ⟨t, e1, e2⟩ := va_Tof (tm := .static "BoreholeColumns" n "[I") (N := 5) (f := fun j => .int (Int32.ofInt (f j))) (A := bg_A y) (by decide) harr (va_eqt hlen) (fun j hj => by
    have hc : j = 0 ∨ j = 1 ∨ j = 2 ∨ j = 3 ∨ j = 4 := by omega
    rcases hc with rfl | rfl | rfl | rfl | rfl
    · exact va_eqt h0
    · exact va_eqt h1
    · exact va_eqt h2
    · exact va_eqt h3
    · exact va_eqt h4) hA
  exact ⟨t, va_Zref hl hini e1 hA, e2⟩
theorem bl_known {args : Array Value} {s : State} (hts : ∀ w ∈ bg_T, w.before args s = true) : ∀ k : Nat, ∃ (cC : ClassId) (iS : Nat → Nat), ∀ q : vw_C, vwCl[k]? = some q → u_Kn s q.1 q.2.1 q.2.2 cC iS := by
  intro k
  match k with
  | 0 => obtain ⟨c, i, h⟩ := u_known hts bg_in0 (hts _ qI_RX0); exact ⟨c, i, fun q hq => by cases hq; exact h⟩
  | 1 => obtain ⟨c, i, h⟩ := u_known hts bg_in1 (hts _ qI_RX1); exact ⟨c, i, fun q hq => by cases hq; exact h⟩
  | 2 => obtain ⟨c, i, h⟩ := u_known hts bg_in2 (hts _ qI_RX2); exact ⟨c, i, fun q hq => by cases hq; exact h⟩
  | 3 => obtain ⟨c, i, h⟩ := u_known hts bg_in3 (hts _ qI_RX3); exact ⟨c, i, fun q hq => by cases hq; exact h⟩
  | 4 => obtain ⟨c, i, h⟩ := u_known hts bg_in4 (hts _ qI_RX4); exact ⟨c, i, fun q hq => by cases hq; exact h⟩
  | 5 => obtain ⟨c, i, h⟩ := u_known hts bg_in5 (hts _ qI_RX5); exact ⟨c, i, fun q hq => by cases hq; exact h⟩
  | 6 => obtain ⟨c, i, h⟩ := u_known hts bg_in6 (hts _ qI_RX6); exact ⟨c, i, fun q hq => by cases hq; exact h⟩
  | n + 7 => exact ⟨0, fun _ => 0, fun q hq => by simp at hq⟩
theorem bl_over {args : Array Value} {s : State} {C : String} (h : (Cond.arrayOver (.object C)).before args s = true) : ∃ cA : ClassId, ArrOfT s cA (.object C) ∧ va_RA s cA (.object C) := by
  obtain ⟨comp, c, k, h1, h2, h3, h4, h5⟩ := Cond.arrayOver_spec h
  exact ⟨c, fun n z => ⟨(fun k h => by cases h), k, h3, comp, h4⟩, k, comp, h3, h4, h1, h5⟩
theorem bl_prim {args : Array Value} {s : State} (h : (Cond.arrayClass .int).before args s = true) : ∃ cA : ClassId, ArrOfT s cA .int ∧ va_RA s cA .int := by
  obtain ⟨c, k, comp, h1, h2, h3⟩ := Cond.arrayClass_spec h
  exact ⟨c, fun n z => ⟨(fun k h => by cases h), k, h2, comp, h3⟩, h1⟩
theorem bl_NW {w : Cond} (h : w ∈ bg_NW) : w ∈ lw_tbl := List.mem_append_right _ (List.mem_filter.mp h).1
set_option maxRecDepth 20000 in
theorem whole_start {p : Program} {e : Env} {s : State} {m : MethodId} {below : List Frame} {meth : Method} {c : Code} (l : Launch) (hflags : l.flags = flags0) {b L : Nat} {xs : Nat → Int32} (hL : L ≤ 260) (C0 : lw_At p s m meth c b L xs) : W p l e room_1 s m #[Value.ref b] below meth c s.heap [] 0 0 (lw_Z below #[Value.ref b] s) (entryFrame m ([Value.ref b] : List Value).toArray 10) := by
  obtain ⟨hx, hb, hr, hml, hown, hts, hX, hbl, hlocks, hgv⟩ := id C0
  have hbT : ∀ w ∈ bg_T, w.before #[Value.ref b] s = true := fun w hw => hts w (List.mem_filter.mp hw).1
  have hgs := flat_of_before _ hgv
  have hAS : (Cond.arrayOver (.object "BoreholeColumns$State")).before #[Value.ref b] s = true := hts _ (by decide +kernel)
  have hAC : (Cond.arrayOver (.object "BoreholeColumns$Column")).before #[Value.ref b] s = true := hts _ (by decide +kernel)
  obtain ⟨cI, i1, i2⟩ := bl_prim (hbT _ qA_int)
  obtain ⟨cS, s1, s2⟩ := bl_over hAS
  obtain ⟨cC, k1, k2⟩ := bl_over hAC
  have key := bl_known hbT
  obtain ⟨y, hy⟩ : ∃ y : bg_Y, y = (s.heap.size, (fun k => Classical.choose (key k), fun k => Classical.choose (Classical.choose_spec (key k))), cI, cS, cC) := ⟨_, rfl⟩
  have hy1 : y.1 = s.heap.size := by rw [hy]
  have hini : (Cond.initialized "BoreholeColumns").before #[Value.ref b] s = true := hbT _ iC_RX6
  have hKK : bg_KK y s := by
    refine ⟨⟨fun k q hq => ?_, fun k q hq => ?_⟩, fun w hw => va_Nw.of (bg_NW_onTables w hw) (hts w (bl_NW hw)), ⟨va_AO.of hAS, va_AO.of hAC⟩, ?_, ?_, ?_⟩
    · rw [hy]
      exact Classical.choose_spec (Classical.choose_spec (key k)) q hq
    · rw [hy] at hq
      match k, hq with
      | 0, hq => cases hq; exact ⟨i1, i2⟩
      | 1, hq => cases hq; exact ⟨s1, s2⟩
      | 2, hq => cases hq; exact ⟨k1, k2⟩
      | k + 3, hq => simp [bg_tys] at hq
    · exact bl_ST hy1 (hts _ (by decide +kernel)) hini (hgs _ (by decide +kernel)) (hgs _ (by decide +kernel)) (hgs _ (by decide +kernel)) (hgs _ (by decide +kernel)) (hgs _ (by decide +kernel)) (hgs _ (by decide +kernel)) (hgs _ (by decide +kernel))
    · exact bl_ST hy1 (hts _ (by decide +kernel)) hini (hgs _ (by decide +kernel)) (hgs _ (by decide +kernel)) (hgs _ (by decide +kernel)) (hgs _ (by decide +kernel)) (hgs _ (by decide +kernel)) (hgs _ (by decide +kernel)) (hgs _ (by decide +kernel))
    · exact bl_ST hy1 (hts _ (by decide +kernel)) hini (hgs _ (by decide +kernel)) (hgs _ (by decide +kernel)) (hgs _ (by decide +kernel)) (hgs _ (by decide +kernel)) (hgs _ (by decide +kernel)) (hgs _ (by decide +kernel)) (hgs _ (by decide +kernel))
  obtain ⟨κ, hκ⟩ : ∃ κ : bg_K, κ = (p, l, e, room_1, s, m, #[Value.ref b], below, meth, c, lw_Z below #[Value.ref b] s) := ⟨_, rfl⟩
  have hC : bl_C κ y b L xs := by
    subst hκ
    exact ⟨⟨hx, hb, hown, hbT, hKK, Nat.le_of_eq hy1, hlocks, (by decide : (10 : Nat) ≤ 11), (by decide : (44 * 10 : Nat) ≤ 464), Nat.le_refl _, Nat.le_refl _⟩, hX, hbl, hy1, hL, hml⟩
  have hend : ∀ (c1 c2 : Nat) (a : Array Slot) (g : bg_E), c1 ≤ 1000 → c2 ≤ 100000 → bl_H κ y (c1, c2) 229 a [.int 1] (bg_O g) := by
    intro c1 c2 a g h1 h2 H locs hD hS
    subst hκ
    refine va_forget (fun q hq => ?_) (W.widen (k := 742713) (n := 6874108) (by show c1 ≤ 742713; omega) (by show c2 ≤ 6874108; omega) (lw_ret hx hb hr hlocks dL_law_229))
    have h9 : y.1 ≤ q.base := hS.2.2 q hq
    rw [hy1] at h9
    exact h9
  have hl := lv_entry ([.ref b]) (n := 10) (Nat.le_of_ble_eq_true rfl)
  rw [lg_entry_eq]
  generalize (lg_sl ([.ref b]) ++ List.replicate (10 - (lg_sl ([.ref b])).length) Slot.unset).toArray = ls at hl ⊢
  have hl : lv_has ls 10 [(0, .ref b)] := hl
  have start : bl_H κ y (0, 0) 0 ls [] (0, (fun _ _ => none), (fun _ _ => 0)) := by
    refine bl_new (pc := 0) (ci := 6) hC dL_law_0 rfl qL_43 qI_RX6 iC_RX6 rfl (by decide) (by decide) ?_
    intro H locs hD hS
    refine lv_dup hC.1.1 hC.1.2.1 dL_law_3 rfl ?_
    revert H locs
    refine bl_init (pc := 4) hC c_X6_init bX6_init nX6_init rfl rfl lL_118 (by decide) (by decide) (by decide) dL_law_4 (Nat.le_of_ble_eq_true rfl) hl.1 ?_
    rintro r1 g1 ⟨d1, R1⟩
    intro H locs hD hS
    refine lv_astore_n (lv' := [(1, .ref (y.1 + 0)), (0, .ref b)]) hC.1.1 hC.1.2.1 dL_law_7 rfl hl (by decide) rfl (fun ls1 hl1 => ?_)
    refine lv_bipush (v := Int32.ofInt 18) hC.1.1 hC.1.2.1 dL_law_8 rfl ?_
    revert H locs
    refine bl_newI (pc := 10) (N := 18) hC dL_law_10 rfl rfl (by decide) (by decide) (by decide) ?_
    intro H locs hD hS
    refine lv_astore_n (lv' := [(2, .ref (y.1 + 198)), (1, .ref (y.1 + 0)), (0, .ref b)]) hC.1.1 hC.1.2.1 dL_law_12 rfl hl1 (by decide) rfl (fun ls2 hl2 => ?_)
    refine lv_bipush (v := Int32.ofInt 48) hC.1.1 hC.1.2.1 dL_law_13 rfl ?_
    revert H locs
    refine bl_newI (pc := 15) (N := 48) hC dL_law_15 rfl rfl (by decide) (by decide) (by decide) ?_
    intro H locs hD hS
    refine lv_astore_n (lv' := [(3, .ref (y.1 + 199)), (2, .ref (y.1 + 198)), (1, .ref (y.1 + 0)), (0, .ref b)]) hC.1.1 hC.1.2.1 dL_law_17 rfl hl2 (by decide) rfl (fun ls3 hl3 => ?_)
    refine lv_bipush (v := Int32.ofInt 49) hC.1.1 hC.1.2.1 dL_law_18 rfl ?_
    revert H locs
    refine bl_newI (pc := 20) (N := 49) hC dL_law_20 rfl rfl (by decide) (by decide) (by decide) ?_
    intro H locs hD hS
    refine lv_astore (lv' := [(4, .ref (y.1 + 200)), (3, .ref (y.1 + 199)), (2, .ref (y.1 + 198)), (1, .ref (y.1 + 0)), (0, .ref b)]) hC.1.1 hC.1.2.1 dL_law_22 hl3 (by decide) rfl (fun ls4 hl4 => ?_)
    refine lv_bipush (v := Int32.ofInt 44) hC.1.1 hC.1.2.1 dL_law_24 rfl ?_
    revert H locs
    refine bl_newI (pc := 26) (N := 44) hC dL_law_26 rfl rfl (by decide) (by decide) (by decide) ?_
    intro H locs hD hS
    refine lv_astore (lv' := [(5, .ref (y.1 + 201)), (4, .ref (y.1 + 200)), (3, .ref (y.1 + 199)), (2, .ref (y.1 + 198)), (1, .ref (y.1 + 0)), (0, .ref b)]) hC.1.1 hC.1.2.1 dL_law_28 hl4 (by decide) rfl (fun ls5 hl5 => ?_)
    have hdn : done (bg_zR (bg_zR (bg_zR (bg_zR r1 198) 199) 200) 201) 0 202 := (((((((d1.z (n := 198) (by decide)).z (n := 199) (by decide)).z (n := 200) (by decide)).z (n := 201) (by decide)).app (done.ints (N := 18) rfl)).app (done.ints (N := 48) rfl)).app (done.ints (N := 49) rfl)).app (done.ints (N := 44) rfl)
    have hD2 := (hD.fix hdn (Nat.le_refl _)).zero (Nat.le_refl _)
    obtain ⟨g2, e2⟩ : ∃ g2 : bg_E, g2 = fun x j => if x = bg_PZ then 0 else bg_z (bg_z (bg_z (bg_z g1 198) 199) 200) 201 x j := ⟨_, rfl⟩
    rw [← e2] at hD2
    have z2 : g2 bg_PZ 0 = 0 := by rw [e2]; exact if_pos rfl
    have o2 : ((202, bg_F, g2) : bg_M) = bg_O g2 := by
      show ((202, bg_F, g2) : bg_M) = (202 + (g2 bg_PZ 0).toNat, bg_F, g2)
      rw [z2]
      rfl
    have lo2 : ∀ x j, x < 202 → g2 x j = bg_z (bg_z (bg_z (bg_z g1 198) 199) 200) 201 x j := fun x j hx => by
      rw [e2]
      exact if_neg (by unfold bg_PZ; omega)
    have R2 : clsR g2 bm_X0 := R1.lo (fun x hx => by
      funext j
      rw [lo2 x j (by omega), z_a (by omega), z_a (by omega), z_a (by omega), z_a (by omega)])
    rw [o2] at hD2
    exact bl_go hC hend R2 (fun k => by rw [lo2 198 k (by omega), z_a (by decide), z_a (by decide), z_a (by decide), z_0]) z2 hl5 H locs hD2 hS
  subst hκ
  exact start s.heap [] ⟨by rw [hy1]; rfl, fun id hid => absurd hid (Nat.not_lt_zero _), fun _ _ => (by decide : R32 0)⟩ va_S.rf
