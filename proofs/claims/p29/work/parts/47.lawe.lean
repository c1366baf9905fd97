/-! the law: its own frame, whose locals are known -/
def bl_H (κ : bg_K) (y : bg_Y) (cs : Nat × Nat) (pc : Nat) (a : Array Slot) (st : List Value) (M : bg_M) : Prop :=
  ∀ (H : Heap) (locs : List Loc), bg_D y M H → va_S (bg_A y) (bg_s κ).heap H locs → bg_W κ cs H locs (F0 (bg_m κ) pc a st)
/-- what holds throughout: the law's machine, the script -/
def bl_C (κ : bg_K) (y : bg_Y) (b L : Nat) (xs : Nat → Int32) : Prop :=
  bg_X κ y cL_law RL 10 742713 6874108 ∧ va_X b L xs (bg_s κ) (bg_s κ).heap ∧ b < (bg_s κ).heap.size ∧ y.1 = (bg_s κ).heap.size ∧ L ≤ 260 ∧ (bg_c κ).maxLocals = 10
theorem c_L_starts {y : bg_Y} {g : bg_E} : bg_Sv y 0 mL_starts [.inr 198] g (fun g' => (∀ x, x ≠ 198 → g' x = g x) ∧ (∀ k, k < 5 → g' 198 k = bg_first k) ∧ ∀ k, 5 ≤ k → g' 198 k = g 198 k) := by
  refine bg_enter pnL (Nat.le_of_ble_eq_true rfl) (fun κ X hR hg => ?_)
  have X1 : bg_X κ y cL_starts RL 0 0 0 := X.1
  have hg : ∀ a k, R32 (g a k) := hg
  show bg_g κ y 0 [some (.inr 198)] [] g
  refine bg_aload0 (pc := 0) X1 dL_starts_0 ?_
  refine bg_iconst (pc := 1) X1 dL_starts_1 (by decide) ?_
  refine bg_bipush (pc := 2) X1 dL_starts_2 rfl (by decide) ?_
  refine bq_iastore (pc := 4) X1 dL_starts_4 (by first | assumption | rfl) (by omega) ?_
  refine bg_aload0 (pc := 5) X1 dL_starts_5 ?_
  refine bg_iconst (pc := 6) X1 dL_starts_6 (by decide) ?_
  refine bg_bipush (pc := 7) X1 dL_starts_7 rfl (by decide) ?_
  refine bq_iastore (pc := 9) X1 dL_starts_9 (by first | assumption | rfl) (by omega) ?_
  refine bg_aload0 (pc := 10) X1 dL_starts_10 ?_
  refine bg_iconst (pc := 11) X1 dL_starts_11 (by decide) ?_
  refine bg_iconst (pc := 12) X1 dL_starts_12 (by decide) ?_
  refine bq_iastore (pc := 13) X1 dL_starts_13 (by first | assumption | rfl) (by omega) ?_
  refine bg_aload0 (pc := 14) X1 dL_starts_14 ?_
  refine bg_iconst (pc := 15) X1 dL_starts_15 (by decide) ?_
  refine bg_iconst (pc := 16) X1 dL_starts_16 (by decide) ?_
  refine bq_iastore (pc := 17) X1 dL_starts_17 (by first | assumption | rfl) (by omega) ?_
  refine bg_aload0 (pc := 18) X1 dL_starts_18 ?_
  refine bg_iconst (pc := 19) X1 dL_starts_19 (by decide) ?_
  refine bg_iconst (pc := 20) X1 dL_starts_20 (by decide) ?_
  refine bq_iastore (pc := 21) X1 dL_starts_21 (by first | assumption | rfl) (by omega) ?_
  exact bo_vret (pc := 22) X rfl dL_starts_22 (fun hg9 => by
      refine ⟨fun x hx => by rw [bg_up_ne hx, bg_up_ne hx, bg_up_ne hx, bg_up_ne hx, bg_up_ne hx], fun k hk => ?_, fun k hk => ?_⟩
      · have hc : k = 0 ∨ k = 1 ∨ k = 2 ∨ k = 3 ∨ k = 4 := by omega
        rcases hc with rfl | rfl | rfl | rfl | rfl <;> simp [bg_up, bg_first]
      · simp only [show (0 : Int).toNat = 0 from rfl, show (1 : Int).toNat = 1 from rfl, show (2 : Int).toNat = 2 from rfl, show (3 : Int).toNat = 3 from rfl, show (4 : Int).toNat = 4 from rfl]
        rw [up_k (by omega), up_k (by omega), up_k (by omega), up_k (by omega), up_k (by omega)])
/-- a number of the script, or one in its place -/
theorem c_L_cell {y : bg_Y} {M : bg_M} {b L : Nat} {xs : Nat → Int32} {k : Int} (hk : 0 ≤ k ∧ k ≤ 100000) (hby : b < y.1) (hL : L ≤ 260) : ∀ l : Launch, Met l yL_cell (bg_ws mL_cell) (bg_rm 0 0 0) (va_Pc [.ref b, .int (Int32.ofInt k)] (fun U => bg_D y M U.heap ∧ va_X b L xs U U.heap)) (fun _ st oc t => (∃ v : Int32, oc = .returned (some (.int v)) ∧ bg_D y M t.heap) ∧ va_F (bg_A y) st t) 0 0 (bg_A y) := by
  intro l
  refine Met.ofW (cc := cL_cell) (maxL := 2) (ret := some .int) pnL rfl ?_
  intro p e s m args' below meth c s₁ B hml hv
  obtain ⟨rfl, hD, hX⟩ := hv
  have hts := atoms_spec (ws := bg_ws mL_cell) B.pre
  have hx := B.exec
  have hb := B.bytes
  have hown := findClass_of_methodNamed B.named
  have hbl : b < s.heap.size := by have := hD.1; omega
  have hbA : ¬ bg_A y b := fun h => by have h : y.1 ≤ b := h; omega
  have hl := lv_entry ([.ref b, .int (Int32.ofInt k)]) (n := 2) (Nat.le_of_ble_eq_true rfl)
  rw [lg_entry_eq]
  generalize (lg_sl ([.ref b, .int (Int32.ofInt k)]) ++ List.replicate (2 - (lg_sl ([.ref b, .int (Int32.ofInt k)])).length) Slot.unset).toArray = ls at hl ⊢
  have hl : lv_has ls 2 [(0, .ref b), (1, .int (Int32.ofInt k))] := hl
  have hS0 : va_S (bg_A y) s.heap s.heap [] := va_S.rf
  have Rk : R32 k := ⟨by omega, by omega⟩
  have RL' : R32 (L : Int) := ⟨by omega, by omega⟩
  refine lv_iload_n hx hb dL_cell_0 rfl (lv_at hl 1 rfl) ?_
  refine lv_aload_n hx hb dL_cell_1 rfl (lv_at hl 0 rfl) ?_
  refine va_slen hx hb hX hbl hbA hS0 dL_cell_2 ?_
  refine lv_icmp_ge (tgt := 12) hx hb dL_cell_3 (by decide) (fun _ => ?_) (fun h => ?_)
  · refine lv_ldc hx hb hown (hts _ (List.mem_cons_of_mem _ kL_7)) dL_cell_12 ?_
    refine lv_iload_n hx hb dL_cell_14 rfl (lv_at hl 1 rfl) ?_
    refine lv_iconst (v := 3) hx hb dL_cell_15 rfl ?_
    refine lv_iadd hx hb dL_cell_16 ?_
    refine lv_imul hx hb dL_cell_17 ?_
    exact W.iret hx hb B.returns (fun t ht hW => ⟨⟨_, rfl, by rw [ht]; exact hD⟩, hS0.F ht⟩) hS0.2.2 dL_cell_18 B.notSynchronized
  · have hkL : k < (L : Int) := by
      have h9 : ¬ (L : Int) ≤ k := fun q => h ((bg_le RL' Rk).mpr q)
      omega
    refine lv_aload_n hx hb dL_cell_6 rfl (lv_at hl 0 rfl) ?_
    refine lv_iload_n hx hb dL_cell_7 rfl (lv_at hl 1 rfl) ?_
    refine va_sld hx hb hX hbl hbA hS0 (bg_vpin Rk hk.1 hkL) dL_cell_8 ?_
    refine lv_goto (tgt := 18) hx hb dL_cell_9 (by decide) ?_
    exact W.iret hx hb B.returns (fun t ht hW => ⟨⟨_, rfl, by rw [ht]; exact hD⟩, hS0.F ht⟩) hS0.2.2 dL_cell_18 B.notSynchronized
theorem arrV_cg {cI : ClassId} {N : Nat} {f f' : Nat → Value} (h : ∀ j, j < N → f j = f' j) : arrV cI N f = arrV cI N f' := by
  unfold arrV
  congr 2
  funext j
  exact h j.val j.isLt
section LAWB
variable {κ : bg_K} {y : bg_Y} {c1 c2 : Nat} {pc : Nat} {a : Array Slot} {st : List Value} {M : bg_M} {b L : Nat} {xs : Nat → Int32}
theorem bl_cell (C : bl_C κ y b L xs) (hsz : a.size = 10) {k : Int} (hk : 0 ≤ k ∧ k ≤ 100000) (hdc : decode cL_law pc = .ok (.invokestatic 127, 3)) (hst : (st.map fun v => v.category).sum ≤ 8) (h1 : c1 ≤ 742713) (h2 : c2 ≤ 6874108) (kk : ∀ v : Int32, bl_H κ y (c1, c2) (pc + 3) a (.int v :: st) M) : bl_H κ y (c1, c2) pc a (.int (Int32.ofInt k) :: .ref b :: st) M := by
  intro H locs hD hS
  obtain ⟨X, hX, hbl, hy, hL, hml⟩ := C
  have hB := bg_callB X (d := 0) (mc := 0) (ms := 0) sL_cell.1 lL_127 (by decide)
  obtain ⟨hx, hb, hown, hts, hK, hbs, hlk, r1, r2, r3, r4⟩ := X
  have hbA : ¬ bg_A y b := fun h => by have h : y.1 ≤ b := h; omega
  have hPre : PreS (bg_s κ) H (va_Pc [.ref b, .int (Int32.ofInt k)] (fun U => bg_D y M U.heap ∧ va_X b L xs U U.heap)) [.ref b, .int (Int32.ofInt k)] := by
    refine ⟨?_, fun U hU hW => ⟨rfl, by rw [hU]; exact hD, ?_⟩⟩
    · intro a U g mk h
      obtain ⟨h1, h2, h3⟩ := h
      have hvm : U.vm.Alike (U.calling g mk a).vm := Vm.Alike.refl U.vm
      exact ⟨h1, h2, h3.moved hvm⟩
    · rw [hU]
      exact (va_X.moved hW.alike hX).kept (hS.2.1 b hbl hbA)
  have run := va_runS (l := κ.2.1) (e := κ.2.2.1) (As := [.ref b, .int (Int32.ofInt k)]) (rest := st) ⟨hx, hb, rfl, hown, hts⟩ (c_L_cell hk (by omega) hL _) ⟨hB, hts _ sL_cell.2⟩ hPre (g := F0 (bg_m κ) pc a (.int (Int32.ofInt k) :: .ref b :: st)) rfl rfl (by rw [hml]; exact hsz) rfl (lv_room hst) hdc ⟨Nat.le_trans h1 r3, Nat.le_trans h2 r4⟩ (below := κ.2.2.2.2.2.2.2.1) (meth := κ.2.2.2.2.2.2.2.2.1) (locs := locs)
  intro T hT X
  obtain ⟨v, st₀, t, T', L', e1, X', hL', h3, h4, ⟨⟨i2, h5, h7⟩, h9⟩, hg⟩ := run T hT X
  have hv : v = some (.int i2) := by injection h5
  subst hv
  have hS' : va_S (bg_A y) (bg_s κ).heap T'.heap (locs ++ L') := by
    refine ⟨?_, fun q hq1 hq2 => ?_, fun q hq => ?_⟩
    · have := h9.1; rw [e1] at this; rw [h3]; exact Nat.le_trans hS.1 this
    · rw [h3, h9.2 q (by rw [e1]; exact Nat.lt_of_lt_of_le hq1 hS.1) hq2, e1]; exact hS.2.1 q hq1 hq2
    · rcases List.mem_append.mp hq with h | h
      · exact hS.2.2 q h
      · exact hL' q h
  obtain ⟨t', k1, k2⟩ := kk i2 T'.heap (locs ++ L') (by rw [h3]; exact h7) hS' T' rfl X'
  exact ⟨t', hg t' k1, k2⟩
theorem bl_callS (C : bl_C κ y b L xs) (hsz : a.size = 10) {d mc ms idx n : Nat} {μ : bg_P} {As : List bg_V} {Post : Option bg_V → bg_M → Prop} {stk : List Value} (hc : bg_S y d mc ms μ As M Post) (hm : bg_mS μ n) (hl : Cond.methodLink RL idx μ.1 ∈ bg_T) (hn : As.length = n) (hd : d + 1 ≤ 10) (hdc : decode cL_law pc = .ok (.invokestatic idx, 3)) (hA : bg_RS As) (hst : (st.map fun v => v.category).sum ≤ 8) (hstk : stk = (As.map (bg_v y)).reverse ++ st)
    (h1 : c1 + mc ≤ 742713) (h2 : c2 + ms ≤ 6874108) (kk : ∀ r M', Post r M' → bl_H κ y (c1 + mc, c2 + ms) (pc + 3) a ((r.map (bg_v y)).toList ++ st) M') : bl_H κ y (c1, c2) pc a stk M := by
  subst hstk
  intro H locs hD hS
  obtain ⟨X, hX, hbl, hy, hL, hml⟩ := C
  have hB := bg_callB X (d := d) (mc := mc) (ms := ms) hm.1 hl hd
  obtain ⟨hx, hb, hown, hts, hK, hbs, hlk, r1, r2, r3, r4⟩ := X
  obtain ⟨⟨m1, m2, m3, m4⟩, m5⟩ := hm
  have hPre := bg_prePre (κ := κ) (args := As) hK hD hS hA
  have run := va_runS (l := κ.2.1) (e := κ.2.2.1) (As := As.map (bg_v y)) (rest := st) ⟨hx, hb, rfl, hown, hts⟩ (hc _) ⟨hB, hts _ m5⟩ hPre (g := F0 (bg_m κ) pc a ((As.map (bg_v y)).reverse ++ st)) rfl (by rw [List.length_map]; exact hn) (by rw [hml]; exact hsz) rfl (lv_room hst) hdc ⟨Nat.le_trans h1 r3, Nat.le_trans h2 r4⟩ (below := κ.2.2.2.2.2.2.2.1) (meth := κ.2.2.2.2.2.2.2.2.1) (locs := locs)
  intro T hT X
  obtain ⟨v, st₀, t, T', L', e1, X', hL', h3, h4, ⟨⟨r, M', h5, hP, h7, h8⟩, h9⟩, hg⟩ := run T hT X
  have hv : v = r.map (bg_v y) := by injection h5
  subst hv
  have hS' : va_S (bg_A y) (bg_s κ).heap T'.heap (locs ++ L') := by
    refine ⟨?_, fun q hq1 hq2 => ?_, fun q hq => ?_⟩
    · have := h9.1; rw [e1] at this; rw [h3]; exact Nat.le_trans hS.1 this
    · rw [h3, h9.2 q (by rw [e1]; exact Nat.lt_of_lt_of_le hq1 hS.1) hq2, e1]; exact hS.2.1 q hq1 hq2
    · rcases List.mem_append.mp hq with h | h
      · exact hS.2.2 q h
      · exact hL' q h
  obtain ⟨t', k1, k2⟩ := kk r M' hP T'.heap (locs ++ L') (by rw [h3]; exact h7) hS' T' rfl X'
  exact ⟨t', hg t' k1, k2⟩
theorem bl_call (C : bl_C κ y b L xs) {d idx n ci N a0 : Nat} (hsz : a.size = 10) {μ : bg_P} {As : List bg_V} {g : bg_E} {P : Int → bg_E → Prop} {stk : List Value} (hc : bg_Si y d μ (.inr a0 :: As) g P) (hm : bg_mV μ ci n) (hl : Cond.methodLink RL idx μ.1 ∈ bg_T) (hn : As.length = n) (hk : bg_kd a0 = some (ci, N)) (hd : d + 1 ≤ 10) (hdc : decode cL_law pc = .ok (.invokevirtual idx, 3)) (hA : bg_RS As) (hst : (st.map fun v => v.category).sum ≤ 8) (hstk : stk = (As.map (bg_v y)).reverse ++ .ref (y.1 + a0) :: st)
    (h1 : c1 ≤ 742713) (h2 : c2 ≤ 6874108) (kk : ∀ r g', P r g' → bl_H κ y (c1, c2) (pc + 3) a (.int (Int32.ofInt r) :: st) (bg_O g')) : bl_H κ y (c1, c2) pc a stk (bg_O g) := by
  subst hstk
  intro H locs hD hS
  obtain ⟨X, hX, hbl, hy, hL, hml⟩ := C
  have hB := bg_callB X (d := d) (mc := 0) (ms := 0) hm.1 hl hd
  obtain ⟨hx, hb, hown, hts, hK, hbs, hlk, r1, r2, r3, r4⟩ := X
  obtain ⟨⟨m1, m2, m3, m4⟩, m5, m6, m7⟩ := hm
  have hPre := bg_prePre (κ := κ) (args := .inr a0 :: As) hK hD hS ⟨trivial, hA⟩
  obtain ⟨q, hq⟩ : ∃ q, vwCl[ci]? = some q := by
    cases h : vwCl[ci]? with
    | none => rw [h] at m7; cases m7
    | some q => exact ⟨q, rfl⟩
  have hqc : q.1 = μ.1.cls := by rw [hq] at m7; exact Option.some.inj m7
  obtain ⟨cell, q1, q2, q3, -⟩ := (hD.2.1 a0 (bg_kd_lt hk) ci N (bg_kdd_of hk)).1 (bg_ci_lt (C := q.1) (T := q.2.1) (N := q.2.2) hq)
  have hcl := (hK.1.1 ci q hq).2.1
  have run := va_runV (l := κ.2.1) (e := κ.2.2.1) (As := As.map (bg_v y)) (rest := st) ⟨hx, hb, rfl, hown, hts⟩ (hc _) ⟨hB, hts _ m5, hts _ m6⟩ ⟨hPre.1, ⟨cell, q1, by rw [q3]; rfl, by rw [q2, ← hqc]; exact hcl⟩, hPre.2⟩ (g := F0 (bg_m κ) pc a ((As.map (bg_v y)).reverse ++ .ref (y.1 + a0) :: st)) rfl (by rw [List.length_map]; exact hn) (by rw [hml]; exact hsz) rfl (lv_room hst) hdc ⟨Nat.le_trans h1 r3, Nat.le_trans h2 r4⟩ (below := κ.2.2.2.2.2.2.2.1) (meth := κ.2.2.2.2.2.2.2.2.1) (locs := locs)
  intro T hT X
  obtain ⟨v, st₀, t, T', L', e1, X', hL', h3, h4, ⟨⟨r, M', h5, ⟨i2, g', rfl, rfl, hP⟩, h7, h8⟩, h9⟩, hg⟩ := run T hT X
  have hv : v = some (bg_v y (.inl i2)) := by injection h5
  subst hv
  have hS' : va_S (bg_A y) (bg_s κ).heap T'.heap (locs ++ L') := by
    refine ⟨?_, fun q hq1 hq2 => ?_, fun q hq => ?_⟩
    · have := h9.1; rw [e1] at this; rw [h3]; exact Nat.le_trans hS.1 this
    · rw [h3, h9.2 q (by rw [e1]; exact Nat.lt_of_lt_of_le hq1 hS.1) hq2, e1]; exact hS.2.1 q hq1 hq2
    · rcases List.mem_append.mp hq with h | h
      · exact hS.2.2 q h
      · exact hL' q h
  obtain ⟨t', k1, k2⟩ := kk i2 g' hP T'.heap (locs ++ L') (by rw [h3]; exact h7) hS' T' rfl X'
  exact ⟨t', hg t' k1, k2⟩
theorem bl_new (C : bl_C κ y b L xs) {n idx ci N : Nat} {r : Nat → Nat → Option Nat} {g : Nat → Nat → Int} {Cn : String} {T : u_T} (hd : decode cL_law pc = .ok (.new idx, 3)) (hc : vwCl[ci]? = some (Cn, T, N)) (hl : Cond.classLink RL idx Cn ∈ bg_T) (hi : Cond.instantiable Cn N ∈ bg_T) (hini : Cond.initialized Cn ∈ bg_T) (hk : bg_kd n = some (ci, N)) (h1 : c1 + 1 ≤ 742713) (h2 : c2 + N ≤ 6874108) (kk : bl_H κ y (c1 + 1, c2 + N) (pc + 3) a (.ref (y.1 + n) :: st) (n + 1, bg_zR r n, bg_z g n)) : bl_H κ y (c1, c2) pc a st (n, r, g) := by
  intro H locs hD hS
  obtain ⟨⟨hx, hb, hown, hts, hK, hbs, hlk, r1, r2, r3, r4⟩, hX, hbl, hy, hL, hml⟩ := C
  obtain ⟨ty0, ⟨hin, hty, hnm, -⟩, hok⟩ := bg_cls hc
  have hKn := hK.1.1 ci _ hc
  have hz : H.size = y.1 + n := hD.1
  refine W.newcK hx hb hown (hts _ hl) (hts _ hi) (hts _ hini) rfl hd (Nat.le_trans h1 r3) (Nat.le_trans h2 r4) hKn.2.1 rfl fun H1 kC hkC e1 z1 o1 => ?_
  have hgoal := kk H1 locs (hD.push z1 o1 ?_ (bg_kd_202 hk)) (hS.new z1 o1)
  · rw [hz]
    exact hgoal
  · intro ci' N' hk'
    cases (bg_kdd_of hk).symm.trans hk'
    refine ⟨fun _ => ?_, fun h8 => absurd (bg_ci_lt hc) (by omega)⟩
    rw [← hz]
    refine (u_born ty0 hts hin hKn hkC e1 hty).to (fun j hj => ?_)
    unfold bg_fv
    rw [bg_z_at, bg_zR_at]
    cases hf : bg_fi ci j with
    | true =>
      rw [if_pos rfl, (bg_fi_int hok hj hf).1]
      rfl
    | false =>
      rw [if_neg (by decide)]
      have hr := (bg_fi_ref hok hj hf).2
      cases hty0 : ty0 j with
      | object C => rfl
      | array t => rfl
      | _ => rw [hty0] at hr; exact absurd hr (by decide)
theorem bl_init (C : bl_C κ y b L xs) {d mc ms idx a0 n' : Nat} {μ : bg_P} {P : (Nat → Nat → Option Nat) → bg_E → Prop} (hc : bg_S y d mc ms μ [.inr a0] M (bg_pC n' P)) (hm : bg_mB μ 0) (hni : Cond.instanceMethod μ.1 ∈ bg_T) (hnm : μ.1.name = "<init>") (hret : μ.2.2.2 = none) (hl : Cond.methodLink RL idx μ.1 ∈ bg_T) (hd : d + 1 ≤ 10) (h1 : c1 + mc ≤ 742713) (h2 : c2 + ms ≤ 6874108) (hdc : decode cL_law pc = .ok (.invokespecial idx, 3)) (hst : (st.map fun v => v.category).sum ≤ 8) (hsz : a.size = 10)
    (kk : ∀ r' g', P r' g' → bl_H κ y (c1 + mc, c2 + ms) (pc + 3) a st (n', r', g')) : bl_H κ y (c1, c2) pc a (.ref (y.1 + a0) :: st) M := by
  intro H locs hD hS
  obtain ⟨X, hX, hbl, hy, hL, hml⟩ := C
  have hB := bg_callB X (d := d) (mc := mc) (ms := ms) hm hl hd
  obtain ⟨hx, hb, hown, hts, hK, hbs, hlk, r1, r2, r3, r4⟩ := X
  have hPre := bg_prePre (κ := κ) (args := [.inr a0]) hK hD hS ⟨trivial, trivial⟩
  rw [hret] at hB
  have run := va_runI (l := κ.2.1) (e := κ.2.2.1) (As := []) (rest := st) ⟨hx, hb, rfl, hown, hts⟩ (hc _) ⟨hB, hnm, hts _ hni⟩ hPre (g := F0 (bg_m κ) pc a (.ref (y.1 + a0) :: st)) rfl rfl (by rw [hml]; exact hsz) rfl (lv_room hst) hdc ⟨Nat.le_trans h1 r3, Nat.le_trans h2 r4⟩ (below := κ.2.2.2.2.2.2.2.1) (meth := κ.2.2.2.2.2.2.2.2.1) (locs := locs)
  intro T hT X
  obtain ⟨v, st₀, t, T', L', e1, X', hL', h3, h4, ⟨⟨r, M', h5, ⟨r', g', rfl, rfl, hP⟩, h7, h8⟩, h9⟩, hg⟩ := run T hT X
  have hv : v = none := by injection h5
  subst hv
  have hS' : va_S (bg_A y) (bg_s κ).heap T'.heap (locs ++ L') := by
    refine ⟨?_, fun q hq1 hq2 => ?_, fun q hq => ?_⟩
    · have := h9.1; rw [e1] at this; rw [h3]; exact Nat.le_trans hS.1 this
    · rw [h3, h9.2 q (by rw [e1]; exact Nat.lt_of_lt_of_le hq1 hS.1) hq2, e1]; exact hS.2.1 q hq1 hq2
    · rcases List.mem_append.mp hq with h | h
      · exact hS.2.2 q h
      · exact hL' q h
  obtain ⟨t', k1, k2⟩ := kk r' g' hP T'.heap (locs ++ L') (by rw [h3]; exact h7) hS' T' rfl X'
  exact ⟨t', hg t' k1, k2⟩
theorem bl_newI (C : bl_C κ y b L xs) {n N : Nat} {i : Int} {r : Nat → Nat → Option Nat} {g : Nat → Nat → Int} (hd : decode cL_law pc = .ok (.newarray .int, 2)) (hi : i = (N : Int)) (hk : bg_kd n = some (8, N)) (hN : N ≤ 1000) (h1 : c1 + 1 ≤ 742713) (h2 : c2 + N ≤ 6874108) (kk : bl_H κ y (c1 + 1, c2 + N) (pc + 2) a (.ref (y.1 + n) :: st) (n + 1, bg_zR r n, bg_z g n)) : bl_H κ y (c1, c2) pc a (.int (Int32.ofInt i) :: st) (n, r, g) := by
  intro H locs hD hS
  obtain ⟨⟨hx, hb, hown, hts, hK, hbs, hlk, r1, r2, r3, r4⟩, hX, hbl, hy, hL, hml⟩ := C
  have hz : H.size = y.1 + n := hD.1
  have hiR : R32 i := ⟨by omega, by omega⟩
  have hix := bg_idx hiR
  refine va_newaK (atype := .int) (N := N) hx hb (hts _ qA_int) rfl hd rfl (fun z => by have := (bg_lt (b := 0) hiR (by decide)).mp z; omega) (by rw [hix]; omega) (by show N * 4 ≤ _; omega) (Nat.le_trans h1 r3) (Nat.le_trans h2 r4) rfl fun H1 cA e1 z1 o1 hAr hNm => ?_
  have hcA : cA = bg_cA y 8 := Option.some.inj (hNm.symm.trans (hK.1.2 0 _ rfl).2)
  subst hcA
  have hgoal := kk H1 locs (hD.push z1 o1 ?_ (bg_kd_202 hk)) (hS.new z1 o1)
  · rw [hz]
    exact hgoal
  · intro ci' N' hk'
    cases (bg_kdd_of hk).symm.trans hk'
    refine ⟨fun h8 => absurd h8 (by omega), fun _ => ?_⟩
    rw [← hz, e1]
    refine congrArg some (arrV_cg (fun j hj => ?_))
    unfold bg_ae
    rw [bg_z_at, if_pos rfl]
    rfl
end LAWB
/-- the references that were made are the ones that were foreseen -/
theorem bg_D.fix {y : bg_Y} {n : Nat} {r : Nat → Nat → Option Nat} {g : Nat → Nat → Int} {H : Heap} (h : bg_D y (n, r, g) H) (hr : done r 0 n) (hn : n ≤ 202) : bg_D y (n, bg_F, g) H := by
  obtain ⟨h1, h2, h3⟩ := h
  refine ⟨h1, fun id hid ci N hk => ?_, h3⟩
  obtain ⟨k1, k2⟩ := h2 id hid ci N hk
  have hid : id < n := hid
  obtain ⟨q, hq⟩ := bg_kd_some (show id < 202 by omega)
  have hk : bg_kd id = some (ci, N) := by rw [hq]; exact (bg_kdd_of hq).symm.trans hk
  have hro := hr id (Nat.zero_le _) hid ci N
  refine ⟨fun hc => (k1 hc).to (fun j hj => ?_), fun hc => (k2 hc).trans (congrArg some (arrV_cg (fun j hj => ?_)))⟩
  · unfold bg_fv
    cases hf : bg_fi ci j with
    | true => rfl
    | false =>
      rw [if_neg (by decide), if_neg (by decide)]
      show bg_rv y (r id j) = bg_rv y (bg_F id j)
      rw [hro j hk hj (by omega) hf]
  · unfold bg_ae
    by_cases h8 : ci = 8
    · rw [if_pos h8, if_pos h8]
    · rw [if_neg h8, if_neg h8]
      show bg_rv y (r id j) = bg_rv y (bg_F id j)
      rw [hro j hk hj h8 (by match ci, hc with | n + 8, _ => rfl)]
/-- before anything is made on the way, what the world holds of it is nothing -/
theorem bg_D.zero {y : bg_Y} {n : Nat} {r : Nat → Nat → Option Nat} {g : Nat → Nat → Int} {H : Heap} (h : bg_D y (n, r, g) H) (hn : n ≤ 202) : bg_D y (n, r, fun x j => if x = bg_PZ then 0 else g x j) H := by
  obtain ⟨h1, h2, h3⟩ := h
  refine ⟨h1, fun id hid => ?_, fun a k => ?_⟩
  · have hid : id < n := hid
    refine (h2 id hid).kept rfl rfl ?_ (bg_kdd_lo (by omega))
    funext j
    show (if id = bg_PZ then 0 else g id j) = g id j
    rw [if_neg (by unfold bg_PZ; omega)]
  · show R32 (if a = bg_PZ then 0 else g a k)
    split
    · decide
    · exact h3 a k
