/-! the law: its own frame, whose locals are known -/
def bl_H (κ : bg_K) (y : bg_Y) (cs : Nat × Nat) (pc : Nat) (a : Array Slot) (st : List Value) (M : bg_M) : Prop :=
  ∀ (H : Heap) (locs : List Loc), bg_D y M H → va_S (bg_A y) (bg_s κ).heap H locs → bg_W κ cs H locs (F0 (bg_m κ) pc a st)
/-- what holds throughout: the law's machine, the script -/
def bl_C (κ : bg_K) (y : bg_Y) (b L : Nat) (xs : Nat → Int32) : Prop :=
  bg_X κ y cL_law RL 8 600000 7302250 ∧ va_X b L xs (bg_s κ) (bg_s κ).heap ∧ b < (bg_s κ).heap.size ∧ y.1 = (bg_s κ).heap.size ∧ L ≤ 2560 ∧ (bg_c κ).maxLocals = 4
def bl_L (y : bg_Y) (b : Nat) (i : Nat) (a : Array Slot) : Prop := lv_has a 4 [(3, .int (Int32.ofNat i)), (2, .ref (y.1 + 198)), (1, .ref (y.1 + 0)), (0, .ref b)]
theorem bl_sz {y : bg_Y} {b i : Nat} {a : Array Slot} (h : bl_L y b i a) : a.size = 4 := h.1
section LAWB
variable {κ : bg_K} {y : bg_Y} {c1 c2 : Nat} {pc : Nat} {a : Array Slot} {st : List Value} {M : bg_M} {b L : Nat} {xs : Nat → Int32}
theorem bl_ofNat (i : Nat) : Int32.ofNat i = Int32.ofInt (i : Int) := rfl
/-- an argument out of the script -/
theorem bl_arg (C : bl_C κ y b L xs) {i : Nat} (hl : bl_L y b i a) {k : Nat} (d1 : decode cL_law pc = .ok (.aload_n 0, 1)) (d2 : decode cL_law (pc + 1) = .ok (.iload_n 3, 1)) (d3 : decode cL_law (pc + 2) = .ok (.iconst (k : Int), 1)) (d4 : decode cL_law (pc + 3) = .ok (.iadd, 1)) (d5 : decode cL_law (pc + 4) = .ok (.iaload, 1)) (hi : i + k < L) (kk : bl_H κ y (c1, c2) (pc + 5) a (bg_v y (.inl (xs (i + k)).toInt) :: st) M) : bl_H κ y (c1, c2) pc a st M := by
  intro H locs hD hS
  obtain ⟨⟨hx, hb, hown, hts, hK, hbs, hlk, r1, r2, r3, r4⟩, hX, hbl, hy, hL, hml⟩ := C
  have hbA : ¬ bg_A y b := fun h => by have h : y.1 ≤ b := h; omega
  refine lv_aload_n hx hb d1 rfl (lv_at hl 3 rfl) ?_
  refine lv_iload_n hx hb d2 rfl (lv_at hl 0 rfl) ?_
  refine lv_iconst hx hb d3 rfl ?_
  refine lv_iadd hx hb d4 ?_
  have e1 : Int32.ofNat i + Int32.ofInt (k : Int) = Int32.ofInt ((i + k : Nat) : Int) := by
    rw [bl_ofNat, ← Int32.ofInt_add]; rfl
  rw [e1]
  have hR : R32 ((i + k : Nat) : Int) := ⟨by omega, by omega⟩
  have hix : (Int32.ofInt ((i + k : Nat) : Int)).toNatClampNeg = i + k := by rw [bg_idx hR]; omega
  refine va_sld hx hb hX hbl hbA hS (bg_vpin hR (by omega) (by omega)) d5 ?_
  rw [hix]
  have h := kk H locs hD hS
  have e2 : bg_v y (.inl (xs (i + k)).toInt) = .int (xs (i + k)) := by
    show Value.int (Int32.ofInt (xs (i + k)).toInt) = _
    rw [Int32.ofInt_toInt]
  rw [e2] at h
  exact h
theorem bl_x (C : bl_C κ y b L xs) {i : Nat} (hl : bl_L y b i a) (d : decode cL_law pc = .ok (.aload_n 1, 1)) (kk : bl_H κ y (c1, c2) (pc + 1) a (.ref (y.1 + 0) :: st) M) : bl_H κ y (c1, c2) pc a st M := by
  intro H locs hD hS
  obtain ⟨⟨hx, hb, -⟩, -⟩ := C
  exact lv_aload_n hx hb d rfl (lv_at hl 2 rfl) (kk H locs hD hS)
theorem bl_m (C : bl_C κ y b L xs) {i : Nat} (hl : bl_L y b i a) (d : decode cL_law pc = .ok (.aload_n 2, 1)) (kk : bl_H κ y (c1, c2) (pc + 1) a (.ref (y.1 + 198) :: st) M) : bl_H κ y (c1, c2) pc a st M := by
  intro H locs hD hS
  obtain ⟨⟨hx, hb, -⟩, -⟩ := C
  exact lv_aload_n hx hb d rfl (lv_at hl 1 rfl) (kk H locs hD hS)
/-- two answers that are the same -/
theorem bl_same (C : bl_C κ y b L xs) {v : Value} {x : Int32} {off : Int} (hv : v = .int x) (d : decode cL_law pc = .ok (.if_icmp .eq off, 3)) (ht : (pc : Int) + off = ((1060 : Nat) : Int)) (kk : bl_H κ y (c1, c2) 1060 a st M) : bl_H κ y (c1, c2) pc a (.int x :: v :: st) M := by
  subst hv
  intro H locs hD hS
  obtain ⟨⟨hx, hb, -⟩, -⟩ := C
  exact lv_icmp_eq hx hb d ht (fun _ => kk H locs hD hS) (fun h => absurd rfl h)
/-- a call of the class or of the model -/
theorem bl_call (C : bl_C κ y b L xs) {i d idx n ci N a0 : Nat} (hla : bl_L y b i a) {μ : bg_P} {As : List bg_V} {g : bg_E} {P : Int → bg_E → Prop} {stk : List Value} (hc : bg_Si y d μ (.inr a0 :: As) g P) (hm : bg_mV μ ci n) (hl : Cond.methodLink RL idx μ.1 ∈ bg_T) (hn : As.length = n) (hk : bg_kd a0 = some (ci, N)) (hd : d + 1 ≤ 8) (hdc : decode cL_law pc = .ok (.invokevirtual idx, 3)) (hA : bg_RS As) (hst : (st.map fun v => v.category).sum ≤ 8) (hstk : stk = (As.map (bg_v y)).reverse ++ .ref (y.1 + a0) :: st)
    (h1 : c1 ≤ 600000) (h2 : c2 ≤ 7302250) (kk : ∀ r g', P r g' → bl_H κ y (c1, c2) (pc + 3) a (.int (Int32.ofInt r) :: st) (bg_O g')) : bl_H κ y (c1, c2) pc a stk (bg_O g) := by
  subst hstk
  intro H locs hD hS
  obtain ⟨X, hX, hbl, hy, hL, hml⟩ := C
  have hB := bg_callB X (d := d) (mc := 0) (ms := 0) hm.1 hl hd
  obtain ⟨hx, hb, hown, hts, hK, hbs, hlk, r1, r2, r3, r4⟩ := X
  obtain ⟨⟨m1, m2, m3, m4⟩, m5, m6, m7⟩ := hm
  have hPre := bg_prePre (κ := κ) (args := .inr a0 :: As) hK hD hS ⟨trivial, hA⟩
  obtain ⟨q, hq⟩ : ∃ q, vwCl[ci]? = some q := by
    cases h : vwCl[ci]? with
    | none => rw [h] at m7; cases m7
    | some q => exact ⟨q, rfl⟩
  have hqc : q.1 = μ.1.cls := by rw [hq] at m7; exact Option.some.inj m7
  obtain ⟨cell, q1, q2, q3, -⟩ := (hD.2.1 a0 (bg_kd_lt hk) ci N hk).1 (bg_ci_lt (C := q.1) (T := q.2.1) (N := q.2.2) hq)
  have hcl := (hK.1.1 ci q hq).2.1
  have run := va_runV (l := κ.2.1) (e := κ.2.2.1) (As := As.map (bg_v y)) (rest := st) ⟨hx, hb, rfl, hown, hts⟩ (hc _) ⟨hB, hts _ m5, hts _ m6⟩ ⟨hPre.1, ⟨cell, q1, by rw [q3]; rfl, by rw [q2, ← hqc]; exact hcl⟩, hPre.2⟩ (g := F0 (bg_m κ) pc a ((As.map (bg_v y)).reverse ++ .ref (y.1 + a0) :: st)) rfl (by rw [List.length_map]; exact hn) (by rw [hml]; exact bl_sz hla) rfl (lv_room hst) hdc ⟨Nat.le_trans h1 r3, Nat.le_trans h2 r4⟩ (below := κ.2.2.2.2.2.2.2.1) (meth := κ.2.2.2.2.2.2.2.2.1) (locs := locs)
  intro T hT X
  obtain ⟨v, st₀, t, T', L', e1, X', hL', h3, h4, ⟨⟨r, M', h5, ⟨i2, g', rfl, rfl, hP⟩, h7, h8⟩, h9⟩, hg⟩ := run T hT X
  have hv : v = some (bg_v y (.inl i2)) := by injection h5
  subst hv
  have hS' : va_S (bg_A y) (bg_s κ).heap T'.heap (locs ++ L') := by
    refine ⟨?_, fun q hq1 hq2 => ?_, fun q hq => ?_⟩
    · have := h9.1; rw [e1] at this; rw [h3]; exact Nat.le_trans hS.1 this
    · rw [h3, h9.2 q (by rw [e1]; exact Nat.lt_of_lt_of_le hq1 hS.1) hq2, e1]; exact hS.2.1 q hq1 hq2
    · rcases List.mem_append.mp hq with h | h
      · exact hS.2.2 q h
      · exact hL' q h
  obtain ⟨t', k1, k2⟩ := kk i2 g' hP T'.heap (locs ++ L') (by rw [h3]; exact h7) hS' T' rfl X'
  exact ⟨t', hg t' k1, k2⟩
theorem bl_new (C : bl_C κ y b L xs) {n idx ci N : Nat} {r : Nat → Nat → Option Nat} {g : Nat → Nat → Int} {Cn : String} {T : u_T} (hd : decode cL_law pc = .ok (.new idx, 3)) (hc : vwCl[ci]? = some (Cn, T, N)) (hl : Cond.classLink RL idx Cn ∈ bg_T) (hi : Cond.instantiable Cn N ∈ bg_T) (hini : Cond.initialized Cn ∈ bg_T) (hk : bg_kd n = some (ci, N)) (h1 : c1 + 1 ≤ 600000) (h2 : c2 + N ≤ 7302250) (kk : bl_H κ y (c1 + 1, c2 + N) (pc + 3) a (.ref (y.1 + n) :: st) (n + 1, bg_zR r n, bg_z g n)) : bl_H κ y (c1, c2) pc a st (n, r, g) := by
  intro H locs hD hS
  obtain ⟨⟨hx, hb, hown, hts, hK, hbs, hlk, r1, r2, r3, r4⟩, hX, hbl, hy, hL, hml⟩ := C
  obtain ⟨ty0, ⟨hin, hty, hnm, -⟩, hok⟩ := bg_cls hc
  have hKn := hK.1.1 ci _ hc
  have hz : H.size = y.1 + n := hD.1
  refine W.newcK hx hb hown (hts _ hl) (hts _ hi) (hts _ hini) rfl hd (Nat.le_trans h1 r3) (Nat.le_trans h2 r4) hKn.2.1 rfl fun H1 kC hkC e1 z1 o1 => ?_
  have hgoal := kk H1 locs (hD.push z1 o1 ?_) (hS.new z1 o1)
  · rw [hz]
    exact hgoal
  · intro ci' N' hk'
    cases hk.symm.trans hk'
    refine ⟨fun _ => ?_, fun h8 => absurd (bg_ci_lt hc) (by omega)⟩
    rw [← hz]
    refine (u_born ty0 hts hin hKn hkC e1 hty).to (fun j hj => ?_)
    unfold bg_fv
    rw [bg_z_at, bg_zR_at]
    cases hf : bg_fi ci j with
    | true =>
      rw [if_pos rfl, (bg_fi_int hok hj hf).1]
      rfl
    | false =>
      rw [if_neg (by decide)]
      have hr := (bg_fi_ref hok hj hf).2
      cases hty0 : ty0 j with
      | object C => rfl
      | array t => rfl
      | _ => rw [hty0] at hr; exact absurd hr (by decide)
theorem bl_init (C : bl_C κ y b L xs) {d mc ms idx a0 n' : Nat} {μ : bg_P} {P : (Nat → Nat → Option Nat) → bg_E → Prop} (hc : bg_S y d mc ms μ [.inr a0] M (bg_pC n' P)) (hm : bg_mB μ 0) (hni : Cond.instanceMethod μ.1 ∈ bg_T) (hnm : μ.1.name = "<init>") (hret : μ.2.2.2 = none) (hl : Cond.methodLink RL idx μ.1 ∈ bg_T) (hd : d + 1 ≤ 8) (h1 : c1 + mc ≤ 600000) (h2 : c2 + ms ≤ 7302250) (hdc : decode cL_law pc = .ok (.invokespecial idx, 3)) (hst : (st.map fun v => v.category).sum ≤ 8) (hsz : a.size = 4)
    (kk : ∀ r' g', P r' g' → bl_H κ y (c1 + mc, c2 + ms) (pc + 3) a st (n', r', g')) : bl_H κ y (c1, c2) pc a (.ref (y.1 + a0) :: st) M := by
  intro H locs hD hS
  obtain ⟨X, hX, hbl, hy, hL, hml⟩ := C
  have hB := bg_callB X (d := d) (mc := mc) (ms := ms) hm hl hd
  obtain ⟨hx, hb, hown, hts, hK, hbs, hlk, r1, r2, r3, r4⟩ := X
  have hPre := bg_prePre (κ := κ) (args := [.inr a0]) hK hD hS ⟨trivial, trivial⟩
  rw [hret] at hB
  have run := va_runI (l := κ.2.1) (e := κ.2.2.1) (As := []) (rest := st) ⟨hx, hb, rfl, hown, hts⟩ (hc _) ⟨hB, hnm, hts _ hni⟩ hPre (g := F0 (bg_m κ) pc a (.ref (y.1 + a0) :: st)) rfl rfl (by rw [hml]; exact hsz) rfl (lv_room hst) hdc ⟨Nat.le_trans h1 r3, Nat.le_trans h2 r4⟩ (below := κ.2.2.2.2.2.2.2.1) (meth := κ.2.2.2.2.2.2.2.2.1) (locs := locs)
  intro T hT X
  obtain ⟨v, st₀, t, T', L', e1, X', hL', h3, h4, ⟨⟨r, M', h5, ⟨r', g', rfl, rfl, hP⟩, h7, h8⟩, h9⟩, hg⟩ := run T hT X
  have hv : v = none := by injection h5
  subst hv
  have hS' : va_S (bg_A y) (bg_s κ).heap T'.heap (locs ++ L') := by
    refine ⟨?_, fun q hq1 hq2 => ?_, fun q hq => ?_⟩
    · have := h9.1; rw [e1] at this; rw [h3]; exact Nat.le_trans hS.1 this
    · rw [h3, h9.2 q (by rw [e1]; exact Nat.lt_of_lt_of_le hq1 hS.1) hq2, e1]; exact hS.2.1 q hq1 hq2
    · rcases List.mem_append.mp hq with h | h
      · exact hS.2.2 q h
      · exact hL' q h
  obtain ⟨t', k1, k2⟩ := kk r' g' hP T'.heap (locs ++ L') (by rw [h3]; exact h7) hS' T' rfl X'
  exact ⟨t', hg t' k1, k2⟩
end LAWB
/-- the references that were made are the ones that were foreseen -/
theorem arrV_cg {cI : ClassId} {N : Nat} {f f' : Nat → Value} (h : ∀ j, j < N → f j = f' j) : arrV cI N f = arrV cI N f' := by
  unfold arrV
  congr 2
  funext j
  exact h j.val j.isLt
theorem bg_D.fix {y : bg_Y} {n : Nat} {r : Nat → Nat → Option Nat} {g : Nat → Nat → Int} {H : Heap} (h : bg_D y (n, r, g) H) (hr : done r 0 n) : bg_D y (n, bg_F, g) H := by
  obtain ⟨h1, h2, h3⟩ := h
  refine ⟨h1, fun id hid ci N hk => ?_, h3⟩
  obtain ⟨k1, k2⟩ := h2 id hid ci N hk
  have hro := hr id (Nat.zero_le _) hid ci N
  refine ⟨fun hc => (k1 hc).to (fun j hj => ?_), fun hc => (k2 hc).trans (congrArg some (arrV_cg (fun j hj => ?_)))⟩
  · unfold bg_fv
    cases hf : bg_fi ci j with
    | true => rfl
    | false =>
      rw [if_neg (by decide), if_neg (by decide)]
      show bg_rv y (r id j) = bg_rv y (bg_F id j)
      rw [hro j hk hj (by omega) hf]
  · unfold bg_ae
    by_cases h8 : ci = 8
    · rw [if_pos h8, if_pos h8]
    · rw [if_neg h8, if_neg h8]
      show bg_rv y (r id j) = bg_rv y (bg_F id j)
      rw [hro j hk hj h8 (by match ci, hc with | n + 8, _ => rfl)]
theorem clsR.mo {g g' : bg_E} {X : bm_X} (h : clsR g X) (hf : frR 198 214 g g') : clsR g' X := by
  obtain ⟨h1, h2, h3, h4, ⟨h5, h6, h7, h8⟩, h9, h10, h11⟩ := h
  refine ⟨h1.fr hf (by omega), h2.fr hf (by omega), by rw [hf 0 (by omega)]; exact h3, fun i T hi hT => (h4 i T hi hT).fr hf (by omega), ⟨by rw [hf 148 (by omega)]; exact h5, h6, fun k hk => by rw [hf 149 (by omega)]; exact h7 k hk, h8⟩, ?_, ?_, ?_⟩
  · intro k hk; rw [hf _ (by omega)]; exact h9 k hk
  · intro k hk; rw [hf _ (by omega)]; exact h10 k hk
  · intro k hk; rw [hf _ (by omega)]; exact h11 k hk
