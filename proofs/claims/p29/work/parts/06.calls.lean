/-! contracts over the world, calls, returns -/
def bg_rm (d mc ms : Nat) : Room := { frames := d, cells := mc, slots := ms, locals := 44 * d }
def bg_ws (μ : bg_P) : List Cond := .code μ.1 μ.2.1 μ.2.2.1 μ.2.2.2 :: bg_T
def bg_pre (y : bg_Y) (args : List bg_V) (M : bg_M) : Array Value → State → Prop := va_Pc (args.map (bg_v y)) (fun U => bg_D y M U.heap ∧ bg_KK y U ∧ bg_RS args)
def bg_post (y : bg_Y) (Post : Option bg_V → bg_M → Prop) : Array Value → State → Outcome → State → Prop := fun _ st oc t => (∃ (r : Option bg_V) (M' : bg_M), oc = .returned (r.map (bg_v y)) ∧ Post r M' ∧ bg_D y M' t.heap ∧ ∀ v, r = some v → bg_R v) ∧ va_F (bg_A y) st t
def bg_S (y : bg_Y) (d mc ms : Nat) (μ : bg_P) (args : List bg_V) (M : bg_M) (Post : Option bg_V → bg_M → Prop) : Prop := ∀ l : Launch, Met l μ.1 (bg_ws μ) (bg_rm d mc ms) (bg_pre y args M) (bg_post y Post) mc ms (bg_A y)
def bg_Xm (κ : bg_K) (y : bg_Y) (μ : bg_P) (d mc ms : Nat) (Post : Option bg_V → bg_M → Prop) : Prop :=
  bg_X κ y μ.2.1 μ.1.cls d mc ms ∧ κ.2.2.2.2.2.2.2.2.1.sig.returnType = μ.2.2.2 ∧ κ.2.2.2.2.2.2.2.2.2.2 = MQ κ.2.2.2.2.2.2.2.1 (bg_post y Post) κ.2.2.2.2.2.2.1 (bg_s κ) mc ms (bg_A y) ∧ ((bg_s κ).methodNamed? μ.1 = some (bg_m κ) → True)
theorem bg_goodT : ∀ w ∈ bg_T, goodWord w = true := fun _ h => (List.mem_filter.mp h).2
theorem bg_GoodIn {μ : bg_P} (h : Cond.code μ.1 μ.2.1 μ.2.2.1 μ.2.2.2 ∈ bg_T) : GoodIn bg_T (bg_ws μ) := by
  intro w hw
  rcases List.mem_cons.mp hw with rfl | hw
  · exact ⟨h, good_of_word (bg_goodT _ h)⟩
  · exact ⟨hw, good_of_word (bg_goodT _ hw)⟩
theorem bg_RS_R {y : bg_Y} {st : List bg_V} : (((st.map (bg_v y)).map fun v => v.category).sum) = st.length := by
  induction st with
  | nil => rfl
  | cons v t ih => simp only [List.map_cons, List.sum_cons, bg_v_cat, List.length_cons, ih]; omega
/-- from a walk of the body to the contract -/
theorem bg_enter {y : bg_Y} {d mc ms : Nat} {μ : bg_P} {args : List bg_V} {M : bg_M} {Post : Option bg_V → bg_M → Prop} (hy : plainName μ.1.cls = true) (hlen : args.length ≤ μ.2.2.1)
    (body : ∀ κ : bg_K, bg_Xm κ y μ d mc ms Post → bg_RS args → (∀ a k, R32 (M.2.2 a k)) → bg_G κ y (0, 0) 0 (args.map some ++ List.replicate (μ.2.2.1 - args.length) none) [] M) : bg_S y d mc ms μ args M Post := by
  intro l
  refine Met.ofW (cc := μ.2.1) (maxL := μ.2.2.1) (ret := μ.2.2.2) hy rfl ?_
  intro p e s m args' below meth c s₁ B hml hv
  obtain ⟨rfl, hD, hK, hRS⟩ := hv
  have hts := atoms_spec (ws := bg_ws μ) B.pre
  have hsl : ∀ vs : List bg_V, lg_sl (vs.map (bg_v y)) = vs.map (fun v => Slot.val (bg_v y v)) := by
    intro vs
    induction vs with
    | nil => rfl
    | cons v t ih =>
      show (if (bg_v y v).category = 2 then _ else _) ++ lg_sl (t.map (bg_v y)) = _
      rw [ih, bg_v_cat]
      rfl
  have hlenS : (lg_sl (args.map (bg_v y))).length = args.length := by rw [hsl, List.length_map]
  have hl := lv_entry (args.map (bg_v y)) (n := μ.2.2.1) (by rw [hlenS]; exact hlen)
  have hX : bg_Xm (p, l, e, (headSpec (bg_ws μ) (bg_rm d mc ms)).room, s, m, (args.map (bg_v y)).toArray, below, meth, c, MQ below (bg_post y Post) (args.map (bg_v y)).toArray s mc ms (bg_A y)) y μ d mc ms Post := by
    refine ⟨⟨B.exec, B.bytes, findClass_of_methodNamed B.named, fun w hw => hts w (List.mem_cons_of_mem _ hw), hK, by rw [hD.1]; exact Nat.le_add_right _ _, B.notSynchronized, Nat.le_refl _, Nat.le_refl _, Nat.le_refl _, Nat.le_refl _⟩, B.returns, rfl, fun _ => trivial⟩
  have h0 := body _ hX hRS hD.2.2
  have ha : bg_L y c (args.map some ++ List.replicate (μ.2.2.1 - args.length) none) ((lg_sl (args.map (bg_v y)) ++ List.replicate (μ.2.2.1 - (lg_sl (args.map (bg_v y))).length) Slot.unset).toArray) := by
    refine ⟨by simp [hlenS], by rw [hml]; simp [hlenS]; omega, hl.2.1, ?_⟩
    intro k v hk
    have hk1 : k < args.length := by
      rcases Nat.lt_or_ge k args.length with h | h
      · exact h
      · rw [List.getElem?_append_right (by simpa using h)] at hk
        have := List.mem_of_getElem? hk
        simp at this
    rw [List.getElem?_append_left (by simpa using hk1), List.getElem?_map] at hk
    have hk2 : args[k]? = some v := by
      cases h : args[k]? with
      | none => rw [h] at hk; simp at hk
      | some w => rw [h] at hk; simp at hk; rw [hk]
    refine ⟨?_, ?_⟩
    · rw [List.getElem?_toArray, List.getElem?_append_left (by rw [hlenS]; exact hk1), hsl, List.getElem?_map, hk2]
      rfl
    · have : ∀ (l : List bg_V) (k : Nat), bg_RS l → l[k]? = some v → bg_R v := by
        intro l
        induction l with
        | nil => intro k _ h; simp at h
        | cons w t ih =>
          intro k hr h
          cases k with
          | zero => simp at h; rw [← h]; exact hr.1
          | succ k => exact ih k hr.2 (by simpa using h)
      exact this args k hRS hk2
  rw [lg_entry_eq]
  exact h0 s.heap [] _ hD va_S.rf ha trivial
def bg_mB (μ : bg_P) (n : Nat) : Prop := Cond.code μ.1 μ.2.1 μ.2.2.1 μ.2.2.2 ∈ bg_T ∧ Cond.initialized μ.1.cls ∈ bg_T ∧ (μ.1.cls ≠ "java/lang/invoke/MethodHandle" ∧ μ.1.cls ≠ "java/lang/invoke/VarHandle" ∧ (parseMethodDescriptor μ.1.desc).map (fun d => d.parameters.length) = some n) ∧ μ.2.2.1 ≤ 25
def bg_mV (μ : bg_P) (ci n : Nat) : Prop := bg_mB μ n ∧ Cond.instanceMethod μ.1 ∈ bg_T ∧ Cond.selects μ.1.cls μ.1 μ.1 ∈ bg_T ∧ (vwCl[ci]?).map (fun q => q.1) = some μ.1.cls
def bg_mS (μ : bg_P) (n : Nat) : Prop := bg_mB μ n ∧ Cond.static μ.1 ∈ bg_T
section CALLS
variable {κ : bg_K} {y : bg_Y} {cs : Nat × Nat} {cc : ByteArray} {own : String} {dd mcc mss pc : Nat} {ls : List (Option bg_V)} {st : List bg_V} {M : bg_M}
theorem bg_pre_blind {args : List bg_V} : FrameBlind (bg_pre y args M) := by
  intro a U g mk h
  obtain ⟨h1, h2, h3, h4⟩ := h
  exact ⟨h1, h2, h3.blind, h4⟩
/-- behind any call -/
theorem bg_after {d mc ms : Nat} {μ : bg_P} {args : List bg_V} {Post : Option bg_V → bg_M → Prop} {H : Heap} {locs : List Loc} {a : Array Slot} {a0 : Array Value} {stk rest : List Value}
    (hS : va_S (bg_A y) (bg_s κ).heap H locs) (hst : rest = st.map (bg_v y)) (hL : bg_L y (bg_c κ) ls a) (hR : bg_RS st)
    (hrun : va_Run κ.1 κ.2.1 κ.2.2.1 κ.2.2.2.1 κ.2.2.2.2.1 κ.2.2.2.2.2.1 κ.2.2.2.2.2.2.1 κ.2.2.2.2.2.2.2.1 κ.2.2.2.2.2.2.2.2.1 κ.2.2.2.2.2.2.2.2.2.1 H locs cs.1 cs.2 mc ms (F0 (bg_m κ) pc a stk) rest (bg_post y Post a0) (bg_A y))
    (kk : ∀ r M', Post r M' → bg_G κ y (cs.1 + mc, cs.2 + ms) (pc + 3) ls (r.toList ++ st) M') : bg_W κ cs H locs (F0 (bg_m κ) pc a stk) := by
  intro T hT X
  obtain ⟨v, st₀, t, T', L, h1, X', hL', h3, h4, ⟨⟨r, M', h5, h6, h7, h8⟩, h9⟩, hg⟩ := hrun T hT X
  have hv : v = r.map (bg_v y) := by injection h5
  have hS' : va_S (bg_A y) (bg_s κ).heap T'.heap (locs ++ L) := by
    refine ⟨?_, fun q hq1 hq2 => ?_, fun q hq => ?_⟩
    · have := h9.1; rw [h1] at this; rw [h3]; exact Nat.le_trans hS.1 this
    · rw [h3, h9.2 q (by rw [h1]; exact Nat.lt_of_lt_of_le hq1 hS.1) hq2, h1]; exact hS.2.1 q hq1 hq2
    · rcases List.mem_append.mp hq with h | h
      · exact hS.2.2 q h
      · exact hL' q h
  have hRS : bg_RS (r.toList ++ st) := by
    cases r with
    | none => exact hR
    | some w => exact ⟨h8 w rfl, hR⟩
  obtain ⟨t', k1, k2⟩ := kk r M' h6 T'.heap (locs ++ L) a (by rw [h3]; exact h7) hS' hL hRS T' rfl X'
  refine ⟨t', hg t' ?_, k2⟩
  have e : v.toList ++ rest = (r.toList ++ st).map (bg_v y) := by
    rw [hv, hst]
    cases r <;> rfl
  rw [e]
  exact k1
theorem bg_prePre {args : List bg_V} {H : Heap} {locs : List Loc} (hK : bg_KK y (bg_s κ)) (hD : bg_D y M H) (hS : va_S (bg_A y) (bg_s κ).heap H locs) (hR : bg_RS args) : PreS (bg_s κ) H (bg_pre y args M) (args.map (bg_v y)) := by
  refine ⟨bg_pre_blind, fun U hU hW => ⟨rfl, by rw [hU]; exact hD, hK.moved hW (fun q hq1 hq2 => ?_), hR⟩⟩
  rw [hU]
  exact hS.2.1 q hq1 hq2
theorem bg_callB (X : bg_X κ y cc own dd mcc mss) {d mc ms idx n : Nat} {μ : bg_P} (hm : bg_mB μ n) (hl : Cond.methodLink own idx μ.1 ∈ bg_T) (hd : d + 1 ≤ dd) : CallB (bg_Rm κ) (bg_s κ) κ.2.2.2.2.2.2.1 own idx μ.1 μ.2.1 μ.2.2.1 μ.2.2.2 (bg_ws μ) (bg_rm d mc ms) mc ms n := by
  obtain ⟨hx, hb, hown, hts, hK, hbs, hlk, r1, r2, r3, r4⟩ := X
  obtain ⟨m1, m2, m3, m4⟩ := hm
  refine callB_of n hts (bg_GoodIn m1) rfl rfl rfl (hts _ m2) (hts _ hl) m3 ⟨Nat.le_trans hd r1, ?_⟩
  show 8 + (μ.2.2.1 + 11) + 44 * d ≤ _
  omega
theorem bg_callV (X : bg_X κ y cc own dd mcc mss) {d mc ms idx n ci N a : Nat} {μ : bg_P} {As : List bg_V} {Post : Option bg_V → bg_M → Prop} (hc : bg_S y d mc ms μ (.inr a :: As) M Post) (hm : bg_mV μ ci n) (hl : Cond.methodLink own idx μ.1 ∈ bg_T) (hn : As.length = n) (hk : bg_kd a = some (ci, N)) (ha : a < M.1) (hd : d + 1 ≤ dd) (hcm : cs.1 + mc ≤ mcc ∧ cs.2 + ms ≤ mss) (hdc : decode cc pc = .ok (.invokevirtual idx, 3)) (hst : st.length ≤ 8)
    (kk : ∀ r M', Post r M' → bg_G κ y (cs.1 + mc, cs.2 + ms) (pc + 3) ls (r.toList ++ st) M') : bg_G κ y cs pc ls (As.reverse ++ .inr a :: st) M := by
  intro H locs ar hD hS hL hR
  have hB := bg_callB X (d := d) (mc := mc) (ms := ms) hm.1 hl hd
  obtain ⟨hx, hb, hown, hts, hK, hbs, hlk, r1, r2, r3, r4⟩ := X
  obtain ⟨⟨m1, m2, m3, m4⟩, m5, m6, m7⟩ := hm
  have hRS : ∀ l : List bg_V, bg_RS (l ++ .inr a :: st) → bg_RS l ∧ bg_RS st := by
    intro l
    induction l with
    | nil => exact fun h => ⟨trivial, h.2⟩
    | cons v t ih => exact fun h => ⟨⟨h.1, (ih h.2).1⟩, (ih h.2).2⟩
  obtain ⟨hR1, hR2⟩ := hRS _ hR
  have hRA : bg_RS As := by
    have key : ∀ l : List bg_V, bg_RS l ↔ ∀ v ∈ l, bg_R v := by
      intro l
      induction l with
      | nil => simp [bg_RS]
      | cons v t ih => simp [bg_RS, ih]
    rw [key] at hR1 ⊢
    exact fun v hv => hR1 v (List.mem_reverse.mpr hv)
  have hPre := bg_prePre (κ := κ) (args := .inr a :: As) hK hD hS ⟨trivial, hRA⟩
  obtain ⟨q, hq⟩ : ∃ q, vwCl[ci]? = some q := by
    cases h : vwCl[ci]? with
    | none => rw [h] at m7; cases m7
    | some q => exact ⟨q, rfl⟩
  have hqc : q.1 = μ.1.cls := by rw [hq] at m7; exact Option.some.inj m7
  obtain ⟨cell, q1, q2, q3, -⟩ := (hD.2.1 a ha ci N (bg_kdd_of hk)).1 (bg_ci_lt (C := q.1) (T := q.2.1) (N := q.2.2) hq)
  have hcl := (hK.1.1 ci q hq).2.1
  refine bg_after (d := d) (μ := μ) (args := .inr a :: As) (Post := Post) hS rfl hL hR2 (va_runV (As := As.map (bg_v y)) (rest := st.map (bg_v y)) ⟨hx, hb, rfl, hown, hts⟩ (hc _) ⟨hB, hts _ m5, hts _ m6⟩ ⟨hPre.1, ⟨cell, q1, by rw [q3]; rfl, by rw [q2, ← hqc]; exact hcl⟩, hPre.2⟩ rfl (by rw [List.length_map]; exact hn) hL.2.1 ?_ ?_ hdc ⟨Nat.le_trans hcm.1 r3, Nat.le_trans hcm.2 r4⟩) kk
  · simp [List.map_reverse, bg_v]
  · exact lv_room (by rw [bg_RS_R]; exact hst)
theorem bg_callS (X : bg_X κ y cc own dd mcc mss) {d mc ms idx n : Nat} {μ : bg_P} {As : List bg_V} {Post : Option bg_V → bg_M → Prop} (hc : bg_S y d mc ms μ As M Post) (hm : bg_mS μ n) (hl : Cond.methodLink own idx μ.1 ∈ bg_T) (hn : As.length = n) (hd : d + 1 ≤ dd) (hcm : cs.1 + mc ≤ mcc ∧ cs.2 + ms ≤ mss) (hdc : decode cc pc = .ok (.invokestatic idx, 3)) (hst : st.length ≤ 8)
    (kk : ∀ r M', Post r M' → bg_G κ y (cs.1 + mc, cs.2 + ms) (pc + 3) ls (r.toList ++ st) M') : bg_G κ y cs pc ls (As.reverse ++ st) M := by
  intro H locs ar hD hS hL hR
  have hB := bg_callB X (d := d) (mc := mc) (ms := ms) hm.1 hl hd
  obtain ⟨hx, hb, hown, hts, hK, hbs, hlk, r1, r2, r3, r4⟩ := X
  obtain ⟨⟨m1, m2, m3, m4⟩, m5⟩ := hm
  have hRS : ∀ l : List bg_V, bg_RS (l ++ st) → bg_RS l ∧ bg_RS st := by
    intro l
    induction l with
    | nil => exact fun h => ⟨trivial, h⟩
    | cons v t ih => exact fun h => ⟨⟨h.1, (ih h.2).1⟩, (ih h.2).2⟩
  obtain ⟨hR1, hR2⟩ := hRS _ hR
  have hRA : bg_RS As := by
    have key : ∀ l : List bg_V, bg_RS l ↔ ∀ v ∈ l, bg_R v := by
      intro l
      induction l with
      | nil => simp [bg_RS]
      | cons v t ih => simp [bg_RS, ih]
    rw [key] at hR1 ⊢
    exact fun v hv => hR1 v (List.mem_reverse.mpr hv)
  have hPre := bg_prePre (κ := κ) (args := As) hK hD hS hRA
  refine bg_after (d := d) (μ := μ) (args := As) (Post := Post) hS rfl hL hR2 (va_runS (As := As.map (bg_v y)) (rest := st.map (bg_v y)) ⟨hx, hb, rfl, hown, hts⟩ (hc _) ⟨hB, hts _ m5⟩ hPre rfl (by rw [List.length_map]; exact hn) hL.2.1 ?_ ?_ hdc ⟨Nat.le_trans hcm.1 r3, Nat.le_trans hcm.2 r4⟩) kk
  · simp [List.map_reverse]
  · exact lv_room (by rw [bg_RS_R]; exact hst)
/-- a static method of the host class, called by a nest mate -/
theorem bg_callSN (X : bg_X κ y cc own dd mcc mss) {d mc ms idx n : Nat} {host : String} {μ : bg_P} {As : List bg_V} {Post : Option bg_V → bg_M → Prop} (hc : bg_S y d mc ms μ As M Post) (hm : bg_mS μ n) (hl : Cond.methodLinkNest own idx μ.1 host ∈ bg_NW) (hn : As.length = n) (hd : d + 1 ≤ dd) (hcm : cs.1 + mc ≤ mcc ∧ cs.2 + ms ≤ mss) (hdc : decode cc pc = .ok (.invokestatic idx, 3)) (hst : st.length ≤ 8)
    (kk : ∀ r M', Post r M' → bg_G κ y (cs.1 + mc, cs.2 + ms) (pc + 3) ls (r.toList ++ st) M') : bg_G κ y cs pc ls (As.reverse ++ st) M := by
  intro H locs ar hD hS hL hR
  obtain ⟨hx, hb, hown, hts, hK, hbs, hlk, r1, r2, r3, r4⟩ := X
  obtain ⟨⟨m1, m2, m3, m4⟩, m5⟩ := hm
  have hRS : ∀ l : List bg_V, bg_RS (l ++ st) → bg_RS l ∧ bg_RS st := by
    intro l
    induction l with
    | nil => exact fun h => ⟨trivial, h⟩
    | cons v t ih => exact fun h => ⟨⟨h.1, (ih h.2).1⟩, (ih h.2).2⟩
  obtain ⟨hR1, hR2⟩ := hRS _ hR
  have hRA : bg_RS As := by
    have key : ∀ l : List bg_V, bg_RS l ↔ ∀ v ∈ l, bg_R v := by
      intro l
      induction l with
      | nil => simp [bg_RS]
      | cons v t ih => simp [bg_RS, ih]
    rw [key] at hR1 ⊢
    exact fun v hv => hR1 v (List.mem_reverse.mpr hv)
  have hPre := bg_prePre (κ := κ) (args := As) hK hD hS hRA
  have hB : va_CN (bg_Rm κ) (bg_s κ) κ.2.2.2.2.2.2.1 own idx μ.1 host μ.2.1 μ.2.2.1 μ.2.2.2 (bg_ws μ) (bg_rm d mc ms) mc ms n := by
    refine va_cnB n hts (bg_GoodIn m1) rfl rfl rfl (hK.2.1 _ hl) (hts _ m2) m3 ⟨Nat.le_trans hd r1, ?_⟩
    show 8 + (μ.2.2.1 + 11) + 44 * d ≤ _
    omega
  refine bg_after (d := d) (μ := μ) (args := As) (Post := Post) hS rfl hL hR2 (va_runSN (As := As.map (bg_v y)) (rest := st.map (bg_v y)) ⟨hx, hb, rfl, hown, hts⟩ (hc _) ⟨hB, hts _ m5, trivial⟩ hPre rfl (by rw [List.length_map]; exact hn) hL.2.1 ?_ ?_ hdc ⟨Nat.le_trans hcm.1 r3, Nat.le_trans hcm.2 r4⟩) kk
  · simp [List.map_reverse]
  · exact lv_room (by rw [bg_RS_R]; exact hst)
end CALLS
section RETS
variable {κ : bg_K} {y : bg_Y} {d mc ms pc : Nat} {μ : bg_P} {ls : List (Option bg_V)} {st : List bg_V} {M : bg_M} {Post : Option bg_V → bg_M → Prop}
theorem bg_iret (X : bg_Xm κ y μ d mc ms Post) (hr : μ.2.2.2 = some .int) {i : Int} (hd : decode μ.2.1 pc = .ok (.ireturn, 1)) (hp : R32 i → Post (some (.inl i)) M) : bg_G κ y (mc, ms) pc ls [.inl i] M := by
  intro H locs ar hD hS hL hR
  obtain ⟨⟨hx, hb, hown, hts, hK, hbs, hlk, -⟩, hret, hQ, -⟩ := X
  show W _ _ _ _ _ _ _ _ _ _ _ _ _ _ κ.2.2.2.2.2.2.2.2.2.2 _
  rw [hQ]
  exact W.iret (v := Int32.ofInt i) hx hb (hret.trans hr) (fun t ht hW => ⟨⟨some (.inl i), M, rfl, hp hR.1, by rw [ht]; exact hD, fun v hv => by cases hv; exact hR.1⟩, hS.F ht⟩) hS.2.2 hd hlk
theorem bg_zret (X : bg_Xm κ y μ d mc ms Post) (hr : μ.2.2.2 = some .boolean) {i : Int} (h01 : i = 0 ∨ i = 1) (hd : decode μ.2.1 pc = .ok (.ireturn, 1)) (hp : Post (some (.inl i)) M) : bg_G κ y (mc, ms) pc ls [.inl i] M := by
  intro H locs ar hD hS hL hR
  obtain ⟨⟨hx, hb, hown, hts, hK, hbs, hlk, -⟩, hret, hQ, -⟩ := X
  show W _ _ _ _ _ _ _ _ _ _ _ _ _ _ κ.2.2.2.2.2.2.2.2.2.2 _
  rw [hQ]
  exact W.zret (v := Int32.ofInt i) hx hb (hret.trans hr) (by rcases h01 with rfl | rfl <;> rfl) (fun t ht hW => ⟨⟨some (.inl i), M, rfl, hp, by rw [ht]; exact hD, fun v hv => by cases hv; exact hR.1⟩, hS.F ht⟩) hS.2.2 hd hlk
theorem bg_aret (X : bg_Xm κ y μ d mc ms Post) {C : String} (hr : μ.2.2.2 = some (.object C)) {i : Nat} (hd : decode μ.2.1 pc = .ok (.areturn, 1)) (hp : Post (some (.inr i)) M) : bg_G κ y (mc, ms) pc ls [.inr i] M := by
  intro H locs ar hD hS hL hR
  obtain ⟨⟨hx, hb, hown, hts, hK, hbs, hlk, -⟩, hret, hQ, -⟩ := X
  show W _ _ _ _ _ _ _ _ _ _ _ _ _ _ κ.2.2.2.2.2.2.2.2.2.2 _
  rw [hQ]
  exact W.aret (v := .ref (y.1 + i)) hx hb (hret.trans hr) (Or.inl ⟨_, rfl⟩) (Or.inr ⟨_, rfl⟩) (fun t ht hW => ⟨⟨some (.inr i), M, rfl, hp, by rw [ht]; exact hD, fun v hv => by cases hv; trivial⟩, hS.F ht⟩) hS.2.2 hd hlk
theorem bg_vret (X : bg_Xm κ y μ d mc ms Post) (hr : μ.2.2.2 = none) (hd : decode μ.2.1 pc = .ok (.return_, 1)) (hp : (∀ a k, R32 (M.2.2 a k)) → Post none M) : bg_G κ y (mc, ms) pc ls [] M := by
  intro H locs ar hD hS hL hR
  obtain ⟨⟨hx, hb, hown, hts, hK, hbs, hlk, -⟩, hret, hQ, -⟩ := X
  show W _ _ _ _ _ _ _ _ _ _ _ _ _ _ κ.2.2.2.2.2.2.2.2.2.2 _
  rw [hQ]
  exact W.vret hx hb (hret.trans hr) (fun t ht hW => ⟨⟨none, M, rfl, hp hD.2.2, by rw [ht]; exact hD, fun v hv => by cases hv⟩, hS.F ht⟩) hS.2.2 hd hlk
end RETS
