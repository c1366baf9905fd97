/-! what each call makes of a lawful state is a lawful state -/
theorem stN_OK {S : bm_S} (h : staOK S) {w v : Int} (hw : 0 ≤ w ∧ w < 5) (hv : bg_least w.toNat ≤ v ∧ v ≤ bg_most w.toNat) : staOK (sNum S w.toNat v) := by
  obtain ⟨h1, h2, h3, h4, h5, h6⟩ := h
  have hc : w = 0 ∨ w = 1 ∨ w = 2 ∨ w = 3 ∨ w = 4 := by omega
  rcases hc with rfl | rfl | rfl | rfl | rfl
  · exact ⟨hv, h2, h3, h4, h5, h6⟩
  · exact ⟨h1, hv, h3, h4, h5, h6⟩
  · exact ⟨h1, h2, hv, h4, h5, h6⟩
  · exact ⟨h1, h2, h3, hv, h5, h6⟩
  · exact ⟨h1, h2, h3, h4, hv, h6⟩
theorem stK_OK {S : bm_S} (h : staOK S) {K : Int} (hK : 0 ≤ K ∧ K < 67108864) : staOK (sKey S K) :=
  ⟨h.1, h.2.1, h.2.2.1, h.2.2.2.1, h.2.2.2.2.1, hK, h.2.2.2.2.2.2⟩
theorem stC_OK {S : bm_S} (h : staOK S) {c : Nat} {v : Int} (hv : -9999 ≤ v ∧ v ≤ 9999) : staOK (sCol S c v) :=
  ⟨h.1, h.2.1, h.2.2.1, h.2.2.2.1, h.2.2.2.2.1, h.2.2.2.2.2.1, fun k hk => by
    show -9999 ≤ fup S.2.2.1 c v k ∧ fup S.2.2.1 c v k ≤ 9999
    by_cases e : k = c
    · rw [e, fup_eq]; exact hv
    · rw [fup_ne e]; exact h.2.2.2.2.2.2.1 k hk, h.2.2.2.2.2.2.2⟩
theorem stB_OK {S : bm_S} (h : staOK S) {c : Nat} {q : bm_Q} (hq : colOK q ∧ q.length ≤ 24) : staOK (sBed S c q) :=
  ⟨h.1, h.2.1, h.2.2.1, h.2.2.2.1, h.2.2.2.2.1, h.2.2.2.2.2.1, h.2.2.2.2.2.2.1, fun k hk => by
    show colOK (fup S.2.2.2.1 c q k) ∧ (fup S.2.2.2.1 c q k).length ≤ 24
    by_cases e : k = c
    · rw [e, fup_eq]; exact hq
    · rw [fup_ne e]; exact h.2.2.2.2.2.2.2 k hk⟩
theorem stA_OK {S : bm_S} (h : staOK S) {a : Nat} {t : Int} : staOK (sBook S a t) := h
theorem put_OK {X : bm_X} (h : okX X) {S : bm_S} (hS : staOK S) : okX (xPut X S) := by
  refine ⟨hS, fun T hT => ?_, h.2.2⟩
  rcases List.mem_append.mp hT with h1 | h1
  · split at h1
    · exact h.2.1 T (List.mem_of_mem_drop h1)
    · exact h.2.1 T h1
  · rw [List.mem_singleton.mp h1]; exact h.1
theorem ok_setNumber {X : bm_X} (h : okX X) {w v : Int} : okX (xSetNumber X w v).2 := by
  unfold xSetNumber; split
  · rename_i c; exact put_OK h (stN_OK h.1 c.1 c.2)
  · exact h
theorem ok_setKey {X : bm_X} (h : okX X) {m i : Int} : okX (xSetKey X m i).2 := by
  unfold xSetKey; split
  · rename_i c; exact put_OK h (stK_OK h.1 (kset_R h.1.2.2.2.2.2.1 c.1 (by omega)))
  · exact h
theorem ok_setCollar {X : bm_X} (h : okX X) {a e : Int} : okX (xSetCollar X a e).2 := by
  unfold xSetCollar; split
  · rename_i c; exact put_OK h (stC_OK h.1 c.2)
  · exact h
theorem qH_OK {X : bm_X} (h : okX X) {a : Int} (ha : isHo a) : colOK (qH X a) ∧ (qH X a).length ≤ 24 := h.1.2.2.2.2.2.2.2 a.toNat (by omega)
theorem ok_addBed {X : bm_X} (h : okX X) {a i m t : Int} : okX (xAddBed X a i m t).2 := by
  unfold xAddBed; split
  · rename_i c; split
    · have hq := qH_OK h c.1.1
      have hl := insB_length (q := qH X a) (i := i.toNat) (p := (m, t)) (by have := c.2; omega)
      refine put_OK h (stA_OK (stB_OK h.1 ⟨insB_OK hq.1 ⟨c.1.2.1.1, by have := c.1.2.1.2; show m ≤ 25; omega, c.1.2.2⟩, by omega⟩))
    · exact h
  · exact h
theorem ok_removeBed {X : bm_X} (h : okX X) {a b : Int} : okX (xRemoveBed X a b).2 := by
  unfold xRemoveBed; split
  · rename_i c
    have hq := qH_OK h c.1
    have hl := delB_length (q := qH X a) (i := b.toNat) (by have := c.2; omega)
    exact put_OK h (stA_OK (stB_OK h.1 ⟨delB_OK hq.1, by omega⟩))
  · exact h
theorem ok_setThickness {X : bm_X} (h : okX X) {a b t : Int} : okX (xSetThickness X a b t).2 := by
  unfold xSetThickness; split
  · rename_i c
    have hq := qH_OK h c.1
    have hm := mkOK hq.1 (k := b.toNat) (by have := c.2; omega)
    have hp : bedOK (mrk (qH X a) b.toNat, t) := ⟨hm.1, hm.2, c.2.1.1, c.2.1.2⟩
    have hs : colOK ((qH X a).set b.toNat (mrk (qH X a) b.toNat, t)) ∧ ((qH X a).set b.toNat (mrk (qH X a) b.toNat, t)).length ≤ 24 := ⟨set_OK hq.1 hp, by rw [List.length_set]; exact hq.2⟩
    have h1 := stB_OK (c := a.toNat) h.1 hs
    exact put_OK h h1
  · exact h
theorem ok_cut {X : bm_X} (h : okX X) {a d b : Int} : okX (xCut X a d b).2 := by
  unfold xCut; split
  · rename_i c; split
    · rename_i c2
      have hq := qH_OK h c.1
      refine put_OK h (stA_OK (stA_OK (stB_OK h.1 ⟨?_, c2⟩)))
      intro p hp
      rcases List.mem_append.mp hp with hp | hp
      · rcases List.mem_append.mp hp with hp | hp
        · exact prt_OK hq.1 (by omega) _ (Nat.le_refl _) p hp
        · exact prt_OK hq.1 (by have := c.2; omega) _ (Nat.le_refl _) p hp
      · have := dep_le hq.1 (Nat.le_refl _)
        exact prt_OK hq.1 (by have := c.2; omega) _ (Nat.le_refl _) p hp
    · exact h
  · exact h
theorem ok_append {X : bm_X} (h : okX X) {c : Int} : okX (xAppend X c).2 := by
  unfold xAppend; split
  · split <;> exact h
  · exact h
theorem ok_clear {X : bm_X} (h : okX X) : okX (xClear X).2 := h
theorem ok_load {X : bm_X} (h : okX X) : okX (xLoad X).2 := by
  unfold xLoad; split
  · have hp := prs_ok (t := X.2.2.2)
    exact put_OK (X := X) h (stA_OK (stB_OK (stA_OK h.1) ⟨hp.1, hp.2.1⟩))
  · exact h
theorem ok_keep {X : bm_X} (h : okX X) {i : Int} : okX (xKeep X i).2 := by
  unfold xKeep; split
  · refine ⟨h.1, h.2.1, fun k T hk hT => ?_⟩
    have hT : fup X.2.2.1 i.toNat (some X.1) k = some T := hT
    by_cases e : k = i.toNat
    · rw [e, fup_eq] at hT
      rw [← Option.some.inj hT]; exact h.1
    · rw [fup_ne e] at hT
      exact h.2.2 k T hk hT
  · exact h
theorem ok_back {X : bm_X} (h : okX X) {i : Int} : okX (xBack X i).2 := by
  unfold xBack; split
  · rename_i c
    split
    · rename_i T hT; exact put_OK h (h.2.2 i.toNat T (by omega) hT)
    · exact h
  · exact h
theorem ok_undo {X : bm_X} (h : okX X) : okX (xUndo X).2 := by
  unfold xUndo; split
  · rename_i T hT
    exact ⟨h.2.1 T (List.mem_of_getLast? hT), fun S hS => h.2.1 S ((List.dropLast_sublist _).subset hS), h.2.2⟩
  · exact h
