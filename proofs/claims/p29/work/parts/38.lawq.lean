/-! the law: the throws as a list; the world with one row of ints made on the way -/
theorem TT_at {P : bm_P} {i : Nat} {e : bm_T} (h : (TT P)[i]? = some e) : ∃ k : Nat, k < 24 ∧ HT P k ∧ e = ((k : Int), TH P k, RS P k) := by
  have h2 := List.mem_of_getElem? h
  unfold TT TTn at h2
  obtain ⟨k, h4, h5⟩ := List.mem_map.mp h2
  obtain ⟨h6, h7⟩ := List.mem_filter.mp h4
  exact ⟨k, List.mem_range.mp h6, of_decide_eq_true h7, h5.symm⟩
theorem take_f {T : List bm_T} {k : Nat} {e : bm_T} (f : bm_T → Bool) (h : T[k]? = some e) : (T.take (k + 1)).filter f = (T.take k).filter f ++ (if f e = true then [e] else []) := by
  rw [List.take_add_one, h, Option.toList_some, List.filter_append]
  congr 1
  rw [List.filter_cons]
  split <;> rfl
theorem take_p {T : List bm_T} {k : Nat} {e : bm_T} (h : T[k]? = some e) : T.take (k + 1) = T.take k ++ [e] := by
  rw [List.take_add_one, h, Option.toList_some]
theorem drop_f {T : List bm_T} {k : Nat} {e : bm_T} (f : bm_T → Bool) (h : T[k]? = some e) : (T.drop k).filter f = (if f e = true then [e] else []) ++ (T.drop (k + 1)).filter f := by
  obtain ⟨h1, h2⟩ := List.getElem?_eq_some_iff.mp h
  rw [List.drop_eq_getElem_cons h1, h2, List.filter_cons]
  split <;> rfl
theorem sumT_R : ∀ l : List bm_T, (∀ e ∈ l, -5000 ≤ e.2.1 ∧ e.2.1 ≤ 5000) → -5000 * (l.length : Int) ≤ sumT l ∧ sumT l ≤ 5000 * l.length
  | [], _ => by simp [sumT]
  | e :: l, h => by
    have h1 := sumT_R l (fun x hx => h x (List.mem_cons_of_mem _ hx))
    have h2 := h e List.mem_cons_self
    rw [sumT, List.length_cons]
    omega
theorem no_match {P : bm_P} (h : okP P) : cntF (FA P) 1 (pA P).length = 0 ↔ nxt (FA P) 24 0 < 0 := by
  rw [← (cnt_24 h (v := 1) (by decide)).1]
  have c := cntF_pos (f := FA P) 24
  have cr := cntF_R (FA P) 1 24
  rcases nxt_or (FA P) 24 0 with ⟨h1, h2⟩ | ⟨h1, h2, h3, h4⟩
  · rcases lst_or (FA P) 24 with ⟨g1, g2⟩ | ⟨g1, g2, g3, g4⟩
    · omega
    · exact absurd g3 (h2 _ (by omega) (by omega))
  · rcases lst_or (FA P) 24 with ⟨g1, g2⟩ | ⟨g1, g2, g3, g4⟩
    · exact absurd h3 (g2 _ (by omega))
    · omega
theorem clsR.lo {g g' : bg_E} {X : bm_X} (h : clsR g X) (hf : ∀ x, x < 198 → g' x = g x) : clsR g' X := by
  obtain ⟨h1, ⟨i1, i2, i3, i4, i5⟩, h3, h4, ⟨h5, h6, h7, h8⟩, h9, h10, h11⟩ := h
  refine ⟨h1.cg (fun x h1 h2 => hf x (by omega)), ⟨by rw [hf 17 (by decide)]; exact i1, i2, by rw [hf 17 (by decide)]; exact i3, by rw [hf 17 (by decide)]; exact i4, fun j S hj => ?_⟩, by rw [hf 0 (by decide)]; exact h3, fun i T hi hT => (h4 i T hi hT).cg (fun x h1 h2 => hf x (by omega)), ⟨by rw [hf 148 (by decide)]; exact h5, h6, fun k hk => by rw [hf 149 (by decide)]; exact h7 k hk, h8⟩, ?_, ?_, ?_⟩
  · rw [hf 17 (by decide)]
    exact (i5 j S hj).cg (fun x h1 h2 => hf x (by omega))
  · intro k hk; rw [hf _ (by omega)]; exact h9 k hk
  · intro k hk; rw [hf _ (by omega)]; exact h10 k hk
  · intro k hk; rw [hf _ (by omega)]; exact h11 k hk
theorem TT_all {P : bm_P} (h : okP P) : ∀ e ∈ TT P, -5000 ≤ e.2.1 ∧ e.2.1 ≤ 5000 := fun e he => by
  obtain ⟨i, hi⟩ := List.getElem?_of_mem he
  obtain ⟨k, -, h2, rfl⟩ := TT_at hi
  exact TH_R h h2
theorem take_R {P : bm_P} (h : okP P) (k : Nat) (hk : k ≤ 24) (f : bm_T → Bool) : (-120000 ≤ sumT ((TT P).take k) ∧ sumT ((TT P).take k) ≤ 120000) ∧ -120000 ≤ sumT (((TT P).take k).filter f) ∧ sumT (((TT P).take k).filter f) ≤ 120000 := by
  have h1 := sumT_R ((TT P).take k) (fun e he => TT_all h e (List.mem_of_mem_take he))
  have h2 := sumT_R (((TT P).take k).filter f) (fun e he => TT_all h e (List.mem_of_mem_take (List.mem_filter.mp he).1))
  have h3 := List.length_take_le k (TT P)
  have h4 := List.length_filter_le f ((TT P).take k)
  omega
theorem filt_at {T : List bm_T} {k : Nat} {e : bm_T} {f : bm_T → Bool} (h : T[k]? = some e) (hf : f e = true) : (T.filter f)[((T.take k).filter f).length]? = some e := by
  have e1 : T.filter f = (T.take k).filter f ++ (T.drop k).filter f := by rw [← List.filter_append, List.take_append_drop]
  rw [e1, List.getElem?_append_right (Nat.le_refl _), Nat.sub_self, drop_f f h, if_pos hf]
  rfl
theorem filt_end {T : List bm_T} {f : bm_T → Bool} {k : Nat} (hk : T.length ≤ k) : (T.filter f)[((T.take k).filter f).length]? = none := by
  rw [List.take_of_length_le hk]
  exact List.getElem?_eq_none (Nat.le_refl _)
/-- the world behind the making of a row: only the class and that row change -/
def pIv (G : bg_E) (N0 : Nat) (Z : bm_X) (g2 : bg_E) : Prop := clsR g2 Z ∧ ∀ x, 198 ≤ x → x ≠ N0 → g2 x = G x
def pGv (G : bg_E) (N0 N : Nat) : Prop := 202 ≤ N0 ∧ N0 ≠ bg_PZ ∧ G bg_PZ N0 = (N : Int) ∧ N0 < bg_n G
theorem PZ_big : 198 ≤ bg_PZ := by unfold bg_PZ; omega
theorem pGv.mk {g : bg_E} {N : Nat} (h0 : 0 ≤ g bg_PZ 0 ∧ g bg_PZ 0 ≤ 1000000) : pGv (bg_nw g N) (bg_n g) N := ⟨Nat.le_add_right _ _, bg_n_ne h0.2, bg_nw_P, by rw [bg_nw_n h0.1]; exact Nat.lt_succ_self _⟩
theorem pIv.P {G g2 : bg_E} {N0 N : Nat} {Z : bm_X} (hG : pGv G N0 N) (h : pIv G N0 Z g2) : g2 bg_PZ = G bg_PZ := h.2 _ PZ_big (Ne.symm hG.2.1)
theorem pIv.kd {G g2 : bg_E} {N0 N : Nat} {Z : bm_X} (hG : pGv G N0 N) (h : pIv G N0 Z g2) : bg_kdd g2 N0 = some (8, N) := bg_kdD hG.1 (by rw [h.P hG]; exact hG.2.2.1)
theorem pIv.lt {G g2 : bg_E} {N0 N : Nat} {Z : bm_X} (hG : pGv G N0 N) (h : pIv G N0 Z g2) : N0 < bg_n g2 := by rw [bg_n_P (h.P hG)]; exact hG.2.2.2
theorem pIv.up {G g2 : bg_E} {N0 N : Nat} {Z : bm_X} {k : Nat} {v : Int} (hG : pGv G N0 N) (h : pIv G N0 Z g2) : pIv G N0 Z (bg_up g2 N0 k v) := ⟨h.1.lo (fun x hx => bg_up_ne (by have := hG.1; omega)), fun x h1 h2 => by rw [bg_up_ne h2]; exact h.2 x h1 h2⟩
theorem pIv.cls {G g2 g3 : bg_E} {N0 : Nat} {Z : bm_X} (h : pIv G N0 Z g2) (h1 : clsR g3 Z) (h2 : frR 0 198 g2 g3) : pIv G N0 Z g3 := ⟨h1, fun x a b => by rw [h2 x (Or.inr a)]; exact h.2 x a b⟩
