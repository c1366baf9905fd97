/-! the whole state, and what each call makes of it -/
abbrev bm_X : Type := bm_S × List bm_S × (Nat → Option bm_S) × List Int
def mk2 (a b : Bool) : Int := (if a then 1 else 0) + (if b then 2 else 0)
def clsR (g : bg_E) (X : bm_X) : Prop := staR g 1 X.1 ∧ histR g X.2.1 ∧ g 0 3 = mk2 (X.2.2.1 0).isSome (X.2.2.1 1).isSome ∧ (∀ i T, i < 2 → X.2.2.1 i = some T → staR g (116 + 16 * i) T) ∧ txC g X.2.2.2 ∧ tabOK g 156 ∧ tabOK g 170 ∧ tabOK g 184
def okX (X : bm_X) : Prop := staOK X.1 ∧ (∀ T ∈ X.2.1, staOK T) ∧ ∀ i T, i < 2 → X.2.2.1 i = some T → staOK T
def xPut (X : bm_X) (S : bm_S) : bm_X := (S, hPush X.2.1 X.1, X.2.2)
def INV : Int := -1000001
def ILL : Int := -1000002
def CAP : Int := -1000003
def NON : Int := -1000009
abbrev qH (X : bm_X) (h : Int) : bm_Q := X.1.2.2.2.1 h.toNat
def xSetNumber (X : bm_X) (w v : Int) : Int × bm_X := if (0 ≤ w ∧ w < 5) ∧ bg_least w.toNat ≤ v ∧ v ≤ bg_most w.toNat then (X.1.1 w.toNat, xPut X (sNum X.1 w.toNat v)) else (INV, X)
def xSetKey (X : bm_X) (m i : Int) : Int × bm_X := if isMa m ∧ 0 ≤ i ∧ i ≤ 1 then (kb X.1.2.1 m, xPut X (sKey X.1 (kset X.1.2.1 m i))) else (INV, X)
def xSetCollar (X : bm_X) (h e : Int) : Int × bm_X := if isHo h ∧ -9999 ≤ e ∧ e ≤ 9999 then (X.1.2.2.1 h.toNat, xPut X (sCol X.1 h.toNat e)) else (INV, X)
def xAddBed (X : bm_X) (h i m t : Int) : Int × bm_X := if (isHo h ∧ isMa m ∧ 1 ≤ t ∧ t ≤ 99) ∧ 0 ≤ i ∧ i ≤ ((qH X h).length : Int) then (if (qH X h).length < 24 then (((qH X h).length : Int) + 1, xPut X (sBook (sBed X.1 h.toNat (insB (qH X h) i.toNat (m, t))) 1 t)) else (CAP, X)) else (INV, X)
def xRemoveBed (X : bm_X) (h b : Int) : Int × bm_X := if isHo h ∧ 0 ≤ b ∧ b < ((qH X h).length : Int) then (th (qH X h) b.toNat, xPut X (sBook (sBed X.1 h.toNat (delB (qH X h) b.toNat)) 2 (th (qH X h) b.toNat))) else (INV, X)
def xSetThickness (X : bm_X) (h b t : Int) : Int × bm_X := if isHo h ∧ (1 ≤ t ∧ t ≤ 99) ∧ 0 ≤ b ∧ b < ((qH X h).length : Int) then (th (qH X h) b.toNat, xPut X (sBook (sBook (sBed X.1 h.toNat ((qH X h).set b.toNat (mrk (qH X h) b.toNat, t))) 1 (max (t - th (qH X h) b.toNat) 0)) 2 (max (th (qH X h) b.toNat - t) 0))) else (INV, X)
def cutL (q : bm_Q) (d by_ : Int) : bm_Q := prt q 0 d q.length ++ prt q (min d (d + by_)) d q.length ++ prt q (min (dep q q.length) (max d (d + by_))) (dep q q.length) q.length
def xCut (X : bm_X) (h d b : Int) : Int × bm_X := if isHo h ∧ 1 ≤ d ∧ d ≤ dep (qH X h) (qH X h).length - 1 ∧ ¬ b = 0 ∧ -d ≤ b ∧ b ≤ 9999 then (if (cutL (qH X h) d b).length ≤ 24 then (((cutL (qH X h) d b).length : Int), xPut X (sBook (sBook (sBed X.1 h.toNat (cutL (qH X h) d b)) 3 (min (dep (qH X h) (qH X h).length) (max d (d + b)) - d)) 4 (d - min d (d + b)))) else (CAP, X)) else (INV, X)
def xAppend (X : bm_X) (c : Int) : Int × bm_X := if 0 ≤ c ∧ c ≤ 255 then (if X.2.2.2.length < 100 then ((X.2.2.2.length : Int) + 1, (X.1, X.2.1, X.2.2.1, X.2.2.2 ++ [c])) else (CAP, X)) else (INV, X)
def xClear (X : bm_X) : Int × bm_X := ((X.2.2.2.length : Int), (X.1, X.2.1, X.2.2.1, []))
def xLoad (X : bm_X) : Int × bm_X := if 0 ≤ (prs X.2.2.2).1 then (((prs X.2.2.2).2.2.length : Int), (sBook (sBed (sBook X.1 2 (dep (qH X (prs X.2.2.2).1) (qH X (prs X.2.2.2).1).length)) (prs X.2.2.2).1.toNat (prs X.2.2.2).2.2) 1 (dep (prs X.2.2.2).2.2 (prs X.2.2.2).2.2.length), hPush X.2.1 X.1, X.2.2.1, [])) else (-2000000 - ((prs X.2.2.2).2.1 : Int), X)
def szS (S : bm_S) : Int := sumN (fun h => ((S.2.2.2.1 h).length : Int)) 4
def lnS (S : bm_S) : Int := sumN (fun h => dep (S.2.2.2.1 h) (S.2.2.2.1 h).length) 4
def xKeep (X : bm_X) (i : Int) : Int × bm_X := if 0 ≤ i ∧ i < 2 then (szS X.1, (X.1, X.2.1, fup X.2.2.1 i.toNat (some X.1), X.2.2.2)) else (INV, X)
def xBack (X : bm_X) (i : Int) : Int × bm_X := if 0 ≤ i ∧ i < 2 then (match X.2.2.1 i.toNat with
  | some T => (szS T, xPut X T)
  | none => (ILL, X)) else (INV, X)
def xUndo (X : bm_X) : Int × bm_X := match X.2.1.getLast? with
  | some T => ((X.2.1.dropLast.length : Int), (T, X.2.1.dropLast, X.2.2))
  | none => (ILL, X)
def xCount (X : bm_X) (w : Int) : Int := if 0 ≤ w ∧ w < 5 then X.1.1 w.toNat else if w = 5 then (bsum X.1.2.1.toNat 26 : Int) else if w = 6 then szS X.1 else if w = 7 then (X.2.2.2.length : Int) else if w = 8 then (X.2.1.length : Int) else if w = 9 then mk2 (X.2.2.1 0).isSome (X.2.2.1 1).isSome else INV
def xHole (X : bm_X) (h w : Int) : Int := if isHo h then (if w = 0 then X.1.2.2.1 h.toNat else if w = 1 then ((qH X h).length : Int) else if w = 2 then dep (qH X h) (qH X h).length else INV) else INV
def xBed (X : bm_X) (h b w : Int) : Int := if isHo h ∧ 0 ≤ b ∧ 0 ≤ w ∧ w ≤ 3 then (if b < ((qH X h).length : Int) then (if w = 0 then mrk (qH X h) b.toNat else if w = 1 then th (qH X h) b.toNat else if w = 2 then dep (qH X h) b.toNat else X.1.2.2.1 h.toNat - dep (qH X h) b.toNat) else NON) else INV
def xFind (X : bm_X) (h m w : Int) : Int := if isHo h ∧ isMa m ∧ 0 ≤ w then fndB (qH X h) m (qH X h).length 0 w else INV
def xAccount (X : bm_X) (w : Int) : Int := if 0 ≤ w ∧ w < 5 then (if w = 0 then lnS X.1 else X.1.2.2.2.2 w.toNat) else INV
abbrev mP (X : bm_X) (a b : Int) : bm_P := mkP X.1 a.toNat b.toNat
def xCost (X : bm_X) (a b w : Int) : Int := if arePa a b ∧ (w = 0 ∨ w = 1) then bw (mP X a b) 0 0 else INV
abbrev isOn (X : bm_X) (a b s k : Int) : Prop := arePa a b ∧ (s = 0 ∨ s = 1) ∧ 0 ≤ k ∧ k < ((qH X (if s = 0 then a else b)).length : Int)
def xWhy (X : bm_X) (a b s k : Int) : Int := if isOn X a b s k then (if s = 0 then FA (mP X a b) k.toNat else FB (mP X a b) k.toNat) else INV
def xPartner (X : bm_X) (a b s k : Int) : Int := if isOn X a b s k then nn (if s = 0 then PA (mP X a b) k.toNat else PB (mP X a b) k.toNat) else INV
abbrev fl (X : bm_X) (a b : Int) : List bm_T := (TT (mP X a b)).filter (fF (X.1.1 4))
def xMatched (X : bm_X) (a b w : Int) : Int := if arePa a b ∧ 1 ≤ w ∧ w ≤ 5 then (if w = 5 then ((fl X a b).length : Int) else if w = 1 ∨ w = 2 then cntF (FA (mP X a b)) w 24 else cntF (FB (mP X a b)) w 24) else INV
def xFault (X : bm_X) (a b i w : Int) : Int := if arePa a b ∧ 0 ≤ i ∧ 0 ≤ w ∧ w ≤ 2 then (match (fl X a b)[i.toNat]? with
  | some e => if w = 0 then e.1 else if w = 1 then e.2.1 else e.2.2
  | none => NON) else INV
def xSum (X : bm_X) (a b w : Int) : Int := if arePa a b ∧ 0 ≤ w ∧ w ≤ 2 then (if nxt (FA (mP X a b)) 24 0 < 0 then NON else if w = 1 then sumT (fl X a b) else sumT (TT (mP X a b))) else INV
/-- the best of the first n holes: which one, and its cost -/
def nea (X : bm_X) (h : Int) : Nat → Int × Int
  | 0 => (NON, 1000000)
  | n + 1 => if ¬ (n : Int) = h ∧ bw (mP X h n) 0 0 < (nea X h n).2 then ((n : Int), bw (mP X h n) 0 0) else nea X h n
def xNearest (X : bm_X) (h w : Int) : Int := if isHo h ∧ 0 ≤ w ∧ w ≤ 1 then (if w = 0 then (nea X h 4).1 else (nea X h 4).2) else INV
abbrev clo (X : bm_X) (a b c : Int) (k : Nat) : Prop := 0 ≤ PA (mP X a b) k ∧ 0 ≤ PA (mP X b c) (PA (mP X a b) k).toNat ∧ PA (mP X b c) (PA (mP X a b) k).toNat = PA (mP X a c) k
def cnt (p : Nat → Prop) [DecidablePred p] : Nat → Int
  | 0 => 0
  | n + 1 => cnt p n + (if p n then 1 else 0)
def xClosed (X : bm_X) (a b c : Int) : Int := if arePa a b ∧ arePa a c ∧ arePa b c then cnt (clo X a b c) 24 else INV
/-! how the class's cells hold it -/
theorem clsR.fr {g g' : bg_E} {X : bm_X} {lo hi : Nat} (h : clsR g X) (hf : frR lo hi g g') (hx : 150 ≤ lo ∧ hi ≤ 156) : clsR g' X := by
  obtain ⟨h1, h2, h3, h4, ⟨h5, h6, h7, h8⟩, h9, h10, h11⟩ := h
  refine ⟨h1.fr hf (by omega), h2.fr hf (by omega), by rw [hf 0 (by omega)]; exact h3, fun i T hi hT => (h4 i T hi hT).fr hf (by omega), ⟨by rw [hf 148 (by omega)]; exact h5, h6, fun k hk => by rw [hf 149 (by omega)]; exact h7 k hk, h8⟩, ?_, ?_, ?_⟩
  · intro k hk; rw [hf _ (by omega)]; exact h9 k hk
  · intro k hk; rw [hf _ (by omega)]; exact h10 k hk
  · intro k hk; rw [hf _ (by omega)]; exact h11 k hk
theorem clsR.put {g g1 g2 : bg_E} {X : bm_X} {S : bm_S} {hs : List bm_S} (h : clsR g X) (hh : histR g1 hs) (f1 : frR 17 115 g g1) (f2 : frR 1 17 g1 g2) (hS : staR g2 1 S) : clsR g2 (S, hs, X.2.2) := by
  have hf : frR 1 115 g g2 := (f1.wide (by omega) (by omega)).tr (f2.wide (by omega) (by omega))
  obtain ⟨h1, h2, h3, h4, ⟨h5, h6, h7, h8⟩, h9, h10, h11⟩ := h
  refine ⟨hS, hh.fr f2 (by omega), by rw [hf 0 (by omega)]; exact h3, fun i T hi hT => (h4 i T hi hT).fr hf (by omega), ⟨by rw [hf 148 (by omega)]; exact h5, h6, fun k hk => by rw [hf 149 (by omega)]; exact h7 k hk, h8⟩, ?_, ?_, ?_⟩
  · intro k hk; rw [hf _ (by omega)]; exact h9 k hk
  · intro k hk; rw [hf _ (by omega)]; exact h10 k hk
  · intro k hk; rw [hf _ (by omega)]; exact h11 k hk
/-- a matching's own cells -/
theorem clsR.mat {g g' : bg_E} {X : bm_X} {q : Nat} (h : clsR g X) (hq : q = 156 ∨ q = 170 ∨ q = 184) (hf : frR q (q + 14) g g') (ht : tabOK g' q) : clsR g' X := by
  obtain ⟨h1, h2, h3, h4, ⟨h5, h6, h7, h8⟩, h9, h10, h11⟩ := h
  refine ⟨h1.fr hf (by omega), h2.fr hf (by omega), by rw [hf 0 (by omega)]; exact h3, fun i T hi hT => (h4 i T hi hT).fr hf (by omega), ⟨by rw [hf 148 (by omega)]; exact h5, h6, fun k hk => by rw [hf 149 (by omega)]; exact h7 k hk, h8⟩, ?_, ?_, ?_⟩
  · by_cases e : q = 156
    · subst e; exact ht
    · intro k hk; rw [hf _ (by omega)]; exact h9 k hk
  · by_cases e : q = 170
    · subst e; exact ht
    · intro k hk; rw [hf _ (by omega)]; exact h10 k hk
  · by_cases e : q = 184
    · subst e; exact ht
    · intro k hk; rw [hf _ (by omega)]; exact h11 k hk
theorem clsR.tab {g : bg_E} {X : bm_X} {q : Nat} (h : clsR g X) (hq : q = 156 ∨ q = 170 ∨ q = 184) : tabOK g q := by
  rcases hq with rfl | rfl | rfl
  · exact h.2.2.2.2.2.1
  · exact h.2.2.2.2.2.2.1
  · exact h.2.2.2.2.2.2.2
/-- the text's own cells -/
theorem clsR.txt {g g' : bg_E} {X : bm_X} {t : List Int} (h : clsR g X) (hf : ∀ x, ¬ (x = 148 ∨ x = 149) → ¬ (150 ≤ x ∧ x < 153) → g' x = g x) (ht : txC g' t) : clsR g' (X.1, X.2.1, X.2.2.1, t) := by
  obtain ⟨h1, h2, h3, h4, h5, h9, h10, h11⟩ := h
  have hf1 : frR 148 153 g g' := fun x hx => hf x (by omega) (by omega)
  refine ⟨h1.fr hf1 (by omega), h2.fr hf1 (by omega), by rw [hf1 0 (by omega)]; exact h3, fun i T hi hT => (h4 i T hi hT).fr hf1 (by omega), ht, ?_, ?_, ?_⟩
  · intro k hk; rw [hf1 _ (by omega)]; exact h9 k hk
  · intro k hk; rw [hf1 _ (by omega)]; exact h10 k hk
  · intro k hk; rw [hf1 _ (by omega)]; exact h11 k hk
