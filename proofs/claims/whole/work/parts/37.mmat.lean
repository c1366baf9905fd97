/-! the model: a matching -/
def arrM (g : bg_E) (P : bm_P) (i j : Nat) : Prop := (∀ k, k < i → g 207 k = FA P k ∧ g 209 k = PA P k) ∧ ∀ k, k < j → g 208 k = FB P k ∧ g 210 k = PB P k
def thrM (g : bg_E) (T : List bm_T) : Prop := g 198 19 = (T.length : Int) ∧ ∀ (t : Nat) (e : bm_T), T[t]? = some e → g 211 (3 * t) = e.1 ∧ g 211 (3 * t + 1) = e.2.1 ∧ g 211 (3 * t + 2) = e.2.2
def mfr (g g' : bg_E) : Prop := ∀ x j : Nat, ¬ (207 ≤ x ∧ x ≤ 211) → ¬ (x = 198 ∧ (j = 19 ∨ j = 20)) → g' x j = g x j
theorem mfr.at {g g' : bg_E} (h : mfr g g') {x : Nat} (hx : ¬ (207 ≤ x ∧ x ≤ 211)) (hy : ¬ x = 198) : g' x = g x := funext fun j => h x j hx (by omega)
theorem mfr.tr {g g1 g2 : bg_E} (h : mfr g g1) (h2 : mfr g1 g2) : mfr g g2 := fun x j hx hy => (h2 x j hx hy).trans (h x j hx hy)
theorem mfr.rf {g : bg_E} : mfr g g := fun _ _ _ _ => rfl
theorem mfr.up {g g1 : bg_E} {a k : Nat} {v : Int} (h : mfr g g1) (ha : (207 ≤ a ∧ a ≤ 211) ∨ (a = 198 ∧ (k = 19 ∨ k = 20))) : mfr g (bg_up g1 a k v) := fun x j hx hy => by
  unfold bg_up
  rw [if_neg (by omega)]
  exact h x j hx hy
def flgs (P : bm_P) (i j : Nat) (l6 : Int) : Int := rs3 (decide (l6 + 1 < (i : Int))) (anyN (fun j => decide (FB P j = 3)) (j - ((PA P l6.toNat).toNat + 1)) ((PA P l6.toNat).toNat + 1)) (anyN (fun j => !decide (FB P j = 3)) (j - ((PA P l6.toNat).toNat + 1)) ((PA P l6.toNat).toNat + 1))
/-- what the walk keeps: the throws so far, the last match, the reasons since -/
def walM (g : bg_E) (P : bm_P) (i j : Nat) (l6 l7 l8 : Int) : Prop := thrM g (TTn P l6.toNat) ∧ g 198 20 = cntF (FA P) 1 i ∧ l6 = lst (FA P) i ∧ (0 ≤ l6 → l7 = PA P l6.toNat ∧ 0 ≤ l7 ∧ l7 < (j : Int) ∧ l8 = flgs P i j l6)
theorem thrM.cg {g g' : bg_E} {T : List bm_T} (h : thrM g T) (h1 : g' 198 19 = g 198 19) (h2 : g' 211 = g 211) : thrM g' T := by
  unfold thrM
  rw [h1, h2]; exact h
theorem walM.cg {g g' : bg_E} {P : bm_P} {i j : Nat} {l6 l7 l8 : Int} (h : walM g P i j l6 l7 l8) (h1 : g' 198 = g 198) (h2 : g' 211 = g 211) : walM g' P i j l6 l7 l8 := ⟨h.1.cg (by rw [h1]) h2, by rw [h1]; exact h.2.1, h.2.2⟩
theorem thrM.add {g g' : bg_E} {T : List bm_T} {e : bm_T} {t : Nat} (h : thrM g T) (ht : t = T.length) (h1 : g' 198 19 = (t : Int) + 1) (h2 : ∀ k, k < 3 * t → g' 211 k = g 211 k) (h3 : g' 211 (3 * t) = e.1) (h4 : g' 211 (3 * t + 1) = e.2.1) (h5 : g' 211 (3 * t + 2) = e.2.2) : thrM g' (T ++ [e]) := by
  refine ⟨by rw [h1, List.length_append, ht]; simp, fun u d hd => ?_⟩
  rcases Nat.lt_or_ge u T.length with hu | hu
  · rw [List.getElem?_append_left hu] at hd
    rw [h2 _ (by omega), h2 _ (by omega), h2 _ (by omega)]
    exact h.2 u d hd
  · rw [List.getElem?_append_right hu] at hd
    by_cases hz : u = T.length
    · rw [hz, Nat.sub_self] at hd
      have hd : e = d := by simpa using hd
      rw [hz, ← ht, ← hd]
      exact ⟨h3, h4, h5⟩
    · rw [show u - T.length = (u - T.length - 1) + 1 by omega] at hd
      simp at hd
theorem cntF_pos {f : Nat → Int} : ∀ n : Nat, 0 < cntF f 1 n ↔ 0 ≤ lst f n
  | 0 => by show (0 : Int) < 0 ↔ (0 : Int) ≤ -1; omega
  | n + 1 => by
    have := cntF_pos (f := f) n
    have := cntF_R f 1 n
    rw [cntF, lst]
    split <;> omega
theorem fl_2 {P : bm_P} {i j : Nat} {l6 : Int} (h : l6 < i) : flgs P (i + 1) j l6 = bg_bor (flgs P i j l6) 1 := by
  unfold flgs
  rw [bor_1]
  congr 1
  rw [decide_eq_true]
  omega
theorem fl_3 {P : bm_P} {i j : Nat} {l6 : Int} (h0 : 0 ≤ PA P l6.toNat) (h : PA P l6.toNat < j) (hf : FB P j = 3) : flgs P i (j + 1) l6 = bg_bor (flgs P i j l6) 2 := by
  unfold flgs
  rw [bor_2, show j + 1 - ((PA P l6.toNat).toNat + 1) = (j - ((PA P l6.toNat).toNat + 1)) + 1 by omega, anyN_s, anyN_s, show (PA P l6.toNat).toNat + 1 + (j - ((PA P l6.toNat).toNat + 1)) = j by omega, hf]
  simp
theorem fl_4 {P : bm_P} {i j : Nat} {l6 : Int} (h0 : 0 ≤ PA P l6.toNat) (h : PA P l6.toNat < j) (hf : FB P j = 4) : flgs P i (j + 1) l6 = bg_bor (flgs P i j l6) 4 := by
  unfold flgs
  rw [bor_4, show j + 1 - ((PA P l6.toNat).toNat + 1) = (j - ((PA P l6.toNat).toNat + 1)) + 1 by omega, anyN_s, anyN_s, show (PA P l6.toNat).toNat + 1 + (j - ((PA P l6.toNat).toNat + 1)) = j by omega, hf]
  simp
def matM (g : bg_E) (P : bm_P) : Prop := arrM g P (pA P).length (pB P).length ∧ thrM g (TT P) ∧ g 198 20 = cntF (FA P) 1 (pA P).length
def mfr6 (g g' : bg_E) : Prop := ∀ x j : Nat, ¬ (206 ≤ x ∧ x ≤ 211) → ¬ (x = 198 ∧ (j = 19 ∨ j = 20)) → g' x j = g x j
theorem c_X7_matches {y : bg_Y} {g : bg_E} {a b : Int} {S : bm_S} (hS : rowR (g 199) S) (ok : staOK S) (ha : isHo a) (hb : isHo b) : bg_Sv y 5 mX7_matches [.inr 198, .inl a, .inl b] g (fun g' => matM g' (mq S a b) ∧ mfr6 g g') := by
  have okP1 := mq_ok ok ha hb
  obtain ⟨P, hP⟩ : ∃ P, P = mq S a b := ⟨_, rfl⟩
  have lA := (sq_OK ok ha).2
  have lB := (sq_OK ok hb).2
  have eA : pA P = sq S a := by rw [hP]; rfl
  have eB : pB P = sq S b := by rw [hP]; rfl
  rw [← hP] at okP1
  rw [← hP]
  refine bg_enter pnX7 (Nat.le_of_ble_eq_true rfl) (fun κ X hR hg => ?_)
  have X1 : bg_X κ y cX7_matches RX7 5 0 0 := X.1
  have hg : ∀ a k, R32 (g a k) := hg
  show bg_g κ y 0 [some (.inr 198), some (.inl a), some (.inl b), none, none, none, none, none, none, none] [] g
  have tail : ∀ (s c l6 l7 l8 : Int) (i j : Nat) (g1 : bg_E), rowR (g1 199) S → (1 ≤ s ∧ s ≤ 4) → i ≤ (pA P).length → j ≤ (pB P).length → (s = 1 → i < (pA P).length ∧ j < (pB P).length ∧ FA P i = 1 ∧ PA P i = (j : Int) ∧ FB P j = 1 ∧ PB P j = (i : Int)) → (s = 2 → i < (pA P).length ∧ FA P i = 2 ∧ PA P i = -1) → (s = 3 → j < (pB P).length ∧ FB P j = 3 ∧ PB P j = rep P i j) → (s = 4 → j < (pB P).length ∧ FB P j = 4 ∧ PB P j = -1) → arrM g1 P i j → (∀ (g2 : bg_E) (l9 : Option bg_V), (∀ x, ¬ (207 ≤ x ∧ x ≤ 210) → g2 x = g1 x) → arrM g2 P (if s < 3 then i + 1 else i) (if s = 2 then j else j + 1) → bg_g κ y 32 [some (.inr 198), some (.inl a), some (.inl b), some (.inl c), some (.inl ((if s < 3 then i + 1 else i : Nat) : Int)), some (.inl ((if s = 2 then j else j + 1 : Nat) : Int)), some (.inl l6), some (.inl l7), some (.inl l8), l9] [] g2) → bg_g κ y 206 [some (.inr 198), some (.inl a), some (.inl b), some (.inl c), some (.inl (i : Int)), some (.inl (j : Int)), some (.inl l6), some (.inl l7), some (.inl l8), some (.inl s)] [] g1 := by
    intro s c l6 l7 l8 i j g1 hS1 hs hi hj k1 k2 k3 k4 hA kk
    rw [eA] at hi k1 k2
    rw [eB] at hj k1 k3 k4
    have ei : ((i : Nat) : Int).toNat = i := Int.toNat_natCast _
    have ej : ((j : Nat) : Int).toNat = j := Int.toNat_natCast _
    have hc : s = 1 ∨ s = 2 ∨ s = 3 ∨ s = 4 := by omega
    rcases hc with rfl | rfl | rfl | rfl
    · obtain ⟨q1, q2, q3, q4, q5, q6⟩ := k1 rfl
      refine bg_iload9 (pc := 206) X1 dX7_matches_206 ?_
      refine bg_iconst (pc := 208) X1 dX7_matches_208 (by decide) ?_
      refine bg_icmp_ge (pc := 209) X1 (tgt := 240) dX7_matches_209 (by decide) (fun u209 => ?_) (fun u209 => ?_)
      · exfalso; omega
      · refine bg_aload0 (pc := 212) X1 dX7_matches_212 ?_
        refine bo_getR (pc := 213) X1 dX7_matches_213 fX7_34 (by first | assumption | rfl) rfl (by first | assumption | rfl) ?_
        refine bg_iload4 (pc := 216) X1 dX7_matches_216 ?_
        refine bg_iload9 (pc := 218) X1 dX7_matches_218 ?_
        refine bo_iastore (pc := 220) X1 dX7_matches_220 (by first | assumption | rfl) (by omega) ?_
        refine bg_aload0 (pc := 221) X1 dX7_matches_221 ?_
        refine bo_getR (pc := 222) X1 dX7_matches_222 fX7_40 (by first | assumption | rfl) rfl (by first | assumption | rfl) ?_
        refine bg_iload4 (pc := 225) X1 dX7_matches_225 ?_
        refine bg_iload9 (pc := 227) X1 dX7_matches_227 ?_
        refine bg_iconst (pc := 229) X1 dX7_matches_229 (by decide) ?_
        refine bg_icmp_ne (pc := 230) X1 (tgt := 238) dX7_matches_230 (by decide) (fun u230 => ?_) (fun u230 => ?_)
        · exfalso; omega
        · refine bg_iload5 (pc := 233) X1 dX7_matches_233 ?_
          refine bg_goto (pc := 235) X1 (tgt := 239) dX7_matches_235 (by decide) ?_
          refine bo_iastore (pc := 239) X1 dX7_matches_239 (by first | assumption | rfl) (by omega) ?_
          refine bg_iload9 (pc := 240) X1 dX7_matches_240 ?_
          refine bg_iconst (pc := 242) X1 dX7_matches_242 (by decide) ?_
          refine bg_icmp_eq (pc := 243) X1 (tgt := 296) dX7_matches_243 (by decide) (fun u243 => ?_) (fun u243 => ?_)
          · exfalso; omega
          · refine bg_aload0 (pc := 246) X1 dX7_matches_246 ?_
            refine bo_getR (pc := 247) X1 dX7_matches_247 fX7_37 (by first | assumption | rfl) rfl (by first | assumption | rfl) ?_
            refine bg_iload5 (pc := 250) X1 dX7_matches_250 ?_
            refine bg_iload9 (pc := 252) X1 dX7_matches_252 ?_
            refine bo_iastore (pc := 254) X1 dX7_matches_254 (by first | assumption | rfl) (by omega) ?_
            refine bg_aload0 (pc := 255) X1 dX7_matches_255 ?_
            refine bo_getR (pc := 256) X1 dX7_matches_256 fX7_43 (by first | assumption | rfl) rfl (by first | assumption | rfl) ?_
            refine bg_iload5 (pc := 259) X1 dX7_matches_259 ?_
            refine bg_iload9 (pc := 261) X1 dX7_matches_261 ?_
            refine bg_iconst (pc := 263) X1 dX7_matches_263 (by decide) ?_
            refine bg_icmp_ne (pc := 264) X1 (tgt := 272) dX7_matches_264 (by decide) (fun u264 => ?_) (fun u264 => ?_)
            · exfalso; omega
            · refine bg_iload4 (pc := 267) X1 dX7_matches_267 ?_
              refine bg_goto (pc := 269) X1 (tgt := 292) dX7_matches_269 (by decide) ?_
              refine bo_iastore (pc := 292) X1 dX7_matches_292 (by first | assumption | rfl) (by omega) ?_
              refine bg_iinc5 (pc := 293) X1 dX7_matches_293 (by omega) ?_
              refine bg_iload4 (pc := 296) X1 dX7_matches_296 ?_
              refine bg_iload9 (pc := 298) X1 dX7_matches_298 ?_
              refine bg_iconst (pc := 300) X1 dX7_matches_300 (by decide) ?_
              refine bg_icmp_ge (pc := 301) X1 (tgt := 308) dX7_matches_301 (by decide) (fun u301 => ?_) (fun u301 => ?_)
              · exfalso; omega
              · refine bg_iconst (pc := 304) X1 dX7_matches_304 (by decide) ?_
                refine bg_goto (pc := 305) X1 (tgt := 309) dX7_matches_305 (by decide) ?_
                refine bg_iadd (pc := 309) X1 dX7_matches_309 (by omega) ?_
                refine bg_istore4 (pc := 310) X1 dX7_matches_310 ?_
                refine bg_goto (pc := 312) X1 (tgt := 32) dX7_matches_312 (by decide) ?_
                refine kk _ _ (fun x hx => by rw [bg_up_ne (by omega), bg_up_ne (by omega), bg_up_ne (by omega), bg_up_ne (by omega)]) ⟨fun k hk => ?_, fun k hk => ?_⟩
                · have hk : k < i + 1 := hk
                  simp only [ei, ej]
                  by_cases e : k = i
                  · subst e; simp [bg_up, q3, q4]
                  · have := hA.1 k (by omega); simp [bg_up, e, this]
                · have hk : k < j + 1 := hk
                  simp only [ei, ej]
                  by_cases e : k = j
                  · subst e; simp [bg_up, q5, q6]
                  · have := hA.2 k (by omega); simp [bg_up, e, this]
    · obtain ⟨q1, q2, q3⟩ := k2 rfl
      refine bg_iload9 (pc := 206) X1 dX7_matches_206 ?_
      refine bg_iconst (pc := 208) X1 dX7_matches_208 (by decide) ?_
      refine bg_icmp_ge (pc := 209) X1 (tgt := 240) dX7_matches_209 (by decide) (fun u209 => ?_) (fun u209 => ?_)
      · exfalso; omega
      · refine bg_aload0 (pc := 212) X1 dX7_matches_212 ?_
        refine bo_getR (pc := 213) X1 dX7_matches_213 fX7_34 (by first | assumption | rfl) rfl (by first | assumption | rfl) ?_
        refine bg_iload4 (pc := 216) X1 dX7_matches_216 ?_
        refine bg_iload9 (pc := 218) X1 dX7_matches_218 ?_
        refine bo_iastore (pc := 220) X1 dX7_matches_220 (by first | assumption | rfl) (by omega) ?_
        refine bg_aload0 (pc := 221) X1 dX7_matches_221 ?_
        refine bo_getR (pc := 222) X1 dX7_matches_222 fX7_40 (by first | assumption | rfl) rfl (by first | assumption | rfl) ?_
        refine bg_iload4 (pc := 225) X1 dX7_matches_225 ?_
        refine bg_iload9 (pc := 227) X1 dX7_matches_227 ?_
        refine bg_iconst (pc := 229) X1 dX7_matches_229 (by decide) ?_
        refine bg_icmp_ne (pc := 230) X1 (tgt := 238) dX7_matches_230 (by decide) (fun u230 => ?_) (fun u230 => ?_)
        · refine bg_iconst (pc := 238) X1 dX7_matches_238 (by decide) ?_
          refine bo_iastore (pc := 239) X1 dX7_matches_239 (by first | assumption | rfl) (by omega) ?_
          refine bg_iload9 (pc := 240) X1 dX7_matches_240 ?_
          refine bg_iconst (pc := 242) X1 dX7_matches_242 (by decide) ?_
          refine bg_icmp_eq (pc := 243) X1 (tgt := 296) dX7_matches_243 (by decide) (fun u243 => ?_) (fun u243 => ?_)
          · refine bg_iload4 (pc := 296) X1 dX7_matches_296 ?_
            refine bg_iload9 (pc := 298) X1 dX7_matches_298 ?_
            refine bg_iconst (pc := 300) X1 dX7_matches_300 (by decide) ?_
            refine bg_icmp_ge (pc := 301) X1 (tgt := 308) dX7_matches_301 (by decide) (fun u301 => ?_) (fun u301 => ?_)
            · exfalso; omega
            · refine bg_iconst (pc := 304) X1 dX7_matches_304 (by decide) ?_
              refine bg_goto (pc := 305) X1 (tgt := 309) dX7_matches_305 (by decide) ?_
              refine bg_iadd (pc := 309) X1 dX7_matches_309 (by omega) ?_
              refine bg_istore4 (pc := 310) X1 dX7_matches_310 ?_
              refine bg_goto (pc := 312) X1 (tgt := 32) dX7_matches_312 (by decide) ?_
              refine kk _ _ (fun x hx => by rw [bg_up_ne (by omega), bg_up_ne (by omega)]) ⟨fun k hk => ?_, fun k hk => ?_⟩
              · have hk : k < i + 1 := hk
                simp only [ei, ej]
                by_cases e : k = i
                · subst e; simp [bg_up, q2, q3]
                · have := hA.1 k (by omega); simp [bg_up, e, this]
              · have hk : k < j := hk
                have := hA.2 k (by omega)
                simp [bg_up, this]
          · exfalso; omega
        · exfalso; omega
    · obtain ⟨q1, q2, q3⟩ := k3 rfl
      refine bg_iload9 (pc := 206) X1 dX7_matches_206 ?_
      refine bg_iconst (pc := 208) X1 dX7_matches_208 (by decide) ?_
      refine bg_icmp_ge (pc := 209) X1 (tgt := 240) dX7_matches_209 (by decide) (fun u209 => ?_) (fun u209 => ?_)
      · refine bg_iload9 (pc := 240) X1 dX7_matches_240 ?_
        refine bg_iconst (pc := 242) X1 dX7_matches_242 (by decide) ?_
        refine bg_icmp_eq (pc := 243) X1 (tgt := 296) dX7_matches_243 (by decide) (fun u243 => ?_) (fun u243 => ?_)
        · exfalso; omega
        · refine bg_aload0 (pc := 246) X1 dX7_matches_246 ?_
          refine bo_getR (pc := 247) X1 dX7_matches_247 fX7_37 (by first | assumption | rfl) rfl (by first | assumption | rfl) ?_
          refine bg_iload5 (pc := 250) X1 dX7_matches_250 ?_
          refine bg_iload9 (pc := 252) X1 dX7_matches_252 ?_
          refine bo_iastore (pc := 254) X1 dX7_matches_254 (by first | assumption | rfl) (by omega) ?_
          refine bg_aload0 (pc := 255) X1 dX7_matches_255 ?_
          refine bo_getR (pc := 256) X1 dX7_matches_256 fX7_43 (by first | assumption | rfl) rfl (by first | assumption | rfl) ?_
          refine bg_iload5 (pc := 259) X1 dX7_matches_259 ?_
          refine bg_iload9 (pc := 261) X1 dX7_matches_261 ?_
          refine bg_iconst (pc := 263) X1 dX7_matches_263 (by decide) ?_
          refine bg_icmp_ne (pc := 264) X1 (tgt := 272) dX7_matches_264 (by decide) (fun u264 => ?_) (fun u264 => ?_)
          · refine bg_iload9 (pc := 272) X1 dX7_matches_272 ?_
            refine bg_iconst (pc := 274) X1 dX7_matches_274 (by decide) ?_
            refine bg_icmp_ne (pc := 275) X1 (tgt := 291) dX7_matches_275 (by decide) (fun u275 => ?_) (fun u275 => ?_)
            · exfalso; omega
            · refine bg_aload0 (pc := 278) X1 dX7_matches_278 ?_
              refine bg_iload1 (pc := 279) X1 dX7_matches_279 ?_
              refine bg_iload4 (pc := 280) X1 dX7_matches_280 ?_
              refine bg_iload2 (pc := 282) X1 dX7_matches_282 ?_
              refine bg_iload5 (pc := 283) X1 dX7_matches_283 ?_
              refine bo_V4i (pc := 285) X1 (c_X7_repeated (a := a) (b := b) (i := (i : Int)) (j := (j : Int)) (S := S) (by rw [bg_up_ne (by omega)]; exact hS1) ok ha hb (by omega) (by omega)) vX7_repeated lX7_156 rfl (by first | assumption | rfl) (by decide) dX7_matches_285 (by exact Nat.le_of_ble_eq_true rfl) ?_
              rintro _ _ ⟨h9, h8⟩
              obtain rfl := h9.symm
              obtain rfl := h8.symm
              clear h9 h8
              rw [show rep (mq S a b) ((i : Nat) : Int).toNat ((j : Nat) : Int).toNat = rep P i j by rw [hP, ei, ej]]
              refine bg_goto (pc := 288) X1 (tgt := 292) dX7_matches_288 (by decide) ?_
              refine bo_iastore (pc := 292) X1 dX7_matches_292 (by first | assumption | rfl) (by omega) ?_
              refine bg_iinc5 (pc := 293) X1 dX7_matches_293 (by omega) ?_
              refine bg_iload4 (pc := 296) X1 dX7_matches_296 ?_
              refine bg_iload9 (pc := 298) X1 dX7_matches_298 ?_
              refine bg_iconst (pc := 300) X1 dX7_matches_300 (by decide) ?_
              refine bg_icmp_ge (pc := 301) X1 (tgt := 308) dX7_matches_301 (by decide) (fun u301 => ?_) (fun u301 => ?_)
              · refine bg_iconst (pc := 308) X1 dX7_matches_308 (by decide) ?_
                refine bg_iadd (pc := 309) X1 dX7_matches_309 (by omega) ?_
                refine bg_istore4 (pc := 310) X1 dX7_matches_310 ?_
                refine bg_goto (pc := 312) X1 (tgt := 32) dX7_matches_312 (by decide) ?_
                refine kk _ _ (fun x hx => by rw [bg_up_ne (by omega), bg_up_ne (by omega)]) ⟨fun k hk => ?_, fun k hk => ?_⟩
                · have hk : k < i := hk
                  have := hA.1 k (by omega)
                  simp [bg_up, this]
                · have hk : k < j + 1 := hk
                  simp only [ei, ej]
                  by_cases e : k = j
                  · subst e; simp [bg_up, q2, q3]
                  · have := hA.2 k (by omega); simp [bg_up, e, this]
              · exfalso; omega
          · exfalso; omega
      · exfalso; omega
    · obtain ⟨q1, q2, q3⟩ := k4 rfl
      refine bg_iload9 (pc := 206) X1 dX7_matches_206 ?_
      refine bg_iconst (pc := 208) X1 dX7_matches_208 (by decide) ?_
      refine bg_icmp_ge (pc := 209) X1 (tgt := 240) dX7_matches_209 (by decide) (fun u209 => ?_) (fun u209 => ?_)
      · refine bg_iload9 (pc := 240) X1 dX7_matches_240 ?_
        refine bg_iconst (pc := 242) X1 dX7_matches_242 (by decide) ?_
        refine bg_icmp_eq (pc := 243) X1 (tgt := 296) dX7_matches_243 (by decide) (fun u243 => ?_) (fun u243 => ?_)
        · exfalso; omega
        · refine bg_aload0 (pc := 246) X1 dX7_matches_246 ?_
          refine bo_getR (pc := 247) X1 dX7_matches_247 fX7_37 (by first | assumption | rfl) rfl (by first | assumption | rfl) ?_
          refine bg_iload5 (pc := 250) X1 dX7_matches_250 ?_
          refine bg_iload9 (pc := 252) X1 dX7_matches_252 ?_
          refine bo_iastore (pc := 254) X1 dX7_matches_254 (by first | assumption | rfl) (by omega) ?_
          refine bg_aload0 (pc := 255) X1 dX7_matches_255 ?_
          refine bo_getR (pc := 256) X1 dX7_matches_256 fX7_43 (by first | assumption | rfl) rfl (by first | assumption | rfl) ?_
          refine bg_iload5 (pc := 259) X1 dX7_matches_259 ?_
          refine bg_iload9 (pc := 261) X1 dX7_matches_261 ?_
          refine bg_iconst (pc := 263) X1 dX7_matches_263 (by decide) ?_
          refine bg_icmp_ne (pc := 264) X1 (tgt := 272) dX7_matches_264 (by decide) (fun u264 => ?_) (fun u264 => ?_)
          · refine bg_iload9 (pc := 272) X1 dX7_matches_272 ?_
            refine bg_iconst (pc := 274) X1 dX7_matches_274 (by decide) ?_
            refine bg_icmp_ne (pc := 275) X1 (tgt := 291) dX7_matches_275 (by decide) (fun u275 => ?_) (fun u275 => ?_)
            · refine bg_iconst (pc := 291) X1 dX7_matches_291 (by decide) ?_
              refine bo_iastore (pc := 292) X1 dX7_matches_292 (by first | assumption | rfl) (by omega) ?_
              refine bg_iinc5 (pc := 293) X1 dX7_matches_293 (by omega) ?_
              refine bg_iload4 (pc := 296) X1 dX7_matches_296 ?_
              refine bg_iload9 (pc := 298) X1 dX7_matches_298 ?_
              refine bg_iconst (pc := 300) X1 dX7_matches_300 (by decide) ?_
              refine bg_icmp_ge (pc := 301) X1 (tgt := 308) dX7_matches_301 (by decide) (fun u301 => ?_) (fun u301 => ?_)
              · refine bg_iconst (pc := 308) X1 dX7_matches_308 (by decide) ?_
                refine bg_iadd (pc := 309) X1 dX7_matches_309 (by omega) ?_
                refine bg_istore4 (pc := 310) X1 dX7_matches_310 ?_
                refine bg_goto (pc := 312) X1 (tgt := 32) dX7_matches_312 (by decide) ?_
                refine kk _ _ (fun x hx => by rw [bg_up_ne (by omega), bg_up_ne (by omega)]) ⟨fun k hk => ?_, fun k hk => ?_⟩
                · have hk : k < i := hk
                  have := hA.1 k (by omega)
                  simp [bg_up, this]
                · have hk : k < j + 1 := hk
                  simp only [ei, ej]
                  by_cases e : k = j
                  · subst e; simp [bg_up, q2, q3]
                  · have := hA.2 k (by omega); simp [bg_up, e, this]
              · exfalso; omega
            · exfalso; omega
          · exfalso; omega
      · exfalso; omega
  have fin : ∀ (n : Nat) (c l6 l7 l8 : Int) (l9 : Option bg_V) (g1 : bg_E), n ≤ 48 → fbs P (wk P n).1 (wk P n).2.1 = 0 → 0 ≤ c → rowR (g1 199) S → arrM g1 P (wk P n).1 (wk P n).2.1 → walM g1 P (wk P n).1 (wk P n).2.1 l6 l7 l8 → mfr6 g g1 → bg_g κ y 32 [some (.inr 198), some (.inl a), some (.inl b), some (.inl c), some (.inl ((wk P n).1 : Int)), some (.inl ((wk P n).2.1 : Int)), some (.inl l6), some (.inl l7), some (.inl l8), l9] [] g1 := by
    intro n c l6 l7 l8 l9 g1 hn h0 hc hS1 hA hW hF
    rw [wk_fin hn h0] at hA hW ⊢
    obtain ⟨w1, w2⟩ := wE_end okP1
    rw [w1, w2] at hA hW ⊢
    rw [eA, eB]
    refine bg_iload3 (pc := 32) X1 dX7_matches_32 ?_
    refine bg_if_lt (pc := 33) X1 (tgt := 315) dX7_matches_33 (by decide) (fun u33 => ?_) (fun u33 => ?_)
    · exfalso; omega
    · refine bg_iload4 (pc := 36) X1 dX7_matches_36 ?_
      refine bg_aload0 (pc := 38) X1 dX7_matches_38 ?_
      refine bo_getR (pc := 39) X1 dX7_matches_39 fX7_7 (by first | assumption | rfl) rfl (by first | assumption | rfl) ?_
      refine bg_bipush (pc := 42) X1 dX7_matches_42 rfl (by decide) ?_
      refine bg_iload1 (pc := 44) X1 dX7_matches_44 ?_
      refine bg_iadd (pc := 45) X1 dX7_matches_45 (by omega) ?_
      refine bo_iaload (pc := 46) X1 dX7_matches_46 (by first | assumption | rfl) (by omega) ?_
      rw [row_len hS1 ha]
      refine bg_icmp_lt (pc := 47) X1 (tgt := 64) dX7_matches_47 (by decide) (fun u47 => ?_) (fun u47 => ?_)
      · exfalso; omega
      · refine bg_iload5 (pc := 50) X1 dX7_matches_50 ?_
        refine bg_aload0 (pc := 52) X1 dX7_matches_52 ?_
        refine bo_getR (pc := 53) X1 dX7_matches_53 fX7_7 (by first | assumption | rfl) rfl (by first | assumption | rfl) ?_
        refine bg_bipush (pc := 56) X1 dX7_matches_56 rfl (by decide) ?_
        refine bg_iload2 (pc := 58) X1 dX7_matches_58 ?_
        refine bg_iadd (pc := 59) X1 dX7_matches_59 (by omega) ?_
        refine bo_iaload (pc := 60) X1 dX7_matches_60 (by first | assumption | rfl) (by omega) ?_
        rw [row_len hS1 hb]
        refine bg_icmp_ge (pc := 61) X1 (tgt := 315) dX7_matches_61 (by decide) (fun u61 => ?_) (fun u61 => ?_)
        · exact bo_vret (pc := 315) X rfl dX7_matches_315 (fun hg9 => by
              refine ⟨⟨hA, ?_, hW.2.1⟩, hF⟩
              have h1 := hW.1
              rw [hW.2.2.1, TTn_last okP1.1.2 (fun k hk e => by
                have := ((wE_I okP1).2.1 k hk).1
                omega)] at h1
              exact h1)
        · exfalso; omega
  have loop : ∀ (m n : Nat) (c l6 l7 l8 : Int) (l9 : Option bg_V) (g1 : bg_E), n + m = 48 → 0 ≤ c → rowR (g1 199) S → tabM g1 P → arrM g1 P (wk P n).1 (wk P n).2.1 → walM g1 P (wk P n).1 (wk P n).2.1 l6 l7 l8 → mfr6 g g1 → bg_g κ y 32 [some (.inr 198), some (.inl a), some (.inl b), some (.inl c), some (.inl ((wk P n).1 : Int)), some (.inl ((wk P n).2.1 : Int)), some (.inl l6), some (.inl l7), some (.inl l8), l9] [] g1 := by
    intro m
    induction m with
    | zero =>
      intro n c l6 l7 l8 l9 g1 hn hc hS1 hT hA hW hF
      refine fin n c l6 l7 l8 l9 g1 (by omega) ?_ hc hS1 hA hW hF
      have hI := wk_I P n
      rcases wk_rst okP1 n with h1 | h1
      · have h2 := hI.1
        have h3 := hI.2.1
        unfold rst at h1
        exact (fbs_0 okP1 h2 h3).mpr (by omega)
      · exact h1
    | succ m ih =>
      intro n c l6 l7 l8 l9 g1 hn hc hS1 hT hA hW hF
      by_cases h0 : fbs P (wk P n).1 (wk P n).2.1 = 0
      · exact fin n c l6 l7 l8 l9 g1 (by omega) h0 hc hS1 hA hW hF
      · have hI := wk_I P n
        have I1 := hI.1
        have I2 := hI.2.1
        have hend := fbs_0 okP1 I1 I2
        have hgo := fbs_go (P := P) (i := (wk P n).1) (j := (wk P n).2.1)
        obtain ⟨hf1, hf2⟩ : (1 ≤ fbs P (wk P n).1 (wk P n).2.1 ∧ fbs P (wk P n).1 (wk P n).2.1 ≤ 4) ∧ True := by
          rcases fbs_or (P := P) (i := (wk P n).1) (j := (wk P n).2.1) with h | h
          · exact absurd h.1 h0
          · exact ⟨h.1, trivial⟩
        have kk := fun (l6 l7 l8 : Int) (g2 : bg_E) (l9 : Option bg_V) => ih (n + 1) c l6 l7 l8 l9 g2 (by omega) hc
        have n1 := wk_1 (P := P) (n := n) (by omega)
        have n2 := wk_2 (P := P) (n := n) (by omega)
        have n3 := wk_3 (P := P) (n := n) (by omega)
        have n4 := wk_4 (P := P) (n := n) (by omega)
        generalize (wk P (n + 1)).1 = i' at kk n1 n2 n3 n4
        generalize (wk P (n + 1)).2.1 = j' at kk n1 n2 n3 n4
        generalize (wk P n).1 = i at *
        generalize (wk P n).2.1 = j at *
        have eS : ∃ s, s = fbs P i j := ⟨_, rfl⟩
        obtain ⟨s, eS⟩ := eS
        rw [← eS] at hf1 h0 hgo n1 n2 n3 n4
        have stp : i' = (if s < 3 then i + 1 else i) ∧ j' = (if s = 2 then j else j + 1) := by
          have hc : s = 1 ∨ s = 2 ∨ s = 3 ∨ s = 4 := by omega
          rcases hc with rfl | rfl | rfl | rfl
          · have := n1 rfl; simp; omega
          · have := n2 rfl; simp; omega
          · have := n3 rfl; simp; omega
          · have := n4 rfl; simp; omega
        have tl := fun (g2 : bg_E) (l6 l7 l8 : Int) (hS2 : rowR (g2 199) S) => tail s c l6 l7 l8 i j g2 hS2 hf1 I1 I2 (fun h => ⟨(hgo.1 h).1, (hgo.1 h).2, (n1 h).2.2⟩) (fun h => ⟨hgo.2.1 h, (n2 h).2.2⟩) (fun h => ⟨(hgo.2.2.1 h).1, (n3 h).2.2⟩) (fun h => ⟨hgo.2.2.2 h, (n4 h).2.2⟩)
        have mid : bg_g κ y 64 [some (.inr 198), some (.inl a), some (.inl b), some (.inl c), some (.inl (i : Int)), some (.inl (j : Int)), some (.inl l6), some (.inl l7), some (.inl l8), l9] [] g1 := by
          have hTm : tabM g1 (mq S a b) := hP ▸ hT
          have efb : fbs (mq S a b) ((i : Nat) : Int).toNat ((j : Nat) : Int).toNat = s := by rw [Int.toNat_natCast, Int.toNat_natCast, ← hP]; exact eS.symm
          have I1' : i ≤ (sq S a).length := by rw [← eA]; exact I1
          have I2' : j ≤ (sq S b).length := by rw [← eB]; exact I2
          have go1 : s = 1 → i < (sq S a).length ∧ j < (sq S b).length := fun h => by rw [← eA, ← eB]; exact hgo.1 h
          obtain ⟨W1, W2, W3, W4⟩ := id hW
          have W5 := lst_or (FA P) i
          rw [← W3] at W5
          have cp := cntF_pos (f := FA P) i
          rw [← W2, ← W3] at cp
          have cR := cntF_R (FA P) 1 i
          rw [← W2] at cR
          have tln := TTn_len P l6.toNat
          have W10 := W1.1
          -- what follows a step that is no match
          have oth : ∀ l9' l8' : Int, l9' = s → ¬ s = 1 → (0 ≤ l6 → l8' = flgs P i' j' l6) → bg_g κ y 206 [some (.inr 198), some (.inl a), some (.inl b), some (.inl c), some (.inl (i : Int)), some (.inl (j : Int)), some (.inl l6), some (.inl l7), some (.inl l8'), some (.inl l9')] [] g1 := by
            intro l9' l8' e9 hs1 hl8
            rw [e9]
            refine tl g1 l6 l7 l8' hS1 hA (fun g2 l9'' hfr hA2 => ?_)
            rw [← stp.1, ← stp.2] at hA2 ⊢
            have e198 : g2 198 = g1 198 := hfr 198 (by omega)
            have e211 : g2 211 = g1 211 := hfr 211 (by omega)
            have elst : lst (FA P) i' = lst (FA P) i ∧ cntF (FA P) 1 i' = cntF (FA P) 1 i := by
              by_cases h2 : s = 2
              · have := n2 h2
                rw [this.1, lst, cntF, this.2.2.1]
                exact ⟨if_neg (by decide), by rw [if_neg (by decide)]; omega⟩
              · rw [show i' = i by have := stp.1; rw [if_neg (by omega)] at this; exact this]
                exact ⟨rfl, rfl⟩
            refine kk l6 l7 l8' g2 l9'' (by rw [hfr 199 (by omega)]; exact hS1) (fun x z hx hz => by rw [hfr 206 (by omega)]; exact hT x z hx hz) hA2 ⟨W1.cg (by rw [e198]) e211, by rw [e198, elst.2]; exact W2, by rw [elst.1]; exact W3, fun h6 => ?_⟩ (fun x k hx hy => ?_)
            · have := W4 h6
              refine ⟨this.1, this.2.1, ?_, hl8 h6⟩
              have e2 := stp.2
              split at e2 <;> omega
            · rw [hfr x (by omega)]; exact hF x k hx hy
          have oth1 : ∀ l9' : Int, l9' = s → ¬ s = 1 → bg_g κ y 206 [some (.inr 198), some (.inl a), some (.inl b), some (.inl c), some (.inl (i : Int)), some (.inl (j : Int)), some (.inl l6), some (.inl l7), some (.inl (bg_bor l8 (bg_shl 1 (s - 2)))), some (.inl l9')] [] g1 := by
            intro l9' e9 hs1
            refine oth l9' _ e9 hs1 (fun h6 => ?_)
            obtain ⟨v1, v2, v3, v4⟩ := W4 h6
            rcases W5 with h5 | ⟨h5, h5b, -⟩
            · omega
            have hc : s = 2 ∨ s = 3 ∨ s = 4 := by omega
            rcases hc with rfl | rfl | rfl
            · have q := n2 rfl
              rw [q.1, q.2.1, fl_2 h5b, ← v4]; rfl
            · have q := n3 rfl
              rw [q.1, q.2.1, fl_3 (by omega) (by omega) q.2.2.1, ← v4]; rfl
            · have q := n4 rfl
              rw [q.1, q.2.1, fl_4 (by omega) (by omega) q.2.2.1, ← v4]; rfl
          -- what follows a match
          have mat : ∀ g2 : bg_E, s = 1 → (∀ x, ¬ x = 198 → ¬ x = 211 → g2 x = g1 x) → (∀ k, ¬ k = 19 → ¬ k = 20 → g2 198 k = g1 198 k) → thrM g2 (TTn P i) → g2 198 20 = g1 198 20 + 1 → bg_g κ y 206 [some (.inr 198), some (.inl a), some (.inl b), some (.inl c), some (.inl (i : Int)), some (.inl (j : Int)), some (.inl (i : Int)), some (.inl (j : Int)), some (.inl 0), some (.inl s)] [] g2 := by
            intro g2 hs1 hfr hfr8 hth hct
            refine tl g2 i j 0 (by rw [hfr 199 (by omega) (by omega)]; exact hS1) ⟨fun k hk => by rw [hfr 207 (by omega) (by omega), hfr 209 (by omega) (by omega)]; exact hA.1 k hk, fun k hk => by rw [hfr 208 (by omega) (by omega), hfr 210 (by omega) (by omega)]; exact hA.2 k hk⟩ (fun g3 l9'' hf3 hA3 => ?_)
            rw [← stp.1, ← stp.2] at hA3 ⊢
            have q := n1 hs1
            have e198 : g3 198 = g2 198 := hf3 198 (by omega)
            have e211 : g3 211 = g2 211 := hf3 211 (by omega)
            refine kk i j 0 g3 l9'' (by rw [hf3 199 (by omega), hfr 199 (by omega) (by omega)]; exact hS1) (fun x z hx hz => by rw [hf3 206 (by omega), hfr 206 (by omega) (by omega)]; exact hT x z hx hz) hA3 ⟨?_, ?_, ?_, fun _ => ?_⟩ (fun x k hx hy => ?_)
            · rw [Int.toNat_natCast]; exact hth.cg (by rw [e198]) e211
            · rw [e198, hct, W2, q.1, cntF, if_pos q.2.2.1]
            · rw [q.1, lst, if_pos q.2.2.1]
            · rw [Int.toNat_natCast]
              refine ⟨q.2.2.2.1.symm, by omega, by omega, ?_⟩
              rw [q.1, q.2.1]
              unfold flgs
              rw [Int.toNat_natCast, q.2.2.2.1, Int.toNat_natCast, Nat.sub_self, decide_eq_false (by omega)]
              rfl
            · rw [hf3 x (by omega)]
              by_cases e : x = 198
              · subst e; rw [hfr8 k (by omega) (by omega)]; exact hF 198 k hx hy
              · rw [hfr x e (by omega)]; exact hF x k hx hy
          have m171 : ∀ g2 : bg_E, s = 1 → (∀ x, ¬ x = 198 → ¬ x = 211 → g2 x = g1 x) → (∀ k, ¬ k = 19 → g2 198 k = g1 198 k) → thrM g2 (TTn P i) → bg_g κ y 171 [some (.inr 198), some (.inl a), some (.inl b), some (.inl c), some (.inl (i : Int)), some (.inl (j : Int)), some (.inl l6), some (.inl l7), some (.inl l8), some (.inl s)] [] g2 := by
            intro g2 hs1 hfr hfr8 hth
            have e20 : g2 198 20 = g1 198 20 := hfr8 20 (by omega)
            refine bg_aload0 (pc := 171) X1 dX7_matches_171 ?_
            refine bg_dup (pc := 172) X1 dX7_matches_172 ?_
            refine bo_getI (pc := 173) X1 dX7_matches_173 fX7_169 (by first | assumption | rfl) rfl ?_
            rw [e20]
            refine bg_iconst (pc := 176) X1 dX7_matches_176 (by decide) ?_
            refine bg_iadd (pc := 177) X1 dX7_matches_177 (by omega) ?_
            refine bo_putI (pc := 178) X1 dX7_matches_178 fX7_169 (by first | assumption | rfl) rfl ?_
            refine bg_iload4 (pc := 181) X1 dX7_matches_181 ?_
            refine bg_istore6 (pc := 183) X1 dX7_matches_183 ?_
            refine bg_iload5 (pc := 185) X1 dX7_matches_185 ?_
            refine bg_istore7 (pc := 187) X1 dX7_matches_187 ?_
            refine bg_iconst (pc := 189) X1 dX7_matches_189 (by decide) ?_
            refine bg_istore8 (pc := 190) X1 dX7_matches_190 ?_
            refine bg_goto (pc := 192) X1 (tgt := 206) dX7_matches_192 (by decide) ?_
            exact mat _ hs1 (fun x h1 h2 => by rw [bg_up_ne h1]; exact hfr x h1 h2) (fun k h1 h2 => by rw [up_k h2]; exact hfr8 k h1) (hth.cg (by rw [up_k (by decide)]) (by rw [bg_up_ne (by decide)])) (by rw [up_eq])
          obtain ⟨t, ht⟩ : ∃ t, t = (TTn P l6.toNat).length := ⟨_, rfl⟩
          rw [← ht] at W10 tln
          have dA := sq_dep ok ha I1'
          have dB := sq_dep ok hb I2'
          refine bg_aload0 (pc := 64) X1 dX7_matches_64 ?_
          refine bg_iload1 (pc := 65) X1 dX7_matches_65 ?_
          refine bg_iload4 (pc := 66) X1 dX7_matches_66 ?_
          refine bg_iload2 (pc := 68) X1 dX7_matches_68 ?_
          refine bg_iload5 (pc := 69) X1 dX7_matches_69 ?_
          refine bo_V4i (pc := 71) X1 (c_X7_thingAt hS1 ok ha hb (by omega) (by omega) hTm (by rw [efb]; exact h0)) vX7_thingAt lX7_172 rfl (by first | assumption | rfl) (by decide) dX7_matches_71 (by exact Nat.le_of_ble_eq_true rfl) ?_
          rintro _ _ ⟨h9, h8⟩
          obtain rfl := h9.symm
          obtain rfl := h8.symm
          clear h9 h8
          rw [efb]
          refine bg_istore9 (pc := 74) X1 dX7_matches_74 ?_
          refine bg_iload9 (pc := 76) X1 dX7_matches_76 ?_
          refine bg_iconst (pc := 78) X1 dX7_matches_78 (by decide) ?_
          refine bg_icmp_ne (pc := 79) X1 (tgt := 195) dX7_matches_79 (by decide) (fun u79 => ?_) (fun u79 => ?_)
          · refine bg_iload8 (pc := 195) X1 dX7_matches_195 ?_
            refine bg_iconst (pc := 197) X1 dX7_matches_197 (by decide) ?_
            refine bg_iload9 (pc := 198) X1 dX7_matches_198 ?_
            refine bg_iconst (pc := 200) X1 dX7_matches_200 (by decide) ?_
            refine bg_isub (pc := 201) X1 dX7_matches_201 (by omega) ?_
            refine bg_ishl (pc := 202) X1 dX7_matches_202 ?_
            refine bg_ior (pc := 203) X1 dX7_matches_203 ?_
            refine bg_istore8 (pc := 204) X1 dX7_matches_204 ?_
            exact oth1 _ rfl u79
          · refine bg_aload0 (pc := 82) X1 dX7_matches_82 ?_
            refine bo_getI (pc := 83) X1 dX7_matches_83 fX7_169 (by first | assumption | rfl) rfl ?_
            refine bg_if_le (pc := 86) X1 (tgt := 171) dX7_matches_86 (by decide) (fun u86 => ?_) (fun u86 => ?_)
            · have h171 := m171 g1 u79 (fun x _ _ => rfl) (fun k _ => rfl) (by rw [show TTn P i = TTn P l6.toNat by rw [TTn_first (by omega), show l6 = -1 by omega]; rfl]; exact W1)
              first
              | exact h171
              | (refine m171 _ u79 (fun x h1 h2 => by rw [bg_up_ne h1, bg_up_ne h2, bg_up_ne h2, bg_up_ne h2]) (fun k h1 => by rw [up_k h1, up_a (by decide), up_a (by decide), up_a (by decide)]) ?_
                 rw [hT9]
                 refine W1.add ht (by rw [up_eq]) (fun k hk => ?_) ?_ ?_ ?_
                 · rw [up_a (by decide), up_k (by omega), up_k (by omega), up_k (by omega)]
                 · rw [up_a (by decide), up_k (by omega), up_k (by omega), up_eq]
                 · rw [up_a (by decide), up_k (by omega), up_eq]
                   show _ = TH P l6.toNat
                   unfold TH
                   rw [hN, Int.toNat_natCast, hq.2.2.2.1, Int.toNat_natCast, ← v1, eA, eB]
                 · rw [up_a (by decide), up_eq, v4]
                   show _ = RS P l6.toNat
                   unfold RS flgs
                   rw [hN, Int.toNat_natCast, hq.2.2.2.1, Int.toNat_natCast, show ((l6.toNat : Nat) : Int) = l6 by omega])
            · have h6 : 0 ≤ l6 := by omega
              obtain ⟨v1, v2, v3, v4⟩ := W4 h6
              have hq := n1 u79
              have hg1 := go1 u79
              obtain ⟨hN, hT9⟩ := TTn_next (P := P) (i := i) (by omega) hq.2.2.1 (by rw [← W3]; exact h6)
              rw [← W3] at hN hT9
              have dA2 := sq_dep ok ha (n := l6.toNat) (by omega)
              have dB2 := sq_dep ok hb (n := l7.toNat) (by omega)
              have hS2 : ∀ (k : Nat) (v : Int), rowR ((bg_up g1 211 k v) 199) S := fun k v => by rw [bg_up_ne (by omega)]; exact hS1
              refine bg_aload0 (pc := 89) X1 dX7_matches_89 ?_
              refine bo_getR (pc := 90) X1 dX7_matches_90 fX7_46 (by first | assumption | rfl) rfl (by first | assumption | rfl) ?_
              refine bg_iconst (pc := 93) X1 dX7_matches_93 (by decide) ?_
              refine bg_aload0 (pc := 94) X1 dX7_matches_94 ?_
              refine bo_getI (pc := 95) X1 dX7_matches_95 fX7_166 (by first | assumption | rfl) rfl ?_
              rw [W10]
              refine bg_imul (pc := 98) X1 dX7_matches_98 (by omega) ?_
              refine bg_iload6 (pc := 99) X1 dX7_matches_99 ?_
              refine bo_iastore (pc := 101) X1 dX7_matches_101 (by first | assumption | rfl) (by omega) ?_
              rw [show (3 * (t : Int)).toNat = 3 * t by omega]
              refine bg_aload0 (pc := 102) X1 dX7_matches_102 ?_
              refine bo_getR (pc := 103) X1 dX7_matches_103 fX7_46 (by first | assumption | rfl) rfl (by first | assumption | rfl) ?_
              refine bg_iconst (pc := 106) X1 dX7_matches_106 (by decide) ?_
              refine bg_aload0 (pc := 107) X1 dX7_matches_107 ?_
              refine bo_getI (pc := 108) X1 dX7_matches_108 fX7_166 (by first | assumption | rfl) rfl ?_
              rw [up_a (by decide), W10]
              refine bg_imul (pc := 111) X1 dX7_matches_111 (by omega) ?_
              refine bg_iconst (pc := 112) X1 dX7_matches_112 (by decide) ?_
              refine bg_iadd (pc := 113) X1 dX7_matches_113 (by omega) ?_
              refine bg_aload0 (pc := 114) X1 dX7_matches_114 ?_
              refine bg_iload1 (pc := 115) X1 dX7_matches_115 ?_
              refine bg_iload4 (pc := 116) X1 dX7_matches_116 ?_
              refine bo_V2i (pc := 118) X1 (c_X7_depth (hS2 _ _) ok ha (by omega)) vX7_depth lX7_74 rfl (by first | assumption | rfl) (by decide) dX7_matches_118 (by exact Nat.le_of_ble_eq_true rfl) ?_
              rintro _ _ ⟨h9, h8⟩
              obtain rfl := h9.symm
              obtain rfl := h8.symm
              clear h9 h8
              rw [Int.toNat_natCast]
              refine bg_aload0 (pc := 121) X1 dX7_matches_121 ?_
              refine bg_iload1 (pc := 122) X1 dX7_matches_122 ?_
              refine bg_iload6 (pc := 123) X1 dX7_matches_123 ?_
              refine bo_V2i (pc := 125) X1 (c_X7_depth (hS2 _ _) ok ha (by omega)) vX7_depth lX7_74 rfl (by first | assumption | rfl) (by decide) dX7_matches_125 (by exact Nat.le_of_ble_eq_true rfl) ?_
              rintro _ _ ⟨h9, h8⟩
              obtain rfl := h9.symm
              obtain rfl := h8.symm
              clear h9 h8
              refine bg_isub (pc := 128) X1 dX7_matches_128 (by omega) ?_
              refine bg_aload0 (pc := 129) X1 dX7_matches_129 ?_
              refine bg_iload2 (pc := 130) X1 dX7_matches_130 ?_
              refine bg_iload5 (pc := 131) X1 dX7_matches_131 ?_
              refine bo_V2i (pc := 133) X1 (c_X7_depth (hS2 _ _) ok hb (by omega)) vX7_depth lX7_74 rfl (by first | assumption | rfl) (by decide) dX7_matches_133 (by exact Nat.le_of_ble_eq_true rfl) ?_
              rintro _ _ ⟨h9, h8⟩
              obtain rfl := h9.symm
              obtain rfl := h8.symm
              clear h9 h8
              rw [Int.toNat_natCast]
              refine bg_aload0 (pc := 136) X1 dX7_matches_136 ?_
              refine bg_iload2 (pc := 137) X1 dX7_matches_137 ?_
              refine bg_iload7 (pc := 138) X1 dX7_matches_138 ?_
              refine bo_V2i (pc := 140) X1 (c_X7_depth (hS2 _ _) ok hb (by omega)) vX7_depth lX7_74 rfl (by first | assumption | rfl) (by decide) dX7_matches_140 (by exact Nat.le_of_ble_eq_true rfl) ?_
              rintro _ _ ⟨h9, h8⟩
              obtain rfl := h9.symm
              obtain rfl := h8.symm
              clear h9 h8
              refine bg_isub (pc := 143) X1 dX7_matches_143 (by omega) ?_
              refine bg_isub (pc := 144) X1 dX7_matches_144 (by omega) ?_
              refine bo_iastore (pc := 145) X1 dX7_matches_145 (by first | assumption | rfl) (by omega) ?_
              rw [show (3 * (t : Int) + 1).toNat = 3 * t + 1 by omega]
              refine bg_aload0 (pc := 146) X1 dX7_matches_146 ?_
              refine bo_getR (pc := 147) X1 dX7_matches_147 fX7_46 (by first | assumption | rfl) rfl (by first | assumption | rfl) ?_
              refine bg_iconst (pc := 150) X1 dX7_matches_150 (by decide) ?_
              refine bg_aload0 (pc := 151) X1 dX7_matches_151 ?_
              refine bo_getI (pc := 152) X1 dX7_matches_152 fX7_166 (by first | assumption | rfl) rfl ?_
              rw [up_a (by decide), up_a (by decide), W10]
              refine bg_imul (pc := 155) X1 dX7_matches_155 (by omega) ?_
              refine bg_iconst (pc := 156) X1 dX7_matches_156 (by decide) ?_
              refine bg_iadd (pc := 157) X1 dX7_matches_157 (by omega) ?_
              refine bg_iload8 (pc := 158) X1 dX7_matches_158 ?_
              refine bo_iastore (pc := 160) X1 dX7_matches_160 (by first | assumption | rfl) (by omega) ?_
              rw [show (3 * (t : Int) + 2).toNat = 3 * t + 2 by omega]
              refine bg_aload0 (pc := 161) X1 dX7_matches_161 ?_
              refine bg_dup (pc := 162) X1 dX7_matches_162 ?_
              refine bo_getI (pc := 163) X1 dX7_matches_163 fX7_166 (by first | assumption | rfl) rfl ?_
              rw [up_a (by decide), up_a (by decide), up_a (by decide), W10]
              refine bg_iconst (pc := 166) X1 dX7_matches_166 (by decide) ?_
              refine bg_iadd (pc := 167) X1 dX7_matches_167 (by omega) ?_
              refine bo_putI (pc := 168) X1 dX7_matches_168 fX7_166 (by first | assumption | rfl) rfl ?_
              first
              | exact h171
              | (refine m171 _ u79 (fun x h1 h2 => by rw [bg_up_ne h1, bg_up_ne h2, bg_up_ne h2, bg_up_ne h2]) (fun k h1 => by rw [up_k h1, up_a (by decide), up_a (by decide), up_a (by decide)]) ?_
                 rw [hT9]
                 refine W1.add ht (by rw [up_eq]) (fun k hk => ?_) ?_ ?_ ?_
                 · rw [up_a (by decide), up_k (by omega), up_k (by omega), up_k (by omega)]
                 · rw [up_a (by decide), up_k (by omega), up_k (by omega), up_eq]
                 · rw [up_a (by decide), up_k (by omega), up_eq]
                   show _ = TH P l6.toNat
                   unfold TH
                   rw [hN, Int.toNat_natCast, hq.2.2.2.1, Int.toNat_natCast, ← v1, eA, eB]
                 · rw [up_a (by decide), up_eq, v4]
                   show _ = RS P l6.toNat
                   unfold RS flgs
                   rw [hN, Int.toNat_natCast, hq.2.2.2.1, Int.toNat_natCast, show ((l6.toNat : Nat) : Int) = l6 by omega])
        rw [eA] at I1 hgo
        rw [eB] at I2 hgo
        refine bg_iload3 (pc := 32) X1 dX7_matches_32 ?_
        refine bg_if_lt (pc := 33) X1 (tgt := 315) dX7_matches_33 (by decide) (fun u33 => ?_) (fun u33 => ?_)
        · exfalso; omega
        · refine bg_iload4 (pc := 36) X1 dX7_matches_36 ?_
          refine bg_aload0 (pc := 38) X1 dX7_matches_38 ?_
          refine bo_getR (pc := 39) X1 dX7_matches_39 fX7_7 (by first | assumption | rfl) rfl (by first | assumption | rfl) ?_
          refine bg_bipush (pc := 42) X1 dX7_matches_42 rfl (by decide) ?_
          refine bg_iload1 (pc := 44) X1 dX7_matches_44 ?_
          refine bg_iadd (pc := 45) X1 dX7_matches_45 (by omega) ?_
          refine bo_iaload (pc := 46) X1 dX7_matches_46 (by first | assumption | rfl) (by omega) ?_
          rw [row_len hS1 ha]
          refine bg_icmp_lt (pc := 47) X1 (tgt := 64) dX7_matches_47 (by decide) (fun u47 => ?_) (fun u47 => ?_)
          · exact mid
          · refine bg_iload5 (pc := 50) X1 dX7_matches_50 ?_
            refine bg_aload0 (pc := 52) X1 dX7_matches_52 ?_
            refine bo_getR (pc := 53) X1 dX7_matches_53 fX7_7 (by first | assumption | rfl) rfl (by first | assumption | rfl) ?_
            refine bg_bipush (pc := 56) X1 dX7_matches_56 rfl (by decide) ?_
            refine bg_iload2 (pc := 58) X1 dX7_matches_58 ?_
            refine bg_iadd (pc := 59) X1 dX7_matches_59 (by omega) ?_
            refine bo_iaload (pc := 60) X1 dX7_matches_60 (by first | assumption | rfl) (by omega) ?_
            rw [row_len hS1 hb]
            refine bg_icmp_ge (pc := 61) X1 (tgt := 315) dX7_matches_61 (by decide) (fun u61 => ?_) (fun u61 => ?_)
            · exfalso; exact h0 (eS.trans (hend.mpr ⟨by rw [eA]; omega, by rw [eB]; omega⟩))
            · exact mid
  refine bg_aload0 (pc := 0) X1 dX7_matches_0 ?_
  refine bg_iload1 (pc := 1) X1 dX7_matches_1 ?_
  refine bg_iload2 (pc := 2) X1 dX7_matches_2 ?_
  refine bo_V2i (pc := 3) X1 (c_X7_fills hS ok ha hb) vX7_fills lX7_163 rfl (by first | assumption | rfl) (by decide) dX7_matches_3 (by exact Nat.le_of_ble_eq_true rfl) ?_
  rintro r3 g1 ⟨x1, x2, x3⟩
  rw [← hP] at x1 x2
  have hb0 := bw_B okP1 (i := 0) (j := 0) (Nat.zero_le _) (Nat.zero_le _)
  refine bg_istore3 (pc := 6) X1 dX7_matches_6 ?_
  refine bg_iconst (pc := 7) X1 dX7_matches_7 (by decide) ?_
  refine bg_istore4 (pc := 8) X1 dX7_matches_8 ?_
  refine bg_iconst (pc := 10) X1 dX7_matches_10 (by decide) ?_
  refine bg_istore5 (pc := 11) X1 dX7_matches_11 ?_
  refine bg_iconst (pc := 13) X1 dX7_matches_13 (by decide) ?_
  refine bg_istore6 (pc := 14) X1 dX7_matches_14 ?_
  refine bg_iconst (pc := 16) X1 dX7_matches_16 (by decide) ?_
  refine bg_istore7 (pc := 17) X1 dX7_matches_17 ?_
  refine bg_iconst (pc := 19) X1 dX7_matches_19 (by decide) ?_
  refine bg_istore8 (pc := 20) X1 dX7_matches_20 ?_
  refine bg_aload0 (pc := 22) X1 dX7_matches_22 ?_
  refine bg_iconst (pc := 23) X1 dX7_matches_23 (by decide) ?_
  refine bo_putI (pc := 24) X1 dX7_matches_24 fX7_166 (by first | assumption | rfl) rfl ?_
  refine bg_aload0 (pc := 27) X1 dX7_matches_27 ?_
  refine bg_iconst (pc := 28) X1 dX7_matches_28 (by decide) ?_
  refine bo_putI (pc := 29) X1 dX7_matches_29 fX7_169 (by first | assumption | rfl) rfl ?_
  refine loop 48 0 r3 (-1) (-1) 0 _ _ rfl (by omega) (by rw [bg_up_ne (by omega), bg_up_ne (by omega), x3 199 (by omega)]; exact hS) (fun x z hx hz => by rw [bg_up_ne (by omega), bg_up_ne (by omega)]; exact x2 x z hx hz) ⟨fun k hk => absurd hk (Nat.not_lt_zero _), fun k hk => absurd hk (Nat.not_lt_zero _)⟩ ⟨⟨by rw [up_k (by decide), up_eq]; rfl, fun t e h => ?_⟩, by rw [up_eq]; rfl, rfl, fun h => absurd h (by decide)⟩ (fun x k hx hy => ?_)
  · have h : ([] : List bm_T)[t]? = some e := h
    simp at h
  · unfold bg_up
    rw [if_neg (by omega), if_neg (by omega), x3 x (by omega)]
