/-! the law: its walk through a matching -/
def arrL (g : bg_E) (P : bm_P) (i j : Nat) : Prop := (∀ k, k < i → g 201 k = FA P k ∧ g 201 (12 + k) = nn (PA P k)) ∧ ∀ k, k < j → g 201 (6 + k) = FB P k ∧ g 201 (18 + k) = nn (PB P k)
def thrL (g : bg_E) (T : List bm_T) : Prop := g 201 43 = (T.length : Int) ∧ ∀ (t : Nat) (e : bm_T), T[t]? = some e → g 201 (24 + t) = e.1 ∧ g 201 (30 + t) = e.2.1 ∧ g 201 (36 + t) = e.2.2
def walL (g : bg_E) (P : bm_P) (i j : Nat) (l9 l10 l11 : Int) : Prop := thrL g (TTn P (lst (FA P) i).toNat) ∧ g 201 42 = cntF (FA P) 1 i ∧ (0 ≤ lst (FA P) i → l9 = lst (FA P) i ∧ l10 = PA P l9.toNat ∧ 0 ≤ l10 ∧ l10 < (j : Int) ∧ l11 = flgs P i j l9)
theorem thrL.cg {g g' : bg_E} {T : List bm_T} (h : thrL g T) (hl : T.length ≤ 6) (h1 : ∀ k, 24 ≤ k → k ≠ 42 → g' 201 k = g 201 k) : thrL g' T := by
  refine ⟨by rw [h1 43 (by omega) (by omega)]; exact h.1, fun t e ht => ?_⟩
  have h2 := (List.getElem?_eq_some_iff.mp ht).1
  rw [h1 _ (by omega) (by omega), h1 _ (by omega) (by omega), h1 _ (by omega) (by omega)]
  exact h.2 t e ht
theorem thrL.add {g g' : bg_E} {T : List bm_T} {e : bm_T} {t : Nat} (h : thrL g T) (ht : t = T.length) (hl : t ≤ 5) (h1 : g' 201 43 = (t : Int) + 1) (h2 : ∀ k, 24 ≤ k → ¬ k = 42 → ¬ k = 43 → ¬ k = 24 + t → ¬ k = 30 + t → ¬ k = 36 + t → g' 201 k = g 201 k) (h3 : g' 201 (24 + t) = e.1) (h4 : g' 201 (30 + t) = e.2.1) (h5 : g' 201 (36 + t) = e.2.2) : thrL g' (T ++ [e]) := by
  refine ⟨by rw [h1, List.length_append, ht]; simp, fun u d hd => ?_⟩
  rcases Nat.lt_or_ge u T.length with hu | hu
  · rw [List.getElem?_append_left hu] at hd
    rw [h2 _ (by omega) (by omega) (by omega) (by omega) (by omega) (by omega), h2 _ (by omega) (by omega) (by omega) (by omega) (by omega) (by omega), h2 _ (by omega) (by omega) (by omega) (by omega) (by omega) (by omega)]
    exact h.2 u d hd
  · rw [List.getElem?_append_right hu] at hd
    by_cases hz : u = T.length
    · rw [hz, Nat.sub_self] at hd
      have hd : e = d := by simpa using hd
      rw [hz, ← ht, ← hd]
      exact ⟨h3, h4, h5⟩
    · rw [show u - T.length = (u - T.length - 1) + 1 by omega] at hd
      simp at hd
/-- what the walk leaves -/
def matL (g : bg_E) (P : bm_P) : Prop := arrL g P (pA P).length (pB P).length ∧ thrL g (TT P) ∧ g 201 42 = cntF (FA P) 1 (pA P).length
theorem nnM : nn (-1) = -1000009 := rfl
theorem nnN (k : Nat) : nn (k : Int) = (k : Int) := if_neg (by omega)
theorem c_L_walk {y : bg_Y} {g : bg_E} {a b : Int} {S : bm_S} (hS : rwR g S) (ok : staOK S) (h6 : len6 S) (ha : isHo a) (hb : isHo b) : bg_Sv y 3 mL_walk [.inr 198, .inr 199, .inl a, .inl b, .inr 200, .inr 201] g (fun g' => matL g' (mq S a b) ∧ g' 200 0 = bw (mq S a b) 0 0 ∧ frR 200 202 g g') := by
  have h6' := h6
  have lA := sq_6 h6 ha
  have lB := sq_6 h6 hb
  have okP1 := mq_ok ok ha hb
  obtain ⟨P, hP⟩ : ∃ P, P = mq S a b := ⟨_, rfl⟩
  have eA : pA P = sq S a := by rw [hP]; rfl
  have eB : pB P = sq S b := by rw [hP]; rfl
  rw [← hP] at okP1
  rw [← hP]
  refine bg_enter pnL (Nat.le_of_ble_eq_true rfl) (fun κ X hR hg => ?_)
  have X1 : bg_X κ y cL_walk RL 3 0 0 := X.1
  have hg : ∀ a k, R32 (g a k) := hg
  show bg_g κ y 0 [some (.inr 198), some (.inr 199), some (.inl a), some (.inl b), some (.inr 200), some (.inr 201), none, none, none, none, none, none, none, none, none] [] g
  have tail : ∀ (s c l9 l10 l11 : Int) (l13 l14 : Option bg_V) (i j : Nat) (g1 : bg_E), rwR g1 S → (1 ≤ s ∧ s ≤ 4) → i ≤ (pA P).length → j ≤ (pB P).length → (s = 1 → i < (pA P).length ∧ j < (pB P).length ∧ FA P i = 1 ∧ PA P i = (j : Int) ∧ FB P j = 1 ∧ PB P j = (i : Int)) → (s = 2 → i < (pA P).length ∧ FA P i = 2 ∧ PA P i = -1) → (s = 3 → j < (pB P).length ∧ FB P j = 3 ∧ PB P j = rep P i j ∧ 0 ≤ rep P i j) → (s = 4 → j < (pB P).length ∧ FB P j = 4 ∧ PB P j = -1) → arrL g1 P i j → (∀ (g2 : bg_E), (∀ x, ¬ x = 201 → g2 x = g1 x) → (∀ k, 24 ≤ k → g2 201 k = g1 201 k) → arrL g2 P (if s < 3 then i + 1 else i) (if s = 2 then j else j + 1) → bg_g κ y 38 [some (.inr 198), some (.inr 199), some (.inl a), some (.inl b), some (.inr 200), some (.inr 201), some (.inl c), some (.inl ((if s < 3 then i + 1 else i : Nat) : Int)), some (.inl ((if s = 2 then j else j + 1 : Nat) : Int)), some (.inl l9), some (.inl l10), some (.inl l11), some (.inl s), l13, l14] [] g2) → bg_g κ y 307 [some (.inr 198), some (.inr 199), some (.inl a), some (.inl b), some (.inr 200), some (.inr 201), some (.inl c), some (.inl (i : Int)), some (.inl (j : Int)), some (.inl l9), some (.inl l10), some (.inl l11), some (.inl s), l13, l14] [] g1 := by
    intro s c l9 l10 l11 l13 l14 i j g1 hS1 hs hi hj k1 k2 k3 k4 hA kk
    rw [eA] at hi k1 k2
    rw [eB] at hj k1 k3 k4
    have ei : ((i : Nat) : Int).toNat = i := Int.toNat_natCast _
    have ej : ((j : Nat) : Int).toNat = j := Int.toNat_natCast _
    have e6 : (6 + (j : Int)).toNat = 6 + j := by omega
    have e18 : (18 + (j : Int)).toNat = 18 + j := by omega
    have e12 : (12 + (i : Int)).toNat = 12 + i := by omega
    have hc : s = 1 ∨ s = 2 ∨ s = 3 ∨ s = 4 := by omega
    rcases hc with rfl | rfl | rfl | rfl
    · obtain ⟨q1, q2, q3, q4, q5, q6⟩ := k1 rfl
      refine bg_iload12 (pc := 307) X1 dL_walk_307 ?_
      refine bg_iconst (pc := 309) X1 dL_walk_309 (by decide) ?_
      refine bg_icmp_eq (pc := 310) X1 (tgt := 372) dL_walk_310 (by decide) (fun u310 => ?_) (fun u310 => ?_)
      · exfalso; omega
      · refine bg_aload5 (pc := 313) X1 dL_walk_313 ?_
        refine bg_bipush (pc := 315) X1 dL_walk_315 rfl (by decide) ?_
        refine bg_iload8 (pc := 317) X1 dL_walk_317 ?_
        refine bg_iadd (pc := 319) X1 dL_walk_319 (by omega) ?_
        refine bg_iload12 (pc := 320) X1 dL_walk_320 ?_
        refine bq_iastore (pc := 322) X1 dL_walk_322 (by first | assumption | rfl) (by omega) ?_
        rw [e6]
        refine bg_aload5 (pc := 323) X1 dL_walk_323 ?_
        refine bg_bipush (pc := 325) X1 dL_walk_325 rfl (by decide) ?_
        refine bg_iload8 (pc := 327) X1 dL_walk_327 ?_
        refine bg_iadd (pc := 329) X1 dL_walk_329 (by omega) ?_
        refine bg_iload12 (pc := 330) X1 dL_walk_330 ?_
        refine bg_iconst (pc := 332) X1 dL_walk_332 (by decide) ?_
        refine bg_icmp_ne (pc := 333) X1 (tgt := 341) dL_walk_333 (by decide) (fun u333 => ?_) (fun u333 => ?_)
        · exfalso; omega
        · refine bg_iload7 (pc := 336) X1 dL_walk_336 ?_
          refine bg_goto (pc := 338) X1 (tgt := 371) dL_walk_338 (by decide) ?_
          refine bq_iastore (pc := 371) X1 dL_walk_371 (by first | assumption | rfl) (by omega) ?_
          rw [e18]
          refine bg_iload12 (pc := 372) X1 dL_walk_372 ?_
          refine bg_iconst (pc := 374) X1 dL_walk_374 (by decide) ?_
          refine bg_icmp_ge (pc := 375) X1 (tgt := 409) dL_walk_375 (by decide) (fun u375 => ?_) (fun u375 => ?_)
          · exfalso; omega
          · refine bg_aload5 (pc := 378) X1 dL_walk_378 ?_
            refine bg_iload7 (pc := 380) X1 dL_walk_380 ?_
            refine bg_iload12 (pc := 382) X1 dL_walk_382 ?_
            refine bq_iastore (pc := 384) X1 dL_walk_384 (by first | assumption | rfl) (by omega) ?_
            rw [ei]
            refine bg_aload5 (pc := 385) X1 dL_walk_385 ?_
            refine bg_bipush (pc := 387) X1 dL_walk_387 rfl (by decide) ?_
            refine bg_iload7 (pc := 389) X1 dL_walk_389 ?_
            refine bg_iadd (pc := 391) X1 dL_walk_391 (by omega) ?_
            refine bg_iload12 (pc := 392) X1 dL_walk_392 ?_
            refine bg_iconst (pc := 394) X1 dL_walk_394 (by decide) ?_
            refine bg_icmp_ne (pc := 395) X1 (tgt := 403) dL_walk_395 (by decide) (fun u395 => ?_) (fun u395 => ?_)
            · exfalso; omega
            · refine bg_iload8 (pc := 398) X1 dL_walk_398 ?_
              refine bg_goto (pc := 400) X1 (tgt := 405) dL_walk_400 (by decide) ?_
              refine bq_iastore (pc := 405) X1 dL_walk_405 (by first | assumption | rfl) (by omega) ?_
              rw [e12]
              refine bg_iinc7 (pc := 406) X1 dL_walk_406 (by omega) ?_
              refine bg_iload8 (pc := 409) X1 dL_walk_409 ?_
              refine bg_iload12 (pc := 411) X1 dL_walk_411 ?_
              refine bg_iconst (pc := 413) X1 dL_walk_413 (by decide) ?_
              refine bg_icmp_ne (pc := 414) X1 (tgt := 421) dL_walk_414 (by decide) (fun u414 => ?_) (fun u414 => ?_)
              · refine bg_iconst (pc := 421) X1 dL_walk_421 (by decide) ?_
                refine bg_iadd (pc := 422) X1 dL_walk_422 (by omega) ?_
                refine bg_istore8 (pc := 423) X1 dL_walk_423 ?_
                refine bg_goto (pc := 425) X1 (tgt := 38) dL_walk_425 (by decide) ?_
                refine kk _ (fun x hx => by rw [bg_up_ne hx, bg_up_ne hx, bg_up_ne hx, bg_up_ne hx]) (fun k hk => by rw [up_k (by omega), up_k (by omega), up_k (by omega), up_k (by omega)]) ⟨fun k hk => ?_, fun k hk => ?_⟩
                · have hk : k < i + 1 := hk
                  by_cases e : k = i
                  · subst e
                    rw [up_k (by omega), up_eq, up_eq, q3, q4, nnN]; exact ⟨rfl, rfl⟩
                  · have := hA.1 k (by omega)
                    rw [up_k (by omega), up_k (by omega), up_k (by omega), up_k (by omega), up_k (by omega), up_k (by omega), up_k (by omega), up_k (by omega)]; exact this
                · have hk : k < j + 1 := hk
                  by_cases e : k = j
                  · subst e
                    rw [up_k (by omega), up_k (by omega), up_k (by omega), up_eq, up_k (by omega), up_k (by omega), up_eq, q5, q6, nnN]; exact ⟨rfl, rfl⟩
                  · have := hA.2 k (by omega)
                    rw [up_k (by omega), up_k (by omega), up_k (by omega), up_k (by omega), up_k (by omega), up_k (by omega), up_k (by omega), up_k (by omega)]; exact this
              · exfalso; omega
    · obtain ⟨q1, q2, q3⟩ := k2 rfl
      refine bg_iload12 (pc := 307) X1 dL_walk_307 ?_
      refine bg_iconst (pc := 309) X1 dL_walk_309 (by decide) ?_
      refine bg_icmp_eq (pc := 310) X1 (tgt := 372) dL_walk_310 (by decide) (fun u310 => ?_) (fun u310 => ?_)
      · refine bg_iload12 (pc := 372) X1 dL_walk_372 ?_
        refine bg_iconst (pc := 374) X1 dL_walk_374 (by decide) ?_
        refine bg_icmp_ge (pc := 375) X1 (tgt := 409) dL_walk_375 (by decide) (fun u375 => ?_) (fun u375 => ?_)
        · exfalso; omega
        · refine bg_aload5 (pc := 378) X1 dL_walk_378 ?_
          refine bg_iload7 (pc := 380) X1 dL_walk_380 ?_
          refine bg_iload12 (pc := 382) X1 dL_walk_382 ?_
          refine bq_iastore (pc := 384) X1 dL_walk_384 (by first | assumption | rfl) (by omega) ?_
          rw [ei]
          refine bg_aload5 (pc := 385) X1 dL_walk_385 ?_
          refine bg_bipush (pc := 387) X1 dL_walk_387 rfl (by decide) ?_
          refine bg_iload7 (pc := 389) X1 dL_walk_389 ?_
          refine bg_iadd (pc := 391) X1 dL_walk_391 (by omega) ?_
          refine bg_iload12 (pc := 392) X1 dL_walk_392 ?_
          refine bg_iconst (pc := 394) X1 dL_walk_394 (by decide) ?_
          refine bg_icmp_ne (pc := 395) X1 (tgt := 403) dL_walk_395 (by decide) (fun u395 => ?_) (fun u395 => ?_)
          · refine bg_ldc (pc := 403) X1 dL_walk_403 kL_36 (by decide) ?_
            refine bq_iastore (pc := 405) X1 dL_walk_405 (by first | assumption | rfl) (by omega) ?_
            rw [e12]
            refine bg_iinc7 (pc := 406) X1 dL_walk_406 (by omega) ?_
            refine bg_iload8 (pc := 409) X1 dL_walk_409 ?_
            refine bg_iload12 (pc := 411) X1 dL_walk_411 ?_
            refine bg_iconst (pc := 413) X1 dL_walk_413 (by decide) ?_
            refine bg_icmp_ne (pc := 414) X1 (tgt := 421) dL_walk_414 (by decide) (fun u414 => ?_) (fun u414 => ?_)
            · exfalso; omega
            · refine bg_iconst (pc := 417) X1 dL_walk_417 (by decide) ?_
              refine bg_goto (pc := 418) X1 (tgt := 422) dL_walk_418 (by decide) ?_
              refine bg_iadd (pc := 422) X1 dL_walk_422 (by omega) ?_
              rw [Int.add_zero]
              refine bg_istore8 (pc := 423) X1 dL_walk_423 ?_
              refine bg_goto (pc := 425) X1 (tgt := 38) dL_walk_425 (by decide) ?_
              refine kk _ (fun x hx => by rw [bg_up_ne hx, bg_up_ne hx]) (fun k hk => by rw [up_k (by omega), up_k (by omega)]) ⟨fun k hk => ?_, fun k hk => ?_⟩
              · have hk : k < i + 1 := hk
                by_cases e : k = i
                · subst e
                  rw [up_k (by omega), up_eq, up_eq, q2, q3, nnM]; exact ⟨rfl, rfl⟩
                · have := hA.1 k (by omega)
                  rw [up_k (by omega), up_k (by omega), up_k (by omega), up_k (by omega)]; exact this
              · have hk : k < j := hk
                have := hA.2 k (by omega)
                rw [up_k (by omega), up_k (by omega), up_k (by omega), up_k (by omega)]; exact this
          · exfalso; omega
      · exfalso; omega
    · obtain ⟨q1, q2, q3, q4⟩ := k3 rfl
      have er : rp (sq S a) (mrk (sq S b) j) (S.1 3).toNat i = rep P i j := by rw [hP]; rfl
      refine bg_iload12 (pc := 307) X1 dL_walk_307 ?_
      refine bg_iconst (pc := 309) X1 dL_walk_309 (by decide) ?_
      refine bg_icmp_eq (pc := 310) X1 (tgt := 372) dL_walk_310 (by decide) (fun u310 => ?_) (fun u310 => ?_)
      · exfalso; omega
      · refine bg_aload5 (pc := 313) X1 dL_walk_313 ?_
        refine bg_bipush (pc := 315) X1 dL_walk_315 rfl (by decide) ?_
        refine bg_iload8 (pc := 317) X1 dL_walk_317 ?_
        refine bg_iadd (pc := 319) X1 dL_walk_319 (by omega) ?_
        refine bg_iload12 (pc := 320) X1 dL_walk_320 ?_
        refine bq_iastore (pc := 322) X1 dL_walk_322 (by first | assumption | rfl) (by omega) ?_
        rw [e6]
        refine bg_aload5 (pc := 323) X1 dL_walk_323 ?_
        refine bg_bipush (pc := 325) X1 dL_walk_325 rfl (by decide) ?_
        refine bg_iload8 (pc := 327) X1 dL_walk_327 ?_
        refine bg_iadd (pc := 329) X1 dL_walk_329 (by omega) ?_
        refine bg_iload12 (pc := 330) X1 dL_walk_330 ?_
        refine bg_iconst (pc := 332) X1 dL_walk_332 (by decide) ?_
        refine bg_icmp_ne (pc := 333) X1 (tgt := 341) dL_walk_333 (by decide) (fun u333 => ?_) (fun u333 => ?_)
        · refine bg_iload12 (pc := 341) X1 dL_walk_341 ?_
          refine bg_iconst (pc := 343) X1 dL_walk_343 (by decide) ?_
          refine bg_icmp_ne (pc := 344) X1 (tgt := 369) dL_walk_344 (by decide) (fun u344 => ?_) (fun u344 => ?_)
          · exfalso; omega
          · refine bg_aload0 (pc := 347) X1 dL_walk_347 ?_
            refine bg_aload1 (pc := 348) X1 dL_walk_348 ?_
            refine bg_iload2 (pc := 349) X1 dL_walk_349 ?_
            refine bg_iload7 (pc := 350) X1 dL_walk_350 ?_
            refine bg_aload1 (pc := 352) X1 dL_walk_352 ?_
            refine bg_bipush (pc := 353) X1 dL_walk_353 rfl (by decide) ?_
            refine bg_iload3 (pc := 355) X1 dL_walk_355 ?_
            refine bg_imul (pc := 356) X1 dL_walk_356 (by omega) ?_
            refine bg_iconst (pc := 357) X1 dL_walk_357 (by decide) ?_
            refine bg_iload8 (pc := 358) X1 dL_walk_358 ?_
            refine bg_imul (pc := 360) X1 dL_walk_360 (by omega) ?_
            refine bg_iadd (pc := 361) X1 dL_walk_361 (by omega) ?_
            refine bq_iaload (pc := 362) X1 dL_walk_362 (by first | assumption | rfl) (by omega) ?_
            rw [up_a (by decide), rw_mrk hS1 hb ⟨by omega, by omega⟩, ej]
            refine bq_S5i (pc := 363) X1 (c_L_twin (S := S) (hS1.cg (by rw [bg_up_ne (by omega)]) (by rw [bg_up_ne (by omega)])) ok h6 ha ⟨by omega, by omega⟩) sL_twin lL_20 rfl (by decide) dL_walk_363 (by exact Nat.le_of_ble_eq_true rfl) (by decide) ?_
            rintro _ _ ⟨h9, h8⟩
            obtain rfl := h9.symm
            obtain rfl := h8.symm
            clear h9 h8
            rw [ei, er]
            refine bg_goto (pc := 366) X1 (tgt := 371) dL_walk_366 (by decide) ?_
            refine bq_iastore (pc := 371) X1 dL_walk_371 (by first | assumption | rfl) (by omega) ?_
            rw [e18]
            refine bg_iload12 (pc := 372) X1 dL_walk_372 ?_
            refine bg_iconst (pc := 374) X1 dL_walk_374 (by decide) ?_
            refine bg_icmp_ge (pc := 375) X1 (tgt := 409) dL_walk_375 (by decide) (fun u375 => ?_) (fun u375 => ?_)
            · refine bg_iload8 (pc := 409) X1 dL_walk_409 ?_
              refine bg_iload12 (pc := 411) X1 dL_walk_411 ?_
              refine bg_iconst (pc := 413) X1 dL_walk_413 (by decide) ?_
              refine bg_icmp_ne (pc := 414) X1 (tgt := 421) dL_walk_414 (by decide) (fun u414 => ?_) (fun u414 => ?_)
              · refine bg_iconst (pc := 421) X1 dL_walk_421 (by decide) ?_
                refine bg_iadd (pc := 422) X1 dL_walk_422 (by omega) ?_
                refine bg_istore8 (pc := 423) X1 dL_walk_423 ?_
                refine bg_goto (pc := 425) X1 (tgt := 38) dL_walk_425 (by decide) ?_
                refine kk _ (fun x hx => by rw [bg_up_ne hx, bg_up_ne hx]) (fun k hk => by rw [up_k (by omega), up_k (by omega)]) ⟨fun k hk => ?_, fun k hk => ?_⟩
                · have hk : k < i := hk
                  have := hA.1 k (by omega)
                  rw [up_k (by omega), up_k (by omega), up_k (by omega), up_k (by omega)]; exact this
                · have hk : k < j + 1 := hk
                  by_cases e : k = j
                  · subst e
                    rw [up_k (by omega), up_eq, up_eq, q2, q3]; exact ⟨rfl, (if_neg (by omega)).symm⟩
                  · have := hA.2 k (by omega)
                    rw [up_k (by omega), up_k (by omega), up_k (by omega), up_k (by omega)]; exact this
              · exfalso; omega
            · exfalso; omega
        · exfalso; omega
    · obtain ⟨q1, q2, q3⟩ := k4 rfl
      refine bg_iload12 (pc := 307) X1 dL_walk_307 ?_
      refine bg_iconst (pc := 309) X1 dL_walk_309 (by decide) ?_
      refine bg_icmp_eq (pc := 310) X1 (tgt := 372) dL_walk_310 (by decide) (fun u310 => ?_) (fun u310 => ?_)
      · exfalso; omega
      · refine bg_aload5 (pc := 313) X1 dL_walk_313 ?_
        refine bg_bipush (pc := 315) X1 dL_walk_315 rfl (by decide) ?_
        refine bg_iload8 (pc := 317) X1 dL_walk_317 ?_
        refine bg_iadd (pc := 319) X1 dL_walk_319 (by omega) ?_
        refine bg_iload12 (pc := 320) X1 dL_walk_320 ?_
        refine bq_iastore (pc := 322) X1 dL_walk_322 (by first | assumption | rfl) (by omega) ?_
        rw [e6]
        refine bg_aload5 (pc := 323) X1 dL_walk_323 ?_
        refine bg_bipush (pc := 325) X1 dL_walk_325 rfl (by decide) ?_
        refine bg_iload8 (pc := 327) X1 dL_walk_327 ?_
        refine bg_iadd (pc := 329) X1 dL_walk_329 (by omega) ?_
        refine bg_iload12 (pc := 330) X1 dL_walk_330 ?_
        refine bg_iconst (pc := 332) X1 dL_walk_332 (by decide) ?_
        refine bg_icmp_ne (pc := 333) X1 (tgt := 341) dL_walk_333 (by decide) (fun u333 => ?_) (fun u333 => ?_)
        · refine bg_iload12 (pc := 341) X1 dL_walk_341 ?_
          refine bg_iconst (pc := 343) X1 dL_walk_343 (by decide) ?_
          refine bg_icmp_ne (pc := 344) X1 (tgt := 369) dL_walk_344 (by decide) (fun u344 => ?_) (fun u344 => ?_)
          · refine bg_ldc (pc := 369) X1 dL_walk_369 kL_36 (by decide) ?_
            refine bq_iastore (pc := 371) X1 dL_walk_371 (by first | assumption | rfl) (by omega) ?_
            rw [e18]
            refine bg_iload12 (pc := 372) X1 dL_walk_372 ?_
            refine bg_iconst (pc := 374) X1 dL_walk_374 (by decide) ?_
            refine bg_icmp_ge (pc := 375) X1 (tgt := 409) dL_walk_375 (by decide) (fun u375 => ?_) (fun u375 => ?_)
            · refine bg_iload8 (pc := 409) X1 dL_walk_409 ?_
              refine bg_iload12 (pc := 411) X1 dL_walk_411 ?_
              refine bg_iconst (pc := 413) X1 dL_walk_413 (by decide) ?_
              refine bg_icmp_ne (pc := 414) X1 (tgt := 421) dL_walk_414 (by decide) (fun u414 => ?_) (fun u414 => ?_)
              · refine bg_iconst (pc := 421) X1 dL_walk_421 (by decide) ?_
                refine bg_iadd (pc := 422) X1 dL_walk_422 (by omega) ?_
                refine bg_istore8 (pc := 423) X1 dL_walk_423 ?_
                refine bg_goto (pc := 425) X1 (tgt := 38) dL_walk_425 (by decide) ?_
                refine kk _ (fun x hx => by rw [bg_up_ne hx, bg_up_ne hx]) (fun k hk => by rw [up_k (by omega), up_k (by omega)]) ⟨fun k hk => ?_, fun k hk => ?_⟩
                · have hk : k < i := hk
                  have := hA.1 k (by omega)
                  rw [up_k (by omega), up_k (by omega), up_k (by omega), up_k (by omega)]; exact this
                · have hk : k < j + 1 := hk
                  by_cases e : k = j
                  · subst e
                    rw [up_k (by omega), up_eq, up_eq, q2, q3, nnM]; exact ⟨rfl, rfl⟩
                  · have := hA.2 k (by omega)
                    rw [up_k (by omega), up_k (by omega), up_k (by omega), up_k (by omega)]; exact this
              · exfalso; omega
            · exfalso; omega
          · exfalso; omega
        · exfalso; omega
  have search : ∀ (n : Nat) (w c l9 l10 l11 : Int) (l14 : Option bg_V) (i j : Nat) (g1 : bg_E), rwR g1 S → i ≤ (sq S a).length → j ≤ (sq S b).length → (∀ x z : Nat, x ≤ (sq S a).length → z ≤ (sq S b).length → g1 200 (7 * x + z) = bw P x z) → 0 ≤ w → w + n + 1 = fbs P i j → (∀ l14 : Option bg_V, bg_g κ y 162 [some (.inr 198), some (.inr 199), some (.inl a), some (.inl b), some (.inr 200), some (.inr 201), some (.inl c), some (.inl (i : Int)), some (.inl (j : Int)), some (.inl l9), some (.inl l10), some (.inl l11), some (.inl (fbs P i j)), some (.inl 1), l14] [] g1) → bg_g κ y 70 [some (.inr 198), some (.inr 199), some (.inl a), some (.inl b), some (.inr 200), some (.inr 201), some (.inl c), some (.inl (i : Int)), some (.inl (j : Int)), some (.inl l9), some (.inl l10), some (.inl l11), some (.inl w), some (.inl 0), l14] [] g1 := by
    intro n
    induction n with
    | zero =>
      intro w c l9 l10 l11 l14 i j g1 hS1 hi hj hT h0 hw kk
      have iA : i ≤ (pA P).length := by rw [eA]; exact hi
      have jB : j ≤ (pB P).length := by rw [eB]; exact hj
      obtain ⟨hf1, hf2⟩ : (1 ≤ fbs P i j ∧ fbs P i j ≤ 4) ∧ best P (fbs P i j) i j := by
        rcases fbs_or (P := P) (i := i) (j := j) with h | h
        · omega
        · exact h
      have hb0 := bw_B okP1 iA jB
      have hT0 := hT i j hi hj
      have ew : fbs P i j = w + 1 := by omega
      rw [ew] at hf1 hf2 kk
      obtain ⟨hsc, hbs⟩ := hf2
      have h2 := sc_go okP1 (j := j) iA hsc
      have h3 := bw_B okP1 h2.2.1 (h2.2.2.2.1 jB)
      have h4 := h2.2.1
      have h5 := h2.2.2.2.1 jB
      have h7 := h2.2.2.2.2.1
      rw [eA] at h4
      rw [eB] at h5
      have hTn := hT _ _ h4 h5
      have n12 : w + 1 < 3 → ni (w + 1) i = i + 1 := fun h => if_pos (by omega)
      have n34 : 3 ≤ w + 1 → ni (w + 1) i = i := fun h => if_neg (by omega)
      have n2 : w + 1 = 2 → nj (w + 1) j = j := fun h => if_pos h
      have n134 : ¬ w + 1 = 2 → nj (w + 1) j = j + 1 := fun h => if_neg h
      have ei : ((i : Nat) : Int).toNat = i := Int.toNat_natCast _
      have ej : ((j : Nat) : Int).toNat = j := Int.toNat_natCast _
      have hv := scv_go hsc
      have h78 := h2.2.2.2.2.2.1
      have don : ∀ l14 : Option bg_V, bg_g κ y 70 [some (.inr 198), some (.inr 199), some (.inl a), some (.inl b), some (.inr 200), some (.inr 201), some (.inl c), some (.inl (i : Int)), some (.inl (j : Int)), some (.inl l9), some (.inl l10), some (.inl l11), some (.inl (w + 1)), some (.inl 1), l14] [] g1 := by
        intro l14
        refine bg_iload13 (pc := 70) X1 dL_walk_70 ?_
        refine bg_if_ne (pc := 72) X1 (tgt := 162) dL_walk_72 (by decide) (fun u72 => ?_) (fun u72 => ?_)
        · exact kk _
        · exfalso; omega
      generalize sc P (w + 1) i j = sv at *
      generalize ni (w + 1) i = x at *
      generalize nj (w + 1) j = z at *
      refine bg_iload13 (pc := 70) X1 dL_walk_70 ?_
      refine bg_if_ne (pc := 72) X1 (tgt := 162) dL_walk_72 (by decide) (fun u72 => ?_) (fun u72 => ?_)
      · exfalso; omega
      · refine bg_iinc12 (pc := 75) X1 dL_walk_75 (by omega) ?_
        refine bg_aload0 (pc := 78) X1 dL_walk_78 ?_
        refine bg_aload1 (pc := 79) X1 dL_walk_79 ?_
        refine bg_iload2 (pc := 80) X1 dL_walk_80 ?_
        refine bg_iload7 (pc := 81) X1 dL_walk_81 ?_
        refine bg_iload3 (pc := 83) X1 dL_walk_83 ?_
        refine bg_iload8 (pc := 84) X1 dL_walk_84 ?_
        refine bg_iload12 (pc := 86) X1 dL_walk_86 ?_
        refine bq_S7i (pc := 88) X1 (c_L_added hS1 ok h6 ha hb (⟨by omega, by omega⟩ : 0 ≤ (i : Int) ∧ (i : Int) ≤ _) (⟨by omega, by omega⟩ : 0 ≤ (j : Int) ∧ (j : Int) ≤ _) (by omega)) sL_added lL_24 rfl (by decide) dL_walk_88 (by exact Nat.le_of_ble_eq_true rfl) (by decide) ?_
        rintro _ _ ⟨h9, h8⟩
        obtain rfl := h9.symm
        obtain rfl := h8.symm
        clear h9 h8
        rw [ei, ej, ← hP, hv]
        refine bg_istore14 (pc := 91) X1 dL_walk_91 ?_
        refine bg_iload14 (pc := 93) X1 dL_walk_93 ?_
        refine bg_ldc (pc := 95) X1 dL_walk_95 kL_15 (by decide) ?_
        refine bg_icmp_ge (pc := 97) X1 (tgt := 156) dL_walk_97 (by decide) (fun u97 => ?_) (fun u97 => ?_)
        · exfalso; omega
        · refine bg_iload14 (pc := 100) X1 dL_walk_100 ?_
          refine bg_aload4 (pc := 102) X1 dL_walk_102 ?_
          refine bg_bipush (pc := 104) X1 dL_walk_104 rfl (by decide) ?_
          refine bg_iload7 (pc := 106) X1 dL_walk_106 ?_
          refine bg_iload12 (pc := 108) X1 dL_walk_108 ?_
          refine bg_iconst (pc := 110) X1 dL_walk_110 (by decide) ?_
          refine bg_icmp_ge (pc := 111) X1 (tgt := 118) dL_walk_111 (by decide) (fun u111 => ?_) (fun u111 => ?_)
          · refine bg_iconst (pc := 118) X1 dL_walk_118 (by decide) ?_
            refine bg_iadd (pc := 119) X1 dL_walk_119 (by omega) ?_
            refine bg_imul (pc := 120) X1 dL_walk_120 (by omega) ?_
            refine bg_iload8 (pc := 121) X1 dL_walk_121 ?_
            refine bg_iadd (pc := 123) X1 dL_walk_123 (by omega) ?_
            refine bg_iload12 (pc := 124) X1 dL_walk_124 ?_
            refine bg_iconst (pc := 126) X1 dL_walk_126 (by decide) ?_
            refine bg_icmp_ne (pc := 127) X1 (tgt := 134) dL_walk_127 (by decide) (fun u127 => ?_) (fun u127 => ?_)
            · refine bg_iconst (pc := 134) X1 dL_walk_134 (by decide) ?_
              refine bg_iadd (pc := 135) X1 dL_walk_135 (by omega) ?_
              refine bq_iaload (pc := 136) X1 dL_walk_136 (by first | assumption | rfl) (by omega) ?_
              first
              | rw [show (7 * ((i : Int) + 1) + (j : Int) + 1).toNat = 7 * x + z by omega, hTn]
              | rw [show (7 * ((i : Int) + 1) + (j : Int) + 0).toNat = 7 * x + z by omega, hTn]
              | rw [show (7 * ((i : Int) + 0) + (j : Int) + 1).toNat = 7 * x + z by omega, hTn]
              | rw [show (7 * ((i : Int) + 0) + (j : Int) + 0).toNat = 7 * x + z by omega, hTn]
              refine bg_iadd (pc := 137) X1 dL_walk_137 (by omega) ?_
              refine bg_aload4 (pc := 138) X1 dL_walk_138 ?_
              refine bg_bipush (pc := 140) X1 dL_walk_140 rfl (by decide) ?_
              refine bg_iload7 (pc := 142) X1 dL_walk_142 ?_
              refine bg_imul (pc := 144) X1 dL_walk_144 (by omega) ?_
              refine bg_iload8 (pc := 145) X1 dL_walk_145 ?_
              refine bg_iadd (pc := 147) X1 dL_walk_147 (by omega) ?_
              refine bq_iaload (pc := 148) X1 dL_walk_148 (by first | assumption | rfl) (by omega) ?_
              rw [show (7 * (i : Int) + (j : Int)).toNat = 7 * i + j by omega, hT0]
              refine bg_icmp_ne (pc := 149) X1 (tgt := 156) dL_walk_149 (by decide) (fun u149 => ?_) (fun u149 => ?_)
              · exact absurd hbs u149
              · refine bg_iconst (pc := 152) X1 dL_walk_152 (by decide) ?_
                refine bg_goto (pc := 153) X1 (tgt := 157) dL_walk_153 (by decide) ?_
                refine bg_istore13 (pc := 157) X1 dL_walk_157 ?_
                refine bg_goto (pc := 159) X1 (tgt := 70) dL_walk_159 (by decide) ?_
                exact don _
            · refine bg_iconst (pc := 130) X1 dL_walk_130 (by decide) ?_
              refine bg_goto (pc := 131) X1 (tgt := 135) dL_walk_131 (by decide) ?_
              refine bg_iadd (pc := 135) X1 dL_walk_135 (by omega) ?_
              refine bq_iaload (pc := 136) X1 dL_walk_136 (by first | assumption | rfl) (by omega) ?_
              first
              | rw [show (7 * ((i : Int) + 1) + (j : Int) + 1).toNat = 7 * x + z by omega, hTn]
              | rw [show (7 * ((i : Int) + 1) + (j : Int) + 0).toNat = 7 * x + z by omega, hTn]
              | rw [show (7 * ((i : Int) + 0) + (j : Int) + 1).toNat = 7 * x + z by omega, hTn]
              | rw [show (7 * ((i : Int) + 0) + (j : Int) + 0).toNat = 7 * x + z by omega, hTn]
              refine bg_iadd (pc := 137) X1 dL_walk_137 (by omega) ?_
              refine bg_aload4 (pc := 138) X1 dL_walk_138 ?_
              refine bg_bipush (pc := 140) X1 dL_walk_140 rfl (by decide) ?_
              refine bg_iload7 (pc := 142) X1 dL_walk_142 ?_
              refine bg_imul (pc := 144) X1 dL_walk_144 (by omega) ?_
              refine bg_iload8 (pc := 145) X1 dL_walk_145 ?_
              refine bg_iadd (pc := 147) X1 dL_walk_147 (by omega) ?_
              refine bq_iaload (pc := 148) X1 dL_walk_148 (by first | assumption | rfl) (by omega) ?_
              rw [show (7 * (i : Int) + (j : Int)).toNat = 7 * i + j by omega, hT0]
              refine bg_icmp_ne (pc := 149) X1 (tgt := 156) dL_walk_149 (by decide) (fun u149 => ?_) (fun u149 => ?_)
              · exact absurd hbs u149
              · refine bg_iconst (pc := 152) X1 dL_walk_152 (by decide) ?_
                refine bg_goto (pc := 153) X1 (tgt := 157) dL_walk_153 (by decide) ?_
                refine bg_istore13 (pc := 157) X1 dL_walk_157 ?_
                refine bg_goto (pc := 159) X1 (tgt := 70) dL_walk_159 (by decide) ?_
                exact don _
          · refine bg_iconst (pc := 114) X1 dL_walk_114 (by decide) ?_
            refine bg_goto (pc := 115) X1 (tgt := 119) dL_walk_115 (by decide) ?_
            refine bg_iadd (pc := 119) X1 dL_walk_119 (by omega) ?_
            refine bg_imul (pc := 120) X1 dL_walk_120 (by omega) ?_
            refine bg_iload8 (pc := 121) X1 dL_walk_121 ?_
            refine bg_iadd (pc := 123) X1 dL_walk_123 (by omega) ?_
            refine bg_iload12 (pc := 124) X1 dL_walk_124 ?_
            refine bg_iconst (pc := 126) X1 dL_walk_126 (by decide) ?_
            refine bg_icmp_ne (pc := 127) X1 (tgt := 134) dL_walk_127 (by decide) (fun u127 => ?_) (fun u127 => ?_)
            · refine bg_iconst (pc := 134) X1 dL_walk_134 (by decide) ?_
              refine bg_iadd (pc := 135) X1 dL_walk_135 (by omega) ?_
              refine bq_iaload (pc := 136) X1 dL_walk_136 (by first | assumption | rfl) (by omega) ?_
              first
              | rw [show (7 * ((i : Int) + 1) + (j : Int) + 1).toNat = 7 * x + z by omega, hTn]
              | rw [show (7 * ((i : Int) + 1) + (j : Int) + 0).toNat = 7 * x + z by omega, hTn]
              | rw [show (7 * ((i : Int) + 0) + (j : Int) + 1).toNat = 7 * x + z by omega, hTn]
              | rw [show (7 * ((i : Int) + 0) + (j : Int) + 0).toNat = 7 * x + z by omega, hTn]
              refine bg_iadd (pc := 137) X1 dL_walk_137 (by omega) ?_
              refine bg_aload4 (pc := 138) X1 dL_walk_138 ?_
              refine bg_bipush (pc := 140) X1 dL_walk_140 rfl (by decide) ?_
              refine bg_iload7 (pc := 142) X1 dL_walk_142 ?_
              refine bg_imul (pc := 144) X1 dL_walk_144 (by omega) ?_
              refine bg_iload8 (pc := 145) X1 dL_walk_145 ?_
              refine bg_iadd (pc := 147) X1 dL_walk_147 (by omega) ?_
              refine bq_iaload (pc := 148) X1 dL_walk_148 (by first | assumption | rfl) (by omega) ?_
              rw [show (7 * (i : Int) + (j : Int)).toNat = 7 * i + j by omega, hT0]
              refine bg_icmp_ne (pc := 149) X1 (tgt := 156) dL_walk_149 (by decide) (fun u149 => ?_) (fun u149 => ?_)
              · exact absurd hbs u149
              · refine bg_iconst (pc := 152) X1 dL_walk_152 (by decide) ?_
                refine bg_goto (pc := 153) X1 (tgt := 157) dL_walk_153 (by decide) ?_
                refine bg_istore13 (pc := 157) X1 dL_walk_157 ?_
                refine bg_goto (pc := 159) X1 (tgt := 70) dL_walk_159 (by decide) ?_
                exact don _
            · refine bg_iconst (pc := 130) X1 dL_walk_130 (by decide) ?_
              refine bg_goto (pc := 131) X1 (tgt := 135) dL_walk_131 (by decide) ?_
              refine bg_iadd (pc := 135) X1 dL_walk_135 (by omega) ?_
              refine bq_iaload (pc := 136) X1 dL_walk_136 (by first | assumption | rfl) (by omega) ?_
              first
              | rw [show (7 * ((i : Int) + 1) + (j : Int) + 1).toNat = 7 * x + z by omega, hTn]
              | rw [show (7 * ((i : Int) + 1) + (j : Int) + 0).toNat = 7 * x + z by omega, hTn]
              | rw [show (7 * ((i : Int) + 0) + (j : Int) + 1).toNat = 7 * x + z by omega, hTn]
              | rw [show (7 * ((i : Int) + 0) + (j : Int) + 0).toNat = 7 * x + z by omega, hTn]
              refine bg_iadd (pc := 137) X1 dL_walk_137 (by omega) ?_
              refine bg_aload4 (pc := 138) X1 dL_walk_138 ?_
              refine bg_bipush (pc := 140) X1 dL_walk_140 rfl (by decide) ?_
              refine bg_iload7 (pc := 142) X1 dL_walk_142 ?_
              refine bg_imul (pc := 144) X1 dL_walk_144 (by omega) ?_
              refine bg_iload8 (pc := 145) X1 dL_walk_145 ?_
              refine bg_iadd (pc := 147) X1 dL_walk_147 (by omega) ?_
              refine bq_iaload (pc := 148) X1 dL_walk_148 (by first | assumption | rfl) (by omega) ?_
              rw [show (7 * (i : Int) + (j : Int)).toNat = 7 * i + j by omega, hT0]
              refine bg_icmp_ne (pc := 149) X1 (tgt := 156) dL_walk_149 (by decide) (fun u149 => ?_) (fun u149 => ?_)
              · exact absurd hbs u149
              · refine bg_iconst (pc := 152) X1 dL_walk_152 (by decide) ?_
                refine bg_goto (pc := 153) X1 (tgt := 157) dL_walk_153 (by decide) ?_
                refine bg_istore13 (pc := 157) X1 dL_walk_157 ?_
                refine bg_goto (pc := 159) X1 (tgt := 70) dL_walk_159 (by decide) ?_
                exact don _
    | succ n ih =>
      intro w c l9 l10 l11 l14 i j g1 hS1 hi hj hT h0 hw kk
      have iA : i ≤ (pA P).length := by rw [eA]; exact hi
      have jB : j ≤ (pB P).length := by rw [eB]; exact hj
      have hf4 : fbs P i j ≤ 4 := by
        rcases fbs_or (P := P) (i := i) (j := j) with h | h
        · omega
        · exact h.1.2
      have hb0 := bw_B okP1 iA jB
      have hT0 := hT i j hi hj
      have hnb : ¬ (0 ≤ sc P (w + 1) i j ∧ sc P (w + 1) i j + bw P (ni (w + 1) i) (nj (w + 1) j) = bw P i j) := fbs_lt (P := P) (i := i) (j := j) (s := w + 1) (by omega) (by omega)
      have hR := scv_R okP1 (s := w + 1) (j := j) iA
      have hgo : 0 ≤ sc P (w + 1) i j → (0 ≤ bw P (ni (w + 1) i) (nj (w + 1) j) ∧ bw P (ni (w + 1) i) (nj (w + 1) j) ≤ 14256) ∧ scv P (w + 1) i j = sc P (w + 1) i j ∧ g1 200 (7 * ni (w + 1) i + nj (w + 1) j) = bw P (ni (w + 1) i) (nj (w + 1) j) ∧ ni (w + 1) i ≤ (sq S a).length ∧ nj (w + 1) j ≤ (sq S b).length ∧ sc P (w + 1) i j ≤ 981 := fun h => by
        have h2 := sc_go okP1 (j := j) iA h
        have h3 := bw_B okP1 h2.2.1 (h2.2.2.2.1 jB)
        have h4 := h2.2.1
        have h5 := h2.2.2.2.1 jB
        rw [eA] at h4
        rw [eB] at h5
        exact ⟨h3, scv_go h, hT _ _ h4 h5, h4, h5, h2.2.2.2.2.2.1⟩
      have n12 : w + 1 < 3 → ni (w + 1) i = i + 1 := fun h => if_pos (by omega)
      have n34 : 3 ≤ w + 1 → ni (w + 1) i = i := fun h => if_neg (by omega)
      have n2 : w + 1 = 2 → nj (w + 1) j = j := fun h => if_pos h
      have n134 : ¬ w + 1 = 2 → nj (w + 1) j = j + 1 := fun h => if_neg h
      have ei : ((i : Nat) : Int).toNat = i := Int.toNat_natCast _
      have ej : ((j : Nat) : Int).toNat = j := Int.toNat_natCast _
      have nxt70 := fun (l14 : Option bg_V) => ih (w + 1) c l9 l10 l11 l14 i j g1 hS1 hi hj hT (by omega) (by omega) kk
      generalize sc P (w + 1) i j = sv at *
      generalize ni (w + 1) i = x at *
      generalize nj (w + 1) j = z at *
      refine bg_iload13 (pc := 70) X1 dL_walk_70 ?_
      refine bg_if_ne (pc := 72) X1 (tgt := 162) dL_walk_72 (by decide) (fun u72 => ?_) (fun u72 => ?_)
      · exfalso; omega
      · refine bg_iinc12 (pc := 75) X1 dL_walk_75 (by omega) ?_
        refine bg_aload0 (pc := 78) X1 dL_walk_78 ?_
        refine bg_aload1 (pc := 79) X1 dL_walk_79 ?_
        refine bg_iload2 (pc := 80) X1 dL_walk_80 ?_
        refine bg_iload7 (pc := 81) X1 dL_walk_81 ?_
        refine bg_iload3 (pc := 83) X1 dL_walk_83 ?_
        refine bg_iload8 (pc := 84) X1 dL_walk_84 ?_
        refine bg_iload12 (pc := 86) X1 dL_walk_86 ?_
        refine bq_S7i (pc := 88) X1 (c_L_added hS1 ok h6 ha hb (⟨by omega, by omega⟩ : 0 ≤ (i : Int) ∧ (i : Int) ≤ _) (⟨by omega, by omega⟩ : 0 ≤ (j : Int) ∧ (j : Int) ≤ _) (by omega)) sL_added lL_24 rfl (by decide) dL_walk_88 (by exact Nat.le_of_ble_eq_true rfl) (by decide) ?_
        rintro _ _ ⟨h9, h8⟩
        obtain rfl := h9.symm
        obtain rfl := h8.symm
        clear h9 h8
        rw [ei, ej, ← hP]
        refine bg_istore14 (pc := 91) X1 dL_walk_91 ?_
        refine bg_iload14 (pc := 93) X1 dL_walk_93 ?_
        refine bg_ldc (pc := 95) X1 dL_walk_95 kL_15 (by decide) ?_
        refine bg_icmp_ge (pc := 97) X1 (tgt := 156) dL_walk_97 (by decide) (fun u97 => ?_) (fun u97 => ?_)
        · refine bg_iconst (pc := 156) X1 dL_walk_156 (by decide) ?_
          refine bg_istore13 (pc := 157) X1 dL_walk_157 ?_
          refine bg_goto (pc := 159) X1 (tgt := 70) dL_walk_159 (by decide) ?_
          exact nxt70 _
        · obtain ⟨h1, h2, h3, h4, h5, h78⟩ := hgo (by omega)
          rw [h2]
          refine bg_iload14 (pc := 100) X1 dL_walk_100 ?_
          refine bg_aload4 (pc := 102) X1 dL_walk_102 ?_
          refine bg_bipush (pc := 104) X1 dL_walk_104 rfl (by decide) ?_
          refine bg_iload7 (pc := 106) X1 dL_walk_106 ?_
          refine bg_iload12 (pc := 108) X1 dL_walk_108 ?_
          refine bg_iconst (pc := 110) X1 dL_walk_110 (by decide) ?_
          refine bg_icmp_ge (pc := 111) X1 (tgt := 118) dL_walk_111 (by decide) (fun u111 => ?_) (fun u111 => ?_)
          · refine bg_iconst (pc := 118) X1 dL_walk_118 (by decide) ?_
            refine bg_iadd (pc := 119) X1 dL_walk_119 (by omega) ?_
            refine bg_imul (pc := 120) X1 dL_walk_120 (by omega) ?_
            refine bg_iload8 (pc := 121) X1 dL_walk_121 ?_
            refine bg_iadd (pc := 123) X1 dL_walk_123 (by omega) ?_
            refine bg_iload12 (pc := 124) X1 dL_walk_124 ?_
            refine bg_iconst (pc := 126) X1 dL_walk_126 (by decide) ?_
            refine bg_icmp_ne (pc := 127) X1 (tgt := 134) dL_walk_127 (by decide) (fun u127 => ?_) (fun u127 => ?_)
            · refine bg_iconst (pc := 134) X1 dL_walk_134 (by decide) ?_
              refine bg_iadd (pc := 135) X1 dL_walk_135 (by omega) ?_
              refine bq_iaload (pc := 136) X1 dL_walk_136 (by first | assumption | rfl) (by omega) ?_
              first
              | rw [show (7 * ((i : Int) + 1) + (j : Int) + 1).toNat = 7 * x + z by omega, h3]
              | rw [show (7 * ((i : Int) + 1) + (j : Int) + 0).toNat = 7 * x + z by omega, h3]
              | rw [show (7 * ((i : Int) + 0) + (j : Int) + 1).toNat = 7 * x + z by omega, h3]
              | rw [show (7 * ((i : Int) + 0) + (j : Int) + 0).toNat = 7 * x + z by omega, h3]
              refine bg_iadd (pc := 137) X1 dL_walk_137 (by omega) ?_
              refine bg_aload4 (pc := 138) X1 dL_walk_138 ?_
              refine bg_bipush (pc := 140) X1 dL_walk_140 rfl (by decide) ?_
              refine bg_iload7 (pc := 142) X1 dL_walk_142 ?_
              refine bg_imul (pc := 144) X1 dL_walk_144 (by omega) ?_
              refine bg_iload8 (pc := 145) X1 dL_walk_145 ?_
              refine bg_iadd (pc := 147) X1 dL_walk_147 (by omega) ?_
              refine bq_iaload (pc := 148) X1 dL_walk_148 (by first | assumption | rfl) (by omega) ?_
              rw [show (7 * (i : Int) + (j : Int)).toNat = 7 * i + j by omega, hT0]
              refine bg_icmp_ne (pc := 149) X1 (tgt := 156) dL_walk_149 (by decide) (fun u149 => ?_) (fun u149 => ?_)
              · refine bg_iconst (pc := 156) X1 dL_walk_156 (by decide) ?_
                refine bg_istore13 (pc := 157) X1 dL_walk_157 ?_
                refine bg_goto (pc := 159) X1 (tgt := 70) dL_walk_159 (by decide) ?_
                exact nxt70 _
              · exact absurd ⟨by omega, u149⟩ hnb
            · refine bg_iconst (pc := 130) X1 dL_walk_130 (by decide) ?_
              refine bg_goto (pc := 131) X1 (tgt := 135) dL_walk_131 (by decide) ?_
              refine bg_iadd (pc := 135) X1 dL_walk_135 (by omega) ?_
              refine bq_iaload (pc := 136) X1 dL_walk_136 (by first | assumption | rfl) (by omega) ?_
              first
              | rw [show (7 * ((i : Int) + 1) + (j : Int) + 1).toNat = 7 * x + z by omega, h3]
              | rw [show (7 * ((i : Int) + 1) + (j : Int) + 0).toNat = 7 * x + z by omega, h3]
              | rw [show (7 * ((i : Int) + 0) + (j : Int) + 1).toNat = 7 * x + z by omega, h3]
              | rw [show (7 * ((i : Int) + 0) + (j : Int) + 0).toNat = 7 * x + z by omega, h3]
              refine bg_iadd (pc := 137) X1 dL_walk_137 (by omega) ?_
              refine bg_aload4 (pc := 138) X1 dL_walk_138 ?_
              refine bg_bipush (pc := 140) X1 dL_walk_140 rfl (by decide) ?_
              refine bg_iload7 (pc := 142) X1 dL_walk_142 ?_
              refine bg_imul (pc := 144) X1 dL_walk_144 (by omega) ?_
              refine bg_iload8 (pc := 145) X1 dL_walk_145 ?_
              refine bg_iadd (pc := 147) X1 dL_walk_147 (by omega) ?_
              refine bq_iaload (pc := 148) X1 dL_walk_148 (by first | assumption | rfl) (by omega) ?_
              rw [show (7 * (i : Int) + (j : Int)).toNat = 7 * i + j by omega, hT0]
              refine bg_icmp_ne (pc := 149) X1 (tgt := 156) dL_walk_149 (by decide) (fun u149 => ?_) (fun u149 => ?_)
              · refine bg_iconst (pc := 156) X1 dL_walk_156 (by decide) ?_
                refine bg_istore13 (pc := 157) X1 dL_walk_157 ?_
                refine bg_goto (pc := 159) X1 (tgt := 70) dL_walk_159 (by decide) ?_
                exact nxt70 _
              · exact absurd ⟨by omega, u149⟩ hnb
          · refine bg_iconst (pc := 114) X1 dL_walk_114 (by decide) ?_
            refine bg_goto (pc := 115) X1 (tgt := 119) dL_walk_115 (by decide) ?_
            refine bg_iadd (pc := 119) X1 dL_walk_119 (by omega) ?_
            refine bg_imul (pc := 120) X1 dL_walk_120 (by omega) ?_
            refine bg_iload8 (pc := 121) X1 dL_walk_121 ?_
            refine bg_iadd (pc := 123) X1 dL_walk_123 (by omega) ?_
            refine bg_iload12 (pc := 124) X1 dL_walk_124 ?_
            refine bg_iconst (pc := 126) X1 dL_walk_126 (by decide) ?_
            refine bg_icmp_ne (pc := 127) X1 (tgt := 134) dL_walk_127 (by decide) (fun u127 => ?_) (fun u127 => ?_)
            · refine bg_iconst (pc := 134) X1 dL_walk_134 (by decide) ?_
              refine bg_iadd (pc := 135) X1 dL_walk_135 (by omega) ?_
              refine bq_iaload (pc := 136) X1 dL_walk_136 (by first | assumption | rfl) (by omega) ?_
              first
              | rw [show (7 * ((i : Int) + 1) + (j : Int) + 1).toNat = 7 * x + z by omega, h3]
              | rw [show (7 * ((i : Int) + 1) + (j : Int) + 0).toNat = 7 * x + z by omega, h3]
              | rw [show (7 * ((i : Int) + 0) + (j : Int) + 1).toNat = 7 * x + z by omega, h3]
              | rw [show (7 * ((i : Int) + 0) + (j : Int) + 0).toNat = 7 * x + z by omega, h3]
              refine bg_iadd (pc := 137) X1 dL_walk_137 (by omega) ?_
              refine bg_aload4 (pc := 138) X1 dL_walk_138 ?_
              refine bg_bipush (pc := 140) X1 dL_walk_140 rfl (by decide) ?_
              refine bg_iload7 (pc := 142) X1 dL_walk_142 ?_
              refine bg_imul (pc := 144) X1 dL_walk_144 (by omega) ?_
              refine bg_iload8 (pc := 145) X1 dL_walk_145 ?_
              refine bg_iadd (pc := 147) X1 dL_walk_147 (by omega) ?_
              refine bq_iaload (pc := 148) X1 dL_walk_148 (by first | assumption | rfl) (by omega) ?_
              rw [show (7 * (i : Int) + (j : Int)).toNat = 7 * i + j by omega, hT0]
              refine bg_icmp_ne (pc := 149) X1 (tgt := 156) dL_walk_149 (by decide) (fun u149 => ?_) (fun u149 => ?_)
              · refine bg_iconst (pc := 156) X1 dL_walk_156 (by decide) ?_
                refine bg_istore13 (pc := 157) X1 dL_walk_157 ?_
                refine bg_goto (pc := 159) X1 (tgt := 70) dL_walk_159 (by decide) ?_
                exact nxt70 _
              · exact absurd ⟨by omega, u149⟩ hnb
            · refine bg_iconst (pc := 130) X1 dL_walk_130 (by decide) ?_
              refine bg_goto (pc := 131) X1 (tgt := 135) dL_walk_131 (by decide) ?_
              refine bg_iadd (pc := 135) X1 dL_walk_135 (by omega) ?_
              refine bq_iaload (pc := 136) X1 dL_walk_136 (by first | assumption | rfl) (by omega) ?_
              first
              | rw [show (7 * ((i : Int) + 1) + (j : Int) + 1).toNat = 7 * x + z by omega, h3]
              | rw [show (7 * ((i : Int) + 1) + (j : Int) + 0).toNat = 7 * x + z by omega, h3]
              | rw [show (7 * ((i : Int) + 0) + (j : Int) + 1).toNat = 7 * x + z by omega, h3]
              | rw [show (7 * ((i : Int) + 0) + (j : Int) + 0).toNat = 7 * x + z by omega, h3]
              refine bg_iadd (pc := 137) X1 dL_walk_137 (by omega) ?_
              refine bg_aload4 (pc := 138) X1 dL_walk_138 ?_
              refine bg_bipush (pc := 140) X1 dL_walk_140 rfl (by decide) ?_
              refine bg_iload7 (pc := 142) X1 dL_walk_142 ?_
              refine bg_imul (pc := 144) X1 dL_walk_144 (by omega) ?_
              refine bg_iload8 (pc := 145) X1 dL_walk_145 ?_
              refine bg_iadd (pc := 147) X1 dL_walk_147 (by omega) ?_
              refine bq_iaload (pc := 148) X1 dL_walk_148 (by first | assumption | rfl) (by omega) ?_
              rw [show (7 * (i : Int) + (j : Int)).toNat = 7 * i + j by omega, hT0]
              refine bg_icmp_ne (pc := 149) X1 (tgt := 156) dL_walk_149 (by decide) (fun u149 => ?_) (fun u149 => ?_)
              · refine bg_iconst (pc := 156) X1 dL_walk_156 (by decide) ?_
                refine bg_istore13 (pc := 157) X1 dL_walk_157 ?_
                refine bg_goto (pc := 159) X1 (tgt := 70) dL_walk_159 (by decide) ?_
                exact nxt70 _
              · exact absurd ⟨by omega, u149⟩ hnb
  have fin : ∀ (n : Nat) (c l9 l10 l11 : Int) (l12 l13 l14 : Option bg_V) (g1 : bg_E), n ≤ 48 → fbs P (wk P n).1 (wk P n).2.1 = 0 → 0 ≤ c → rwR g1 S → (∀ x z : Nat, x ≤ (sq S a).length → z ≤ (sq S b).length → g1 200 (7 * x + z) = bw P x z) → arrL g1 P (wk P n).1 (wk P n).2.1 → walL g1 P (wk P n).1 (wk P n).2.1 l9 l10 l11 → frR 200 202 g g1 → bg_g κ y 38 [some (.inr 198), some (.inr 199), some (.inl a), some (.inl b), some (.inr 200), some (.inr 201), some (.inl c), some (.inl ((wk P n).1 : Int)), some (.inl ((wk P n).2.1 : Int)), some (.inl l9), some (.inl l10), some (.inl l11), l12, l13, l14] [] g1 := by
    intro n c l9 l10 l11 l12 l13 l14 g1 hn h0 hc hS1 hT hA hW hF
    rw [wk_fin hn h0] at hA hW ⊢
    obtain ⟨w1, w2⟩ := wE_end okP1
    rw [w1, w2] at hA hW ⊢
    rw [eA, eB]
    refine bg_iload6 (pc := 38) X1 dL_walk_38 ?_
    refine bg_if_lt (pc := 40) X1 (tgt := 428) dL_walk_40 (by decide) (fun u40 => ?_) (fun u40 => ?_)
    · exfalso; omega
    · refine bg_iload7 (pc := 43) X1 dL_walk_43 ?_
      refine bg_iload8 (pc := 45) X1 dL_walk_45 ?_
      refine bg_iadd (pc := 47) X1 dL_walk_47 (by omega) ?_
      refine bg_aload0 (pc := 48) X1 dL_walk_48 ?_
      refine bg_bipush (pc := 49) X1 dL_walk_49 rfl (by decide) ?_
      refine bg_iload2 (pc := 51) X1 dL_walk_51 ?_
      refine bg_iadd (pc := 52) X1 dL_walk_52 (by omega) ?_
      refine bq_iaload (pc := 53) X1 dL_walk_53 (by first | assumption | rfl) (by omega) ?_
      rw [rw_len hS1 ha]
      refine bg_aload0 (pc := 54) X1 dL_walk_54 ?_
      refine bg_bipush (pc := 55) X1 dL_walk_55 rfl (by decide) ?_
      refine bg_iload3 (pc := 57) X1 dL_walk_57 ?_
      refine bg_iadd (pc := 58) X1 dL_walk_58 (by omega) ?_
      refine bq_iaload (pc := 59) X1 dL_walk_59 (by first | assumption | rfl) (by omega) ?_
      rw [rw_len hS1 hb]
      refine bg_iadd (pc := 60) X1 dL_walk_60 (by omega) ?_
      refine bg_icmp_ge (pc := 61) X1 (tgt := 428) dL_walk_61 (by decide) (fun u61 => ?_) (fun u61 => ?_)
      · exact bo_vret (pc := 428) X rfl dL_walk_428 (fun hg9 => by
            refine ⟨⟨hA, ?_, hW.2.1⟩, hT 0 0 (Nat.zero_le _) (Nat.zero_le _), hF⟩
            have h1 := hW.1
            rw [TTn_last okP1.1.2 (fun k hk e => by
              have := ((wE_I okP1).2.1 k hk).1
              omega)] at h1
            exact h1)
      · exfalso; omega
  have loop : ∀ (m n : Nat) (c l9 l10 l11 : Int) (l12 l13 l14 : Option bg_V) (g1 : bg_E), n + m = 48 → 0 ≤ c → rwR g1 S → (∀ x z : Nat, x ≤ (sq S a).length → z ≤ (sq S b).length → g1 200 (7 * x + z) = bw P x z) → arrL g1 P (wk P n).1 (wk P n).2.1 → walL g1 P (wk P n).1 (wk P n).2.1 l9 l10 l11 → frR 200 202 g g1 → bg_g κ y 38 [some (.inr 198), some (.inr 199), some (.inl a), some (.inl b), some (.inr 200), some (.inr 201), some (.inl c), some (.inl ((wk P n).1 : Int)), some (.inl ((wk P n).2.1 : Int)), some (.inl l9), some (.inl l10), some (.inl l11), l12, l13, l14] [] g1 := by
    intro m
    induction m with
    | zero =>
      intro n c l9 l10 l11 l12 l13 l14 g1 hn hc hS1 hT hA hW hF
      refine fin n c l9 l10 l11 l12 l13 l14 g1 (by omega) ?_ hc hS1 hT hA hW hF
      have hI := wk_I P n
      rcases wk_rst okP1 n with h1 | h1
      · have h2 := hI.1
        have h3 := hI.2.1
        unfold rst at h1
        exact (fbs_0 okP1 h2 h3).mpr (by omega)
      · exact h1
    | succ m ih =>
      intro n c l9 l10 l11 l12 l13 l14 g1 hn hc hS1 hT hA hW hF
      by_cases h0 : fbs P (wk P n).1 (wk P n).2.1 = 0
      · exact fin n c l9 l10 l11 l12 l13 l14 g1 (by omega) h0 hc hS1 hT hA hW hF
      · have hI := wk_I P n
        have I1 := hI.1
        have I2 := hI.2.1
        have hend := fbs_0 okP1 I1 I2
        have hgo := fbs_go (P := P) (i := (wk P n).1) (j := (wk P n).2.1)
        have hf1 : 1 ≤ fbs P (wk P n).1 (wk P n).2.1 ∧ fbs P (wk P n).1 (wk P n).2.1 ≤ 4 := by
          rcases fbs_or (P := P) (i := (wk P n).1) (j := (wk P n).2.1) with h | h
          · exact absurd h.1 h0
          · exact h.1
        have kk := fun (l9 l10 l11 : Int) (l12 l13 l14 : Option bg_V) (g2 : bg_E) => ih (n + 1) c l9 l10 l11 l12 l13 l14 g2 (by omega) hc
        have n1 := wk_1 (P := P) (n := n) (by omega)
        have n2 := wk_2 (P := P) (n := n) (by omega)
        have n3 := wk_3 (P := P) (n := n) (by omega)
        have n4 := wk_4 (P := P) (n := n) (by omega)
        generalize (wk P (n + 1)).1 = i' at kk n1 n2 n3 n4
        generalize (wk P (n + 1)).2.1 = j' at kk n1 n2 n3 n4
        generalize (wk P n).1 = i at *
        generalize (wk P n).2.1 = j at *
        have srch := fun (l14 : Option bg_V) => search (fbs P i j - 1).toNat 0 c l9 l10 l11 l14 i j g1 hS1 (by rw [← eA]; exact I1) (by rw [← eB]; exact I2) hT (by omega) (by omega)
        have eS : ∃ s, s = fbs P i j := ⟨_, rfl⟩
        obtain ⟨s, eS⟩ := eS
        rw [← eS] at hf1 h0 hgo n1 n2 n3 n4 srch
        have stp : i' = (if s < 3 then i + 1 else i) ∧ j' = (if s = 2 then j else j + 1) := by
          have hc : s = 1 ∨ s = 2 ∨ s = 3 ∨ s = 4 := by omega
          rcases hc with rfl | rfl | rfl | rfl
          · have := n1 rfl; simp; omega
          · have := n2 rfl; simp; omega
          · have := n3 rfl; simp; omega
          · have := n4 rfl; simp; omega
        have tl := fun (g2 : bg_E) (l9 l10 l11 : Int) (l13 l14 : Option bg_V) (hS2 : rwR g2 S) => tail s c l9 l10 l11 l13 l14 i j g2 hS2 hf1 I1 I2 (fun h => ⟨(hgo.1 h).1, (hgo.1 h).2, (n1 h).2.2⟩) (fun h => ⟨hgo.2.1 h, (n2 h).2.2⟩) (fun h => ⟨(hgo.2.2.1 h).1, (n3 h).2.2.1, (n3 h).2.2.2, (hgo.2.2.1 h).2.1⟩) (fun h => ⟨hgo.2.2.2 h, (n4 h).2.2⟩)
        have I1' : i ≤ (sq S a).length := by rw [← eA]; exact I1
        have I2' : j ≤ (sq S b).length := by rw [← eB]; exact I2
        have go1 : s = 1 → i < (sq S a).length ∧ j < (sq S b).length := fun h => by rw [← eA, ← eB]; exact hgo.1 h
        have tabk : ∀ g2 : bg_E, g2 200 = g1 200 → ∀ x z : Nat, x ≤ (sq S a).length → z ≤ (sq S b).length → g2 200 (7 * x + z) = bw P x z := fun g2 h x z hx hz => by rw [h]; exact hT x z hx hz
        have mid : ∀ l14 : Option bg_V, bg_g κ y 162 [some (.inr 198), some (.inr 199), some (.inl a), some (.inl b), some (.inr 200), some (.inr 201), some (.inl c), some (.inl (i : Int)), some (.inl (j : Int)), some (.inl l9), some (.inl l10), some (.inl l11), some (.inl s), some (.inl 1), l14] [] g1 := by
          intro l14
          obtain ⟨W1, W2, W4⟩ := id hW
          have W5 := lst_or (FA P) i
          have cp := cntF_pos (f := FA P) i
          rw [← W2] at cp
          have cR := cntF_R (FA P) 1 i
          rw [← W2] at cR
          have tln := TTn_len P (lst (FA P) i).toNat
          have W10 := W1.1
          have e42 : g1 201 (42 : Int).toNat = g1 201 42 := rfl
          have e43 : g1 201 (43 : Int).toNat = g1 201 43 := rfl
          -- what follows a step that is no match
          have oth : ∀ l11' : Int, ¬ s = 1 → (0 ≤ lst (FA P) i → l11' = flgs P i' j' l9) → bg_g κ y 307 [some (.inr 198), some (.inr 199), some (.inl a), some (.inl b), some (.inr 200), some (.inr 201), some (.inl c), some (.inl (i : Int)), some (.inl (j : Int)), some (.inl l9), some (.inl l10), some (.inl l11'), some (.inl s), some (.inl 1), l14] [] g1 := by
            intro l11' hs1 hl8
            refine tl g1 l9 l10 l11' _ _ hS1 hA (fun g2 hfr hfr4 hA2 => ?_)
            rw [← stp.1, ← stp.2] at hA2 ⊢
            have elst : lst (FA P) i' = lst (FA P) i ∧ cntF (FA P) 1 i' = cntF (FA P) 1 i := by
              by_cases h2 : s = 2
              · have := n2 h2
                rw [this.1, lst, cntF, this.2.2.1]
                exact ⟨if_neg (by decide), by rw [if_neg (by decide)]; omega⟩
              · rw [show i' = i by have := stp.1; rw [if_neg (by omega)] at this; exact this]
                exact ⟨rfl, rfl⟩
            refine kk l9 l10 l11' _ _ _ g2 (hS1.cg (hfr 198 (by omega)) (hfr 199 (by omega))) (tabk g2 (hfr 200 (by omega))) hA2 ⟨?_, by rw [hfr4 42 (by omega), elst.2]; exact W2, fun h6 => ?_⟩ (fun x hx => by rw [hfr x (by omega)]; exact hF x hx)
            · rw [elst.1]; exact W1.cg (by omega) (fun k hk _ => hfr4 k hk)
            · rw [elst.1] at h6 ⊢
              have := W4 h6
              refine ⟨this.1, this.2.1, this.2.2.1, ?_, hl8 h6⟩
              have e2 := stp.2
              split at e2 <;> omega
          have oth1 : ¬ s = 1 → ∀ v : Int, v = (if s = 2 then 1 else if s = 3 then 2 else 4) → bg_g κ y 307 [some (.inr 198), some (.inr 199), some (.inl a), some (.inl b), some (.inr 200), some (.inr 201), some (.inl c), some (.inl (i : Int)), some (.inl (j : Int)), some (.inl l9), some (.inl l10), some (.inl (bg_bor l11 v)), some (.inl s), some (.inl 1), l14] [] g1 := by
            intro hs1 v hv
            refine oth _ hs1 (fun h6 => ?_)
            obtain ⟨v1, v2, v3, v4, v5⟩ := W4 h6
            rcases W5 with h5 | ⟨h5, h5b, -⟩
            · omega
            have hc : s = 2 ∨ s = 3 ∨ s = 4 := by omega
            rcases hc with rfl | rfl | rfl
            · have q := n2 rfl
              rw [q.1, q.2.1, fl_2 (by omega), ← v5, hv]; rfl
            · have q := n3 rfl
              rw [q.1, q.2.1, fl_3 (by omega) (by omega) q.2.2.1, ← v5, hv]; rfl
            · have q := n4 rfl
              rw [q.1, q.2.1, fl_4 (by omega) (by omega) q.2.2.1, ← v5, hv]; rfl
          -- what follows a match
          have mat : ∀ (g2 : bg_E) (v : Int) (l14 : Option bg_V), s = 1 → v = 0 → (∀ x, ¬ x = 201 → g2 x = g1 x) → (∀ k, k < 24 → g2 201 k = g1 201 k) → thrL g2 (TTn P i) → g2 201 42 = g1 201 42 + 1 → bg_g κ y 307 [some (.inr 198), some (.inr 199), some (.inl a), some (.inl b), some (.inr 200), some (.inr 201), some (.inl c), some (.inl (i : Int)), some (.inl (j : Int)), some (.inl (i : Int)), some (.inl (j : Int)), some (.inl v), some (.inl s), some (.inl 1), l14] [] g2 := by
            intro g2 v l14 hs1 hv0 hfr hfr24 hth hct
            refine tl g2 i j v _ _ (hS1.cg (hfr 198 (by omega)) (hfr 199 (by omega))) ⟨fun k hk => by rw [hfr24 _ (by have := go1 hs1; omega), hfr24 _ (by have := go1 hs1; omega)]; exact hA.1 k hk, fun k hk => by rw [hfr24 _ (by have := go1 hs1; omega), hfr24 _ (by have := go1 hs1; omega)]; exact hA.2 k hk⟩ (fun g3 hf3 hf4 hA3 => ?_)
            rw [← stp.1, ← stp.2] at hA3 ⊢
            have q := n1 hs1
            have hg1 := go1 hs1
            have el : lst (FA P) i' = (i : Int) := by rw [q.1, lst, if_pos q.2.2.1]
            have tl5 := TTn_len P i
            refine kk i j v _ _ _ g3 (hS1.cg (by rw [hf3 198 (by omega), hfr 198 (by omega)]) (by rw [hf3 199 (by omega), hfr 199 (by omega)])) (tabk g3 (by rw [hf3 200 (by omega), hfr 200 (by omega)])) hA3 ⟨?_, ?_, fun _ => ?_⟩ (fun x hx => by rw [hf3 x (by omega), hfr x (by omega)]; exact hF x hx)
            · rw [el, Int.toNat_natCast]; exact hth.cg (by omega) (fun k hk _ => hf4 k hk)
            · rw [hf4 42 (by omega), hct, W2, q.1, cntF, if_pos q.2.2.1]
            · rw [el, Int.toNat_natCast]
              refine ⟨rfl, q.2.2.2.1.symm, by omega, by omega, ?_⟩
              rw [q.1, q.2.1, hv0]
              unfold flgs
              rw [Int.toNat_natCast, q.2.2.2.1, Int.toNat_natCast, Nat.sub_self, decide_eq_false (by omega)]
              rfl
          have m251 : ∀ (g2 : bg_E) (l14 : Option bg_V), s = 1 → (∀ x, ¬ x = 201 → g2 x = g1 x) → (∀ k, k < 24 → g2 201 k = g1 201 k) → g2 201 42 = g1 201 42 → thrL g2 (TTn P i) → bg_g κ y 251 [some (.inr 198), some (.inr 199), some (.inl a), some (.inl b), some (.inr 200), some (.inr 201), some (.inl c), some (.inl (i : Int)), some (.inl (j : Int)), some (.inl l9), some (.inl l10), some (.inl l11), some (.inl s), some (.inl 1), l14] [] g2 := by
            intro g2 l14 hs1 hfr hfr24 e20 hth
            have hg1 := go1 hs1
            have tl5 := TTn_len P i
            have e20' : g2 201 (42 : Int).toNat = g1 201 42 := e20
            refine bg_aload5 (pc := 251) X1 dL_walk_251 ?_
            refine bg_bipush (pc := 253) X1 dL_walk_253 rfl (by decide) ?_
            refine bg_dup2 (pc := 255) X1 dL_walk_255 ?_
            refine bq_iaload (pc := 256) X1 dL_walk_256 (by first | assumption | rfl) (by omega) ?_
            rw [e20']
            refine bg_iconst (pc := 257) X1 dL_walk_257 (by decide) ?_
            refine bg_iadd (pc := 258) X1 dL_walk_258 (by omega) ?_
            refine bq_iastore (pc := 259) X1 dL_walk_259 (by first | assumption | rfl) (by omega) ?_
            refine bg_iload7 (pc := 260) X1 dL_walk_260 ?_
            refine bg_istore9 (pc := 262) X1 dL_walk_262 ?_
            refine bg_iload8 (pc := 264) X1 dL_walk_264 ?_
            refine bg_istore10 (pc := 266) X1 dL_walk_266 ?_
            refine bg_iconst (pc := 268) X1 dL_walk_268 (by decide) ?_
            refine bg_istore11 (pc := 269) X1 dL_walk_269 ?_
            refine bg_iload11 (pc := 271) X1 dL_walk_271 ?_
            refine bg_iload12 (pc := 273) X1 dL_walk_273 ?_
            refine bg_iconst (pc := 275) X1 dL_walk_275 (by decide) ?_
            refine bg_icmp_ne (pc := 276) X1 (tgt := 283) dL_walk_276 (by decide) (fun u276 => ?_) (fun u276 => ?_)
            · refine bg_iload12 (pc := 283) X1 dL_walk_283 ?_
              refine bg_iconst (pc := 285) X1 dL_walk_285 (by decide) ?_
              refine bg_icmp_ne (pc := 286) X1 (tgt := 293) dL_walk_286 (by decide) (fun u286 => ?_) (fun u286 => ?_)
              · refine bg_iload12 (pc := 293) X1 dL_walk_293 ?_
                refine bg_iconst (pc := 295) X1 dL_walk_295 (by decide) ?_
                refine bg_icmp_ne (pc := 296) X1 (tgt := 303) dL_walk_296 (by decide) (fun u296 => ?_) (fun u296 => ?_)
                · refine bg_iconst (pc := 303) X1 dL_walk_303 (by decide) ?_
                  refine bg_ior (pc := 304) X1 dL_walk_304 ?_
                  refine bg_istore11 (pc := 305) X1 dL_walk_305 ?_
                  exact mat _ _ _ hs1 (by decide) (fun x h1 => by rw [bg_up_ne h1]; exact hfr x h1) (fun k h1 => by rw [show (42 : Int).toNat = 42 from rfl, up_k (by omega)]; exact hfr24 k h1) (hth.cg (by omega) (fun k h1 h2 => by rw [show (42 : Int).toNat = 42 from rfl, up_k h2])) (by rw [show (42 : Int).toNat = 42 from rfl, up_eq])
                · exfalso; omega
              · exfalso; omega
            · exfalso; omega
          by_cases hs1 : s = 1
          · have hg1 := go1 hs1
            have q := n1 hs1
            have dA := sq_dep ok ha I1'
            have dB := sq_dep ok hb I2'
            by_cases h6 : 0 ≤ lst (FA P) i
            · obtain ⟨v1, v2, v3, v4, v5⟩ := W4 h6
              rcases W5 with h5 | ⟨h5, h5b, -⟩
              · omega
              obtain ⟨hN, hT9⟩ := TTn_next (P := P) (i := i) (by omega) q.2.2.1 h6
              obtain ⟨t, ht⟩ : ∃ t, t = (TTn P (lst (FA P) i).toNat).length := ⟨_, rfl⟩
              rw [← ht] at W10 tln
              have ht5 : t ≤ 5 := by omega
              have dA2 := sq_dep ok ha (n := l9.toNat) (by omega)
              have dB2 := sq_dep ok hb (n := l10.toNat) (by omega)
              have hS2 : ∀ (k : Nat) (v : Int), rwR (bg_up g1 201 k v) S := fun k v => hS1.cg (by rw [bg_up_ne (by omega)]) (by rw [bg_up_ne (by omega)])
              have ei : ((i : Nat) : Int).toNat = i := Int.toNat_natCast _
              have ej : ((j : Nat) : Int).toNat = j := Int.toNat_natCast _
              have eTH : TH P l9.toNat = dep (sq S a) i - dep (sq S a) l9.toNat - (dep (sq S b) j - dep (sq S b) l10.toNat) := by
                unfold TH
                rw [v1, hN, ei, q.2.2.2.1, ej, eA, eB, ← v1, ← v2]
              have eRS : RS P l9.toNat = l11 := by
                rw [v5]
                unfold RS flgs
                rw [v1, hN, ei, q.2.2.2.1, ej, show (((lst (FA P) i).toNat : Nat) : Int) = lst (FA P) i by omega]
              rw [← v1] at hT9
              refine bg_iload12 (pc := 162) X1 dL_walk_162 ?_
              refine bg_iconst (pc := 164) X1 dL_walk_164 (by decide) ?_
              refine bg_icmp_ne (pc := 165) X1 (tgt := 271) dL_walk_165 (by decide) (fun u165 => ?_) (fun u165 => ?_)
              · exfalso; omega
              · refine bg_aload5 (pc := 168) X1 dL_walk_168 ?_
                refine bg_bipush (pc := 170) X1 dL_walk_170 rfl (by decide) ?_
                refine bq_iaload (pc := 172) X1 dL_walk_172 (by first | assumption | rfl) (by omega) ?_
                rw [e42]
                refine bg_if_le (pc := 173) X1 (tgt := 251) dL_walk_173 (by decide) (fun u173 => ?_) (fun u173 => ?_)
                · exfalso; omega
                · refine bg_aload5 (pc := 176) X1 dL_walk_176 ?_
                  refine bg_bipush (pc := 178) X1 dL_walk_178 rfl (by decide) ?_
                  refine bq_iaload (pc := 180) X1 dL_walk_180 (by first | assumption | rfl) (by omega) ?_
                  rw [e43, W10]
                  refine bg_istore14 (pc := 181) X1 dL_walk_181 ?_
                  refine bg_aload5 (pc := 183) X1 dL_walk_183 ?_
                  refine bg_bipush (pc := 185) X1 dL_walk_185 rfl (by decide) ?_
                  refine bg_iload14 (pc := 187) X1 dL_walk_187 ?_
                  refine bg_iadd (pc := 189) X1 dL_walk_189 (by omega) ?_
                  refine bg_iload9 (pc := 190) X1 dL_walk_190 ?_
                  refine bq_iastore (pc := 192) X1 dL_walk_192 (by first | assumption | rfl) (by omega) ?_
                  rw [show (24 + (t : Int)).toNat = 24 + t by omega]
                  refine bg_aload5 (pc := 193) X1 dL_walk_193 ?_
                  refine bg_bipush (pc := 195) X1 dL_walk_195 rfl (by decide) ?_
                  refine bg_iload14 (pc := 197) X1 dL_walk_197 ?_
                  refine bg_iadd (pc := 199) X1 dL_walk_199 (by omega) ?_
                  refine bg_aload1 (pc := 200) X1 dL_walk_200 ?_
                  refine bg_iload2 (pc := 201) X1 dL_walk_201 ?_
                  refine bg_iload7 (pc := 202) X1 dL_walk_202 ?_
                  refine bq_S3i (pc := 204) X1 (c_L_depth (hS2 _ _) ok h6' ha ⟨by omega, by omega⟩) sL_depth lL_32 rfl (by decide) dL_walk_204 (by exact Nat.le_of_ble_eq_true rfl) (by decide) ?_
                  rintro _ _ ⟨h9, h8⟩
                  obtain rfl := h9.symm
                  obtain rfl := h8.symm
                  clear h9 h8
                  rw [ei]
                  refine bg_aload1 (pc := 207) X1 dL_walk_207 ?_
                  refine bg_iload2 (pc := 208) X1 dL_walk_208 ?_
                  refine bg_iload9 (pc := 209) X1 dL_walk_209 ?_
                  refine bq_S3i (pc := 211) X1 (c_L_depth (hS2 _ _) ok h6' ha ⟨by omega, by omega⟩) sL_depth lL_32 rfl (by decide) dL_walk_211 (by exact Nat.le_of_ble_eq_true rfl) (by decide) ?_
                  rintro _ _ ⟨h9, h8⟩
                  obtain rfl := h9.symm
                  obtain rfl := h8.symm
                  clear h9 h8
                  refine bg_isub (pc := 214) X1 dL_walk_214 (by omega) ?_
                  refine bg_aload1 (pc := 215) X1 dL_walk_215 ?_
                  refine bg_iload3 (pc := 216) X1 dL_walk_216 ?_
                  refine bg_iload8 (pc := 217) X1 dL_walk_217 ?_
                  refine bq_S3i (pc := 219) X1 (c_L_depth (hS2 _ _) ok h6' hb ⟨by omega, by omega⟩) sL_depth lL_32 rfl (by decide) dL_walk_219 (by exact Nat.le_of_ble_eq_true rfl) (by decide) ?_
                  rintro _ _ ⟨h9, h8⟩
                  obtain rfl := h9.symm
                  obtain rfl := h8.symm
                  clear h9 h8
                  rw [ej]
                  refine bg_isub (pc := 222) X1 dL_walk_222 (by omega) ?_
                  refine bg_aload1 (pc := 223) X1 dL_walk_223 ?_
                  refine bg_iload3 (pc := 224) X1 dL_walk_224 ?_
                  refine bg_iload10 (pc := 225) X1 dL_walk_225 ?_
                  refine bq_S3i (pc := 227) X1 (c_L_depth (hS2 _ _) ok h6' hb ⟨by omega, by omega⟩) sL_depth lL_32 rfl (by decide) dL_walk_227 (by exact Nat.le_of_ble_eq_true rfl) (by decide) ?_
                  rintro _ _ ⟨h9, h8⟩
                  obtain rfl := h9.symm
                  obtain rfl := h8.symm
                  clear h9 h8
                  refine bg_iadd (pc := 230) X1 dL_walk_230 (by omega) ?_
                  refine bq_iastore (pc := 231) X1 dL_walk_231 (by first | assumption | rfl) (by omega) ?_
                  rw [show (30 + (t : Int)).toNat = 30 + t by omega]
                  refine bg_aload5 (pc := 232) X1 dL_walk_232 ?_
                  refine bg_bipush (pc := 234) X1 dL_walk_234 rfl (by decide) ?_
                  refine bg_iload14 (pc := 236) X1 dL_walk_236 ?_
                  refine bg_iadd (pc := 238) X1 dL_walk_238 (by omega) ?_
                  refine bg_iload11 (pc := 239) X1 dL_walk_239 ?_
                  refine bq_iastore (pc := 241) X1 dL_walk_241 (by first | assumption | rfl) (by omega) ?_
                  rw [show (36 + (t : Int)).toNat = 36 + t by omega]
                  refine bg_aload5 (pc := 242) X1 dL_walk_242 ?_
                  refine bg_bipush (pc := 244) X1 dL_walk_244 rfl (by decide) ?_
                  refine bg_dup2 (pc := 246) X1 dL_walk_246 ?_
                  refine bq_iaload (pc := 247) X1 dL_walk_247 (by first | assumption | rfl) (by omega) ?_
                  rw [show (43 : Int).toNat = 43 from rfl, up_k (by omega), up_k (by omega), up_k (by omega), W10]
                  refine bg_iconst (pc := 248) X1 dL_walk_248 (by decide) ?_
                  refine bg_iadd (pc := 249) X1 dL_walk_249 (by omega) ?_
                  refine bq_iastore (pc := 250) X1 dL_walk_250 (by first | assumption | rfl) (by omega) ?_
                  refine m251 _ _ hs1 (fun x h1 => by rw [bg_up_ne h1, bg_up_ne h1, bg_up_ne h1, bg_up_ne h1]) (fun k h1 => by rw [up_k (by omega), up_k (by omega), up_k (by omega), up_k (by omega)]) (by rw [up_k (by omega), up_k (by omega), up_k (by omega), up_k (by omega)]) ?_
                  rw [hT9, v1]
                  refine W1.add ht ht5 (by rw [show (43 : Int).toNat = 43 from rfl, up_eq]) (fun k k1 k2 k3 k4 k5 k6 => by rw [up_k (by omega), up_k (by omega), up_k (by omega), up_k (by omega)]) ?_ ?_ ?_
                  · rw [up_k (by omega), up_k (by omega), up_k (by omega), up_eq]
                  · rw [up_k (by omega), up_k (by omega), up_eq, ← v1]
                    show _ = TH P l9.toNat
                    rw [eTH]; omega
                  · rw [up_k (by omega), up_eq, ← v1]
                    exact eRS.symm
            · have hth : thrL g1 (TTn P i) := by
                rcases W5 with h5 | h5
                · rw [TTn_first h5.1]
                  rw [h5.1] at W1
                  exact W1
                · omega
              refine bg_iload12 (pc := 162) X1 dL_walk_162 ?_
              refine bg_iconst (pc := 164) X1 dL_walk_164 (by decide) ?_
              refine bg_icmp_ne (pc := 165) X1 (tgt := 271) dL_walk_165 (by decide) (fun u165 => ?_) (fun u165 => ?_)
              · exfalso; omega
              · refine bg_aload5 (pc := 168) X1 dL_walk_168 ?_
                refine bg_bipush (pc := 170) X1 dL_walk_170 rfl (by decide) ?_
                refine bq_iaload (pc := 172) X1 dL_walk_172 (by first | assumption | rfl) (by omega) ?_
                rw [e42]
                refine bg_if_le (pc := 173) X1 (tgt := 251) dL_walk_173 (by decide) (fun u173 => ?_) (fun u173 => ?_)
                · exact m251 g1 _ hs1 (fun x _ => rfl) (fun k _ => rfl) rfl hth
                · exfalso; omega
          · skip
            refine bg_iload12 (pc := 162) X1 dL_walk_162 ?_
            refine bg_iconst (pc := 164) X1 dL_walk_164 (by decide) ?_
            refine bg_icmp_ne (pc := 165) X1 (tgt := 271) dL_walk_165 (by decide) (fun u165 => ?_) (fun u165 => ?_)
            · refine bg_iload11 (pc := 271) X1 dL_walk_271 ?_
              refine bg_iload12 (pc := 273) X1 dL_walk_273 ?_
              refine bg_iconst (pc := 275) X1 dL_walk_275 (by decide) ?_
              refine bg_icmp_ne (pc := 276) X1 (tgt := 283) dL_walk_276 (by decide) (fun u276 => ?_) (fun u276 => ?_)
              · refine bg_iload12 (pc := 283) X1 dL_walk_283 ?_
                refine bg_iconst (pc := 285) X1 dL_walk_285 (by decide) ?_
                refine bg_icmp_ne (pc := 286) X1 (tgt := 293) dL_walk_286 (by decide) (fun u286 => ?_) (fun u286 => ?_)
                · refine bg_iload12 (pc := 293) X1 dL_walk_293 ?_
                  refine bg_iconst (pc := 295) X1 dL_walk_295 (by decide) ?_
                  refine bg_icmp_ne (pc := 296) X1 (tgt := 303) dL_walk_296 (by decide) (fun u296 => ?_) (fun u296 => ?_)
                  · exfalso; omega
                  · refine bg_iconst (pc := 299) X1 dL_walk_299 (by decide) ?_
                    refine bg_goto (pc := 300) X1 (tgt := 304) dL_walk_300 (by decide) ?_
                    refine bg_ior (pc := 304) X1 dL_walk_304 ?_
                    refine bg_istore11 (pc := 305) X1 dL_walk_305 ?_
                    exact oth1 hs1 _ (by first | (rw [if_pos (by omega)]) | (rw [if_neg (by omega), if_pos (by omega)]) | (rw [if_neg (by omega), if_neg (by omega)]))
                · refine bg_iconst (pc := 289) X1 dL_walk_289 (by decide) ?_
                  refine bg_goto (pc := 290) X1 (tgt := 304) dL_walk_290 (by decide) ?_
                  refine bg_ior (pc := 304) X1 dL_walk_304 ?_
                  refine bg_istore11 (pc := 305) X1 dL_walk_305 ?_
                  exact oth1 hs1 _ (by first | (rw [if_pos (by omega)]) | (rw [if_neg (by omega), if_pos (by omega)]) | (rw [if_neg (by omega), if_neg (by omega)]))
              · refine bg_iconst (pc := 279) X1 dL_walk_279 (by decide) ?_
                refine bg_goto (pc := 280) X1 (tgt := 304) dL_walk_280 (by decide) ?_
                refine bg_ior (pc := 304) X1 dL_walk_304 ?_
                refine bg_istore11 (pc := 305) X1 dL_walk_305 ?_
                exact oth1 hs1 _ (by first | (rw [if_pos (by omega)]) | (rw [if_neg (by omega), if_pos (by omega)]) | (rw [if_neg (by omega), if_neg (by omega)]))
            · exfalso; omega
        rw [eA] at I1 hgo
        rw [eB] at I2 hgo
        refine bg_iload6 (pc := 38) X1 dL_walk_38 ?_
        refine bg_if_lt (pc := 40) X1 (tgt := 428) dL_walk_40 (by decide) (fun u40 => ?_) (fun u40 => ?_)
        · exfalso; omega
        · refine bg_iload7 (pc := 43) X1 dL_walk_43 ?_
          refine bg_iload8 (pc := 45) X1 dL_walk_45 ?_
          refine bg_iadd (pc := 47) X1 dL_walk_47 (by omega) ?_
          refine bg_aload0 (pc := 48) X1 dL_walk_48 ?_
          refine bg_bipush (pc := 49) X1 dL_walk_49 rfl (by decide) ?_
          refine bg_iload2 (pc := 51) X1 dL_walk_51 ?_
          refine bg_iadd (pc := 52) X1 dL_walk_52 (by omega) ?_
          refine bq_iaload (pc := 53) X1 dL_walk_53 (by first | assumption | rfl) (by omega) ?_
          rw [rw_len hS1 ha]
          refine bg_aload0 (pc := 54) X1 dL_walk_54 ?_
          refine bg_bipush (pc := 55) X1 dL_walk_55 rfl (by decide) ?_
          refine bg_iload3 (pc := 57) X1 dL_walk_57 ?_
          refine bg_iadd (pc := 58) X1 dL_walk_58 (by omega) ?_
          refine bq_iaload (pc := 59) X1 dL_walk_59 (by first | assumption | rfl) (by omega) ?_
          rw [rw_len hS1 hb]
          refine bg_iadd (pc := 60) X1 dL_walk_60 (by omega) ?_
          refine bg_icmp_ge (pc := 61) X1 (tgt := 428) dL_walk_61 (by decide) (fun u61 => ?_) (fun u61 => ?_)
          · exfalso; exact h0 (eS.trans (hend.mpr ⟨by rw [eA]; omega, by rw [eB]; omega⟩))
          · refine bg_iconst (pc := 64) X1 dL_walk_64 (by decide) ?_
            refine bg_istore12 (pc := 65) X1 dL_walk_65 ?_
            refine bg_iconst (pc := 67) X1 dL_walk_67 (by decide) ?_
            refine bg_istore13 (pc := 68) X1 dL_walk_68 ?_
            exact srch _ mid
  refine bg_aload0 (pc := 0) X1 dL_walk_0 ?_
  refine bg_aload1 (pc := 1) X1 dL_walk_1 ?_
  refine bg_iload2 (pc := 2) X1 dL_walk_2 ?_
  refine bg_iload3 (pc := 3) X1 dL_walk_3 ?_
  refine bg_aload4 (pc := 4) X1 dL_walk_4 ?_
  refine bq_S5i (pc := 6) X1 (c_L_least hS ok h6 ha hb) sL_least lL_28 rfl (by decide) dL_walk_6 (by exact Nat.le_of_ble_eq_true rfl) (by decide) ?_
  rintro r6 g1 ⟨x1, x2, x3⟩
  rw [← hP] at x1 x2
  have hb0 := bw_B okP1 (i := 0) (j := 0) (Nat.zero_le _) (Nat.zero_le _)
  refine bg_istore6 (pc := 9) X1 dL_walk_9 ?_
  refine bg_iconst (pc := 11) X1 dL_walk_11 (by decide) ?_
  refine bg_istore7 (pc := 12) X1 dL_walk_12 ?_
  refine bg_iconst (pc := 14) X1 dL_walk_14 (by decide) ?_
  refine bg_istore8 (pc := 15) X1 dL_walk_15 ?_
  refine bg_iconst (pc := 17) X1 dL_walk_17 (by decide) ?_
  refine bg_istore9 (pc := 18) X1 dL_walk_18 ?_
  refine bg_iconst (pc := 20) X1 dL_walk_20 (by decide) ?_
  refine bg_istore10 (pc := 21) X1 dL_walk_21 ?_
  refine bg_iconst (pc := 23) X1 dL_walk_23 (by decide) ?_
  refine bg_istore11 (pc := 24) X1 dL_walk_24 ?_
  refine bg_aload5 (pc := 26) X1 dL_walk_26 ?_
  refine bg_bipush (pc := 28) X1 dL_walk_28 rfl (by decide) ?_
  refine bg_iconst (pc := 30) X1 dL_walk_30 (by decide) ?_
  refine bq_iastore (pc := 31) X1 dL_walk_31 (by first | assumption | rfl) (by omega) ?_
  refine bg_aload5 (pc := 32) X1 dL_walk_32 ?_
  refine bg_bipush (pc := 34) X1 dL_walk_34 rfl (by decide) ?_
  refine bg_iconst (pc := 36) X1 dL_walk_36 (by decide) ?_
  refine bq_iastore (pc := 37) X1 dL_walk_37 (by first | assumption | rfl) (by omega) ?_
  refine loop 48 0 r6 0 0 0 _ _ _ _ rfl (by omega) (hS.cg (by rw [bg_up_ne (by omega), bg_up_ne (by omega), x3 198 (by omega)]) (by rw [bg_up_ne (by omega), bg_up_ne (by omega), x3 199 (by omega)])) (fun x z hx hz => by rw [bg_up_ne (by omega), bg_up_ne (by omega)]; exact x2 x z hx hz) ⟨fun k hk => absurd hk (Nat.not_lt_zero _), fun k hk => absurd hk (Nat.not_lt_zero _)⟩ ⟨⟨by rw [show (43 : Int).toNat = 43 from rfl, up_eq]; rfl, fun t e h => ?_⟩, by rw [show (43 : Int).toNat = 43 from rfl, show (42 : Int).toNat = 42 from rfl, up_k (by omega), up_eq]; rfl, fun h => absurd (show (0 : Int) ≤ -1 from h) (by decide)⟩ (fun x hx => by rw [bg_up_ne (by omega), bg_up_ne (by omega), x3 x (by omega)])
  have h : ([] : List bm_T)[t]? = some e := h
  simp at h
