/-! the law of p29: division of numbers that are not negative; what its rows of ints hold -/
section DIVS
variable {κ : bg_K} {y : bg_Y} {cs : Nat × Nat} {cc : ByteArray} {own : String} {dd mcc mss pc : Nat} {ls : List (Option bg_V)} {st : List bg_V} {M : bg_M} {g : bg_E}
theorem ofInt_ediv {p q : Int} (hp : R32 p) (hq : R32 q) (h0 : 0 ≤ p ∧ 0 < q) : Int32.ofInt p / Int32.ofInt q = Int32.ofInt (p / q) := by
  rw [← Int.tdiv_eq_ediv_of_nonneg h0.1]
  exact (Int32.ofInt_tdiv hp.1 hp.2 hq.1 hq.2).symm
theorem R_ediv {p q : Int} (hp : R32 p) (h0 : 0 ≤ p ∧ 0 < q) : R32 (p / q) := by
  have h1 := Int.ediv_nonneg h0.1 (Int.le_of_lt h0.2)
  have h2 := Int.ediv_le_self q h0.1
  have h3 := hp.2
  exact ⟨by omega, by omega⟩
theorem R_emod {p q : Int} (hq : R32 q) (h0 : 0 ≤ p ∧ 0 < q) : R32 (p % q) := by
  have h1 := Int.emod_nonneg p (show q ≠ 0 by omega)
  have h2 := Int.emod_lt_of_pos p h0.2
  have h3 := hq.2
  exact ⟨by omega, by omega⟩
theorem bg_idiv (X : bg_X κ y cc own dd mcc mss) {p q : Int} (hd : decode cc pc = .ok (.idiv, 1)) (h0 : 0 ≤ p ∧ 0 < q) (kk : bg_G κ y cs (pc + 1) ls (.inl (p / q) :: st) M) : bg_G κ y cs pc ls (.inl q :: .inl p :: st) M := by
  intro H locs a hD hS hL hR
  obtain ⟨hx, hb, hown, hts, hK, hbs, hlk, -⟩ := X
  have hq : R32 q := hR.1
  have hp : R32 p := hR.2.1
  have hne : ¬ Int32.ofInt q = 0 := fun e => by have := (bg_eq (b := 0) hq (by decide)).mp e; omega
  refine lv_idiv hx hb hd hne ?_
  rw [ofInt_ediv hp hq h0]
  exact kk H locs a hD hS hL ⟨R_ediv hp h0, hR.2.2⟩
theorem bg_irem (X : bg_X κ y cc own dd mcc mss) {p q : Int} (hd : decode cc pc = .ok (.irem, 1)) (h0 : 0 ≤ p ∧ 0 < q) (kk : bg_G κ y cs (pc + 1) ls (.inl (p % q) :: st) M) : bg_G κ y cs pc ls (.inl q :: .inl p :: st) M := by
  intro H locs a hD hS hL hR
  obtain ⟨hx, hb, hown, hts, hK, hbs, hlk, -⟩ := X
  have hq : R32 q := hR.1
  have hp : R32 p := hR.2.1
  have hne : ¬ Int32.ofInt q = 0 := fun e => by have := (bg_eq (b := 0) hq (by decide)).mp e; omega
  refine lv_irem hx hb hd hne ?_
  rw [ofInt_ediv hp hq h0, ← Int32.ofInt_mul, ← Int32.ofInt_sub, show p - p / q * q = p % q by rw [Int.emod_def, Int.mul_comm]]
  exact kk H locs a hD hS hL ⟨R_emod hq h0, hR.2.2⟩
/-- a row of ints made on the way -/
def bg_nw (g : bg_E) (N : Nat) : bg_E := fun x j => if x = bg_PZ then (if j = 0 then g bg_PZ 0 + 1 else if j = bg_n g then (N : Int) else g bg_PZ j) else if x = bg_n g then 0 else g x j
theorem bg_n_ne {g : bg_E} (h : g bg_PZ 0 ≤ 1000000) : bg_n g ≠ bg_PZ := by
  show 202 + (g bg_PZ 0).toNat ≠ 1000000000000
  omega
theorem bg_nw_P {g : bg_E} {N : Nat} : bg_nw g N bg_PZ (bg_n g) = (N : Int) := by
  unfold bg_nw
  rw [if_pos rfl, if_neg (by show ¬ 202 + (g bg_PZ 0).toNat = 0; omega), if_pos rfl]
theorem bg_nw_0 {g : bg_E} {N : Nat} : bg_nw g N bg_PZ 0 = g bg_PZ 0 + 1 := by
  unfold bg_nw
  rw [if_pos rfl, if_pos rfl]
theorem bg_nw_n {g : bg_E} {N : Nat} (h0 : 0 ≤ g bg_PZ 0) : bg_n (bg_nw g N) = bg_n g + 1 := by
  show 202 + (bg_nw g N bg_PZ 0).toNat = 202 + (g bg_PZ 0).toNat + 1
  rw [bg_nw_0]
  omega
theorem bg_nw_lo {g : bg_E} {N x : Nat} (h : x < 202) : bg_nw g N x = g x := by
  funext j
  unfold bg_nw
  rw [if_neg (by unfold bg_PZ; omega), if_neg (by show ¬ x = 202 + (g bg_PZ 0).toNat; omega)]
theorem bq_newI (X : bg_X κ y cc own dd mcc mss) {c1 c2 : Nat} {i : Int} {N : Nat} (hd : decode cc pc = .ok (.newarray .int, 2)) (hi : i = (N : Int)) (hN : N ≤ 1000) (h0 : 0 ≤ g bg_PZ 0 ∧ g bg_PZ 0 ≤ 1000000) (h1 : c1 + 1 ≤ mcc) (h2 : c2 + N ≤ mss) (kk : bg_G κ y (c1 + 1, c2 + N) (pc + 2) ls (.inr (bg_n g) :: st) (bg_O (bg_nw g N))) : bg_G κ y (c1, c2) pc ls (.inl i :: st) (bg_O g) := by
  intro H locs a hD hS hL hR
  obtain ⟨hx, hb, hown, hts, hK, hbs, hlk, r1, r2, r3, r4⟩ := X
  have hz : H.size = y.1 + bg_n g := hD.1
  have hiR : R32 i := hR.1
  have hix := bg_idx hiR
  refine va_newaK (atype := .int) (N := N) hx hb (hts _ qA_int) rfl hd rfl (fun z => by have := (bg_lt (b := 0) hiR (by decide)).mp z; omega) (by rw [hix]; omega) (by show N * 4 ≤ _; omega) (Nat.le_trans h1 r3) (Nat.le_trans h2 r4) rfl fun H1 cA e1 z1 o1 hAr hNm => ?_
  have hcA : cA = bg_cA y 8 := Option.some.inj (hNm.symm.trans (hK.1.2 0 _ rfl).2)
  subst hcA
  have hne := bg_n_ne h0.2
  have hDn : bg_D y (bg_O (bg_nw g N)) H1 := by
    obtain ⟨d1, d2, d3⟩ := hD
    refine ⟨?_, fun id hid => ?_, fun x j => ?_⟩
    · show H1.size = y.1 + bg_n (bg_nw g N)
      rw [bg_nw_n h0.1, z1, hz]; omega
    · have hid : id < bg_n (bg_nw g N) := hid
      rw [bg_nw_n h0.1] at hid
      by_cases e : id = bg_n g
      · subst e
        intro ci' N' hk'
        have hk : bg_kdd (bg_nw g N) (bg_n g) = some (8, N) := bg_kdD (Nat.le_add_right _ _) bg_nw_P
        cases hk.symm.trans hk'
        refine ⟨fun h8 => absurd h8 (by omega), fun _ => ?_⟩
        rw [← hz, e1]
        congr 2
        funext j
        unfold bg_ae
        rw [if_pos rfl]
        have hz0 : bg_nw g N (bg_n g) j = 0 := by
          unfold bg_nw
          rw [if_neg hne, if_pos rfl]
        show _ = Value.int (Int32.ofInt (bg_nw g N (bg_n g) j))
        rw [hz0]
        rfl
      · have hid2 : id < bg_n g := by omega
        have hidP : id ≠ bg_PZ := by
          have : bg_n g ≤ 202 + 1000000 := by show 202 + (g bg_PZ 0).toNat ≤ _; omega
          unfold bg_PZ
          omega
        refine (d2 id hid2).kept (o1 _ (by omega)) rfl ?_ ?_
        · funext j
          show bg_nw g N id j = g id j
          unfold bg_nw
          rw [if_neg hidP, if_neg e]
        · rcases Nat.lt_or_ge id 202 with h | h
          · exact bg_kdd_lo h
          · show bg_kdd (bg_nw g N) id = bg_kdd g id
            unfold bg_kdd
            have : bg_nw g N bg_PZ id = g bg_PZ id := by
              unfold bg_nw
              rw [if_pos rfl, if_neg (by omega), if_neg e]
            rw [this]
    · show R32 (bg_nw g N x j)
      unfold bg_nw
      split
      · split
        · exact ⟨by omega, by omega⟩
        · split
          · exact ⟨by omega, by omega⟩
          · exact d3 _ _
      · split
        · decide
        · exact d3 _ _
  have hgoal := kk H1 locs a hDn (hS.new z1 o1) hL ⟨trivial, hR.2⟩
  rw [hz]
  exact hgoal
theorem bq_ialoadD (X : bg_X κ y cc own dd mcc mss) {a N : Nat} {i : Int} (hd : decode cc pc = .ok (.iaload, 1)) (hk : bg_kdd g a = some (8, N)) (ha : a < bg_n g) (h0 : 0 ≤ i ∧ i < N) (kk : bg_G κ y cs (pc + 1) ls (.inl (g a i.toNat) :: st) (bg_O g)) : bg_G κ y cs pc ls (.inl i :: .inr a :: st) (bg_O g) := bg_ialoadD X hd hk ha h0 kk
theorem bq_iastoreD (X : bg_X κ y cc own dd mcc mss) {a N : Nat} {i v : Int} (hd : decode cc pc = .ok (.iastore, 1)) (hk : bg_kdd g a = some (8, N)) (hne : a ≠ bg_PZ) (ha : a < bg_n g) (h0 : 0 ≤ i ∧ i < N) (kk : bg_G κ y cs (pc + 1) ls st (bg_O (bg_up g a i.toNat v))) : bg_G κ y cs pc ls (.inl v :: .inl i :: .inr a :: st) (bg_O g) := bg_iastoreD X hd hk hne ha h0 (bg_oP (bg_up_ne (Ne.symm hne)) kk)
end DIVS
theorem band_31 (z : Int) : 0 ≤ bg_band z 2147483647 := by
  unfold bg_band
  rw [← Int32.toInt_toBitVec, Int32.toBitVec_and]
  have hm : ((Int32.ofInt z).toBitVec &&& (Int32.ofInt 2147483647).toBitVec).msb = false := by
    rw [BitVec.msb_and]
    have : (Int32.ofInt 2147483647).toBitVec.msb = false := by decide
    rw [this, Bool.and_false]
  rw [BitVec.toInt_eq_msb_cond, hm]
  simp
theorem band_3 (z : Int) : 0 ≤ bg_band z 3 ∧ bg_band z 3 ≤ 3 := by
  unfold bg_band
  rw [← Int32.toInt_toBitVec, Int32.toBitVec_and]
  have hm : ((Int32.ofInt z).toBitVec &&& (Int32.ofInt 3).toBitVec).msb = false := by
    rw [BitVec.msb_and]
    have : (Int32.ofInt 3).toBitVec.msb = false := by decide
    rw [this, Bool.and_false]
  rw [BitVec.toInt_eq_msb_cond, hm, BitVec.toNat_and]
  have h3 : (Int32.ofInt 3).toBitVec.toNat = 3 := by decide
  rw [h3]
  have := Nat.and_le_right (n := (Int32.ofInt z).toBitVec.toNat) (m := 3)
  simp only [Bool.false_eq_true, if_false]
  omega
/-- what its rows hold of a state -/
def rwR (g : bg_E) (S : bm_S) : Prop := (∀ k, k < 5 → g 198 k = S.1 k) ∧ g 198 5 = S.2.1 ∧ (∀ h, h < 4 → g 198 (6 + h) = S.2.2.1 h ∧ g 198 (10 + h) = ((S.2.2.2.1 h).length : Int)) ∧ (∀ h k, h < 4 → k < (S.2.2.2.1 h).length → g 199 (12 * h + 2 * k) = mrk (S.2.2.2.1 h) k ∧ g 199 (12 * h + 2 * k + 1) = th (S.2.2.2.1 h) k) ∧ ∀ a, 1 ≤ a → a < 5 → g 198 (13 + a) = S.2.2.2.2 a
def len6 (S : bm_S) : Prop := ∀ h, h < 4 → (S.2.2.2.1 h).length ≤ 6
abbrev sq (S : bm_S) (h : Int) : bm_Q := S.2.2.2.1 h.toNat
abbrev mq (S : bm_S) (a b : Int) : bm_P := mkP S a.toNat b.toNat
theorem mq_ok {S : bm_S} (ok : staOK S) {a b : Int} (ha : isHo a) (hb : isHo b) : okP (mq S a b) := mkP_ok ok (by omega) (by omega)
theorem rwR.cg {g g' : bg_E} {S : bm_S} (h : rwR g S) (h1 : g' 198 = g 198) (h2 : g' 199 = g 199) : rwR g' S := by
  unfold rwR
  rw [h1, h2]
  exact h
theorem rw_num {g : bg_E} {S : bm_S} (h : rwR g S) {w : Int} (hw : 0 ≤ w ∧ w < 5) : g 198 w.toNat = S.1 w.toNat := h.1 _ (by omega)
theorem rw_col {g : bg_E} {S : bm_S} (h : rwR g S) {a : Int} (ha : isHo a) : g 198 (6 + a).toNat = S.2.2.1 a.toNat := by
  rw [show (6 + a).toNat = 6 + a.toNat by omega]; exact (h.2.2.1 _ (by omega)).1
theorem rw_len {g : bg_E} {S : bm_S} (h : rwR g S) {a : Int} (ha : isHo a) : g 198 (10 + a).toNat = ((sq S a).length : Int) := by
  rw [show (10 + a).toNat = 10 + a.toNat by omega]; exact (h.2.2.1 _ (by omega)).2
theorem rw_mrk {g : bg_E} {S : bm_S} (h : rwR g S) {a b : Int} (ha : isHo a) (hb : 0 ≤ b ∧ b < ((sq S a).length : Int)) : g 199 (12 * a + 2 * b).toNat = mrk (sq S a) b.toNat := by
  rw [show (12 * a + 2 * b).toNat = 12 * a.toNat + 2 * b.toNat by omega]; exact (h.2.2.2.1 _ _ (by omega) (show b.toNat < (sq S a).length by omega)).1
theorem rw_th {g : bg_E} {S : bm_S} (h : rwR g S) {a b : Int} (ha : isHo a) (hb : 0 ≤ b ∧ b < ((sq S a).length : Int)) : g 199 (12 * a + 2 * b + 1).toNat = th (sq S a) b.toNat := by
  rw [show (12 * a + 2 * b + 1).toNat = 12 * a.toNat + 2 * b.toNat + 1 by omega]; exact (h.2.2.2.1 _ _ (by omega) (show b.toNat < (sq S a).length by omega)).2
theorem sq_OK {S : bm_S} (ok : staOK S) {a : Int} (ha : isHo a) : colOK (sq S a) ∧ (sq S a).length ≤ 24 := ok.2.2.2.2.2.2.2 a.toNat (by omega)
theorem sq_6 {S : bm_S} (h6 : len6 S) {a : Int} (ha : isHo a) : (sq S a).length ≤ 6 := h6 a.toNat (by omega)
theorem sq_dep {S : bm_S} (ok : staOK S) {a : Int} (ha : isHo a) {n : Nat} (hn : n ≤ (sq S a).length) : 0 ≤ dep (sq S a) n ∧ dep (sq S a) n ≤ 99 * n := by
  have h1 := sq_OK ok ha
  have h2 := dep_le h1.1 hn
  omega
theorem b2i_c {p q : Prop} [Decidable p] [Decidable q] (h : p ↔ q) : b2i p = b2i q := by
  by_cases hp : p
  · rw [b2i_t hp, b2i_t (h.mp hp)]
  · rw [b2i_f hp, b2i_f (fun hq => hp (h.mpr hq))]
def lo (v n : Int) : Int := bg_band v 2147483647 % n
theorem lo_R {v n : Int} (hn : 0 < n) : 0 ≤ lo v n ∧ lo v n < n := ⟨Int.emod_nonneg _ (by omega), Int.emod_lt_of_pos _ hn⟩
theorem c_L_low {y : bg_Y} {g : bg_E} {v n : Int} (hn : 0 < n) : bg_Si y 0 mL_low [.inl v, .inl n] g (fun r g' => r = lo v n ∧ g' = g) := by
  have hb := band_31 v
  refine bg_enter pnL (Nat.le_of_ble_eq_true rfl) (fun κ X hR hg => ?_)
  have X1 : bg_X κ y cL_low RL 0 0 0 := X.1
  have hg : ∀ a k, R32 (g a k) := hg
  show bg_g κ y 0 [some (.inl v), some (.inl n)] [] g
  refine bg_iload0 (pc := 0) X1 dL_low_0 ?_
  refine bg_ldc (pc := 1) X1 dL_low_1 kL_8 (by decide) ?_
  refine bg_iand (pc := 3) X1 dL_low_3 ?_
  refine bg_iload1 (pc := 4) X1 dL_low_4 ?_
  refine bg_irem (pc := 5) X1 dL_low_5 ⟨hb, hn⟩ ?_
  exact bo_iret (pc := 6) X rfl dL_low_6 (fun hi => ⟨by first | rfl | omega, rfl⟩)
theorem c_L_off {y : bg_Y} {g : bg_E} {a b : Int} (ha : -100000 ≤ a ∧ a ≤ 100000) (hb : -100000 ≤ b ∧ b ≤ 100000) : bg_Si y 0 mL_off [.inl a, .inl b] g (fun r g' => r = ((a - b).natAbs : Int) ∧ g' = g) := by
  refine bg_enter pnL (Nat.le_of_ble_eq_true rfl) (fun κ X hR hg => ?_)
  have X1 : bg_X κ y cL_off RL 0 0 0 := X.1
  have hg : ∀ a k, R32 (g a k) := hg
  show bg_g κ y 0 [some (.inl a), some (.inl b)] [] g
  refine bg_iload0 (pc := 0) X1 dL_off_0 ?_
  refine bg_iload1 (pc := 1) X1 dL_off_1 ?_
  refine bg_icmp_le (pc := 2) X1 (tgt := 11) dL_off_2 (by decide) (fun u2 => ?_) (fun u2 => ?_)
  · refine bg_iload1 (pc := 11) X1 dL_off_11 ?_
    refine bg_iload0 (pc := 12) X1 dL_off_12 ?_
    refine bg_isub (pc := 13) X1 dL_off_13 (by omega) ?_
    exact bo_iret (pc := 14) X rfl dL_off_14 (fun hi => ⟨by first | rfl | omega, rfl⟩)
  · refine bg_iload0 (pc := 5) X1 dL_off_5 ?_
    refine bg_iload1 (pc := 6) X1 dL_off_6 ?_
    refine bg_isub (pc := 7) X1 dL_off_7 (by omega) ?_
    refine bg_goto (pc := 8) X1 (tgt := 14) dL_off_8 (by decide) ?_
    exact bo_iret (pc := 14) X rfl dL_off_14 (fun hi => ⟨by first | rfl | omega, rfl⟩)
theorem c_L_length {y : bg_Y} {g : bg_E} {h : Int} {S : bm_S} (hS : rwR g S) (ok : staOK S) (h6 : len6 S) (hh : isHo h) : bg_Si y 0 mL_length [.inr 198, .inr 199, .inl h] g (fun r g' => r = dep (sq S h) (sq S h).length ∧ g' = g) := by
  have hl := sq_6 h6 hh
  refine bg_enter pnL (Nat.le_of_ble_eq_true rfl) (fun κ X hR hg => ?_)
  have X1 : bg_X κ y cL_length RL 0 0 0 := X.1
  have hg : ∀ a k, R32 (g a k) := hg
  show bg_g κ y 0 [some (.inr 198), some (.inr 199), some (.inl h), none, none] [] g
  have loop : ∀ (n k : Nat) (s a : Int), s = dep (sq S h) k → a = (k : Int) → k + n = (sq S h).length → bg_g κ y 5 [some (.inr 198), some (.inr 199), some (.inl h), some (.inl s), some (.inl a)] [] g := by
    intro n
    induction n with
    | zero =>
      intro k s a hs ha h2
      refine bg_iload4 (pc := 5) X1 dL_length_5 ?_
      refine bg_aload0 (pc := 7) X1 dL_length_7 ?_
      refine bg_bipush (pc := 8) X1 dL_length_8 rfl (by decide) ?_
      refine bg_iload2 (pc := 10) X1 dL_length_10 ?_
      refine bg_iadd (pc := 11) X1 dL_length_11 (by omega) ?_
      refine bq_iaload (pc := 12) X1 dL_length_12 (by first | assumption | rfl) (by omega) ?_
      rw [rw_len hS hh]
      refine bg_icmp_ge (pc := 13) X1 (tgt := 38) dL_length_13 (by decide) (fun u13 => ?_) (fun u13 => ?_)
      · refine bg_iload3 (pc := 38) X1 dL_length_38 ?_
        exact bo_iret (pc := 39) X rfl dL_length_39 (fun hi => ⟨by rw [hs]; congr 1, rfl⟩)
      · exfalso; omega
    | succ n ih =>
      intro k s a hs ha h2
      have h3 := sq_dep ok hh (n := k) (by omega)
      have h4 := thOK (sq_OK ok hh).1 (k := k) (by omega)
      refine bg_iload4 (pc := 5) X1 dL_length_5 ?_
      refine bg_aload0 (pc := 7) X1 dL_length_7 ?_
      refine bg_bipush (pc := 8) X1 dL_length_8 rfl (by decide) ?_
      refine bg_iload2 (pc := 10) X1 dL_length_10 ?_
      refine bg_iadd (pc := 11) X1 dL_length_11 (by omega) ?_
      refine bq_iaload (pc := 12) X1 dL_length_12 (by first | assumption | rfl) (by omega) ?_
      rw [rw_len hS hh]
      refine bg_icmp_ge (pc := 13) X1 (tgt := 38) dL_length_13 (by decide) (fun u13 => ?_) (fun u13 => ?_)
      · exfalso; omega
      · refine bg_iload3 (pc := 16) X1 dL_length_16 ?_
        refine bg_aload1 (pc := 17) X1 dL_length_17 ?_
        refine bg_bipush (pc := 18) X1 dL_length_18 rfl (by decide) ?_
        refine bg_iload2 (pc := 20) X1 dL_length_20 ?_
        refine bg_imul (pc := 21) X1 dL_length_21 (by omega) ?_
        refine bg_iconst (pc := 22) X1 dL_length_22 (by decide) ?_
        refine bg_iload4 (pc := 23) X1 dL_length_23 ?_
        refine bg_imul (pc := 25) X1 dL_length_25 (by omega) ?_
        refine bg_iadd (pc := 26) X1 dL_length_26 (by omega) ?_
        refine bg_iconst (pc := 27) X1 dL_length_27 (by decide) ?_
        refine bg_iadd (pc := 28) X1 dL_length_28 (by omega) ?_
        refine bq_iaload (pc := 29) X1 dL_length_29 (by first | assumption | rfl) (by omega) ?_
        rw [rw_th hS hh (by omega), show a.toNat = k by omega]
        refine bg_iadd (pc := 30) X1 dL_length_30 (by omega) ?_
        refine bg_istore3 (pc := 31) X1 dL_length_31 ?_
        refine bg_iinc4 (pc := 32) X1 dL_length_32 (by omega) ?_
        refine bg_goto (pc := 35) X1 (tgt := 5) dL_length_35 (by decide) ?_
        exact ih (k + 1) _ _ (by rw [hs]; rfl) (by omega) (by omega)
  refine bg_iconst (pc := 0) X1 dL_length_0 (by decide) ?_
  refine bg_istore3 (pc := 1) X1 dL_length_1 ?_
  refine bg_iconst (pc := 2) X1 dL_length_2 (by decide) ?_
  refine bg_istore4 (pc := 3) X1 dL_length_3 ?_
  exact loop _ 0 _ _ rfl rfl (Nat.zero_add _)
theorem c_L_depth {y : bg_Y} {g : bg_E} {h b : Int} {S : bm_S} (hS : rwR g S) (ok : staOK S) (h6 : len6 S) (hh : isHo h) (hb : 0 ≤ b ∧ b ≤ ((sq S h).length : Int)) : bg_Si y 0 mL_depth [.inr 199, .inl h, .inl b] g (fun r g' => r = dep (sq S h) b.toNat ∧ g' = g) := by
  have hl := sq_6 h6 hh
  have hd0 := sq_dep ok hh (n := b.toNat) (by omega)
  refine bg_enter pnL (Nat.le_of_ble_eq_true rfl) (fun κ X hR hg => ?_)
  have X1 : bg_X κ y cL_depth RL 0 0 0 := X.1
  have hg : ∀ a k, R32 (g a k) := hg
  show bg_g κ y 0 [some (.inr 199), some (.inl h), some (.inl b), none, none] [] g
  have loop : ∀ (k : Nat) (s a : Int), s = dep (sq S h) b.toNat - dep (sq S h) k → a = (k : Int) - 1 → (k : Int) ≤ b → bg_g κ y 7 [some (.inr 199), some (.inl h), some (.inl b), some (.inl s), some (.inl a)] [] g := by
    intro k
    induction k with
    | zero =>
      intro s a hs ha h2
      refine bg_iload4 (pc := 7) X1 dL_depth_7 ?_
      refine bg_if_lt (pc := 9) X1 (tgt := 34) dL_depth_9 (by decide) (fun u9 => ?_) (fun u9 => ?_)
      · refine bg_iload3 (pc := 34) X1 dL_depth_34 ?_
        exact bo_iret (pc := 35) X rfl dL_depth_35 (fun hi => ⟨by rw [hs]; simp [dep], rfl⟩)
      · exfalso; omega
    | succ k ih =>
      intro s a hs ha h2
      have h3 := sq_dep ok hh (n := k) (by omega)
      have h4 := thOK (sq_OK ok hh).1 (k := k) (by omega)
      have h5 : dep (sq S h) (k + 1) = dep (sq S h) k + th (sq S h) k := rfl
      refine bg_iload4 (pc := 7) X1 dL_depth_7 ?_
      refine bg_if_lt (pc := 9) X1 (tgt := 34) dL_depth_9 (by decide) (fun u9 => ?_) (fun u9 => ?_)
      · exfalso; omega
      · refine bg_iload3 (pc := 12) X1 dL_depth_12 ?_
        refine bg_aload0 (pc := 13) X1 dL_depth_13 ?_
        refine bg_bipush (pc := 14) X1 dL_depth_14 rfl (by decide) ?_
        refine bg_iload1 (pc := 16) X1 dL_depth_16 ?_
        refine bg_imul (pc := 17) X1 dL_depth_17 (by omega) ?_
        refine bg_iconst (pc := 18) X1 dL_depth_18 (by decide) ?_
        refine bg_iload4 (pc := 19) X1 dL_depth_19 ?_
        refine bg_imul (pc := 21) X1 dL_depth_21 (by omega) ?_
        refine bg_iadd (pc := 22) X1 dL_depth_22 (by omega) ?_
        refine bg_iconst (pc := 23) X1 dL_depth_23 (by decide) ?_
        refine bg_iadd (pc := 24) X1 dL_depth_24 (by omega) ?_
        refine bq_iaload (pc := 25) X1 dL_depth_25 (by first | assumption | rfl) (by omega) ?_
        rw [rw_th hS hh (by omega), show a.toNat = k by omega]
        refine bg_iadd (pc := 26) X1 dL_depth_26 (by omega) ?_
        refine bg_istore3 (pc := 27) X1 dL_depth_27 ?_
        refine bg_iinc4 (pc := 28) X1 dL_depth_28 (by omega) ?_
        refine bg_goto (pc := 31) X1 (tgt := 7) dL_depth_31 (by decide) ?_
        exact ih _ _ (by omega) (by omega) (by omega)
  refine bg_iconst (pc := 0) X1 dL_depth_0 (by decide) ?_
  refine bg_istore3 (pc := 1) X1 dL_depth_1 ?_
  refine bg_iload2 (pc := 2) X1 dL_depth_2 ?_
  refine bg_iconst (pc := 3) X1 dL_depth_3 (by decide) ?_
  refine bg_isub (pc := 4) X1 dL_depth_4 (by omega) ?_
  refine bg_istore4 (pc := 5) X1 dL_depth_5 ?_
  exact loop b.toNat _ _ (by omega) (by omega) (by omega)
theorem c_L_alone {y : bg_Y} {g : bg_E} {m : Int} {a b : Nat} {S : bm_S} (hS : rwR g S) (ok : staOK S) (hm : isMa m) : bg_Si y 0 mL_alone [.inr 198, .inl m] g (fun r g' => r = pM (mkP S a b) m ∧ g' = g) := by
  have e0 : g 198 (0 : Int).toNat = S.1 0 := hS.1 0 (by omega)
  have e5 : g 198 (5 : Int).toNat = S.2.1 := hS.2.1
  have hK := ok.2.2.2.2.2.1
  have hM := ok.1
  have hk := kb_01 hK hm
  have eM : pM (mkP S a b) m = if ¬ kb S.2.1 m = 0 then 3 * S.1 0 else S.1 0 := by
    show (if ¬ kb S.2.1 ((m.toNat : Nat) : Int) = 0 then 3 * S.1 0 else S.1 0) = _
    rw [show ((m.toNat : Nat) : Int) = m by omega]
  refine bg_enter pnL (Nat.le_of_ble_eq_true rfl) (fun κ X hR hg => ?_)
  have X1 : bg_X κ y cL_alone RL 0 0 0 := X.1
  have hg : ∀ a k, R32 (g a k) := hg
  show bg_g κ y 0 [some (.inr 198), some (.inl m)] [] g
  refine bg_aload0 (pc := 0) X1 dL_alone_0 ?_
  refine bg_iconst (pc := 1) X1 dL_alone_1 (by decide) ?_
  refine bq_iaload (pc := 2) X1 dL_alone_2 (by first | assumption | rfl) (by omega) ?_
  rw [e0]
  refine bg_aload0 (pc := 3) X1 dL_alone_3 ?_
  refine bg_iconst (pc := 4) X1 dL_alone_4 (by decide) ?_
  refine bq_iaload (pc := 5) X1 dL_alone_5 (by first | assumption | rfl) (by omega) ?_
  rw [e5]
  refine bg_iload1 (pc := 6) X1 dL_alone_6 ?_
  refine bg_ishr (pc := 7) X1 dL_alone_7 ?_
  refine bg_iconst (pc := 8) X1 dL_alone_8 (by decide) ?_
  refine bg_iand (pc := 9) X1 dL_alone_9 ?_
  rw [show bg_band (bg_shr S.2.1 m) 1 = kb S.2.1 m from rfl]
  refine bg_iconst (pc := 10) X1 dL_alone_10 (by decide) ?_
  refine bg_icmp_ne (pc := 11) X1 (tgt := 18) dL_alone_11 (by decide) (fun u11 => ?_) (fun u11 => ?_)
  · refine bg_iconst (pc := 18) X1 dL_alone_18 (by decide) ?_
    refine bg_imul (pc := 19) X1 dL_alone_19 (by omega) ?_
    exact bo_iret (pc := 20) X rfl dL_alone_20 (fun hi => ⟨by rw [eM]; split <;> omega, rfl⟩)
  · refine bg_iconst (pc := 14) X1 dL_alone_14 (by decide) ?_
    refine bg_goto (pc := 15) X1 (tgt := 19) dL_alone_15 (by decide) ?_
    refine bg_imul (pc := 19) X1 dL_alone_19 (by omega) ?_
    exact bo_iret (pc := 20) X rfl dL_alone_20 (fun hi => ⟨by rw [eM]; split <;> omega, rfl⟩)
theorem c_L_twin {y : bg_Y} {g : bg_E} {a i m : Int} {S : bm_S} (hS : rwR g S) (ok : staOK S) (h6 : len6 S) (ha : isHo a) (hi : 0 ≤ i ∧ i ≤ ((sq S a).length : Int)) : bg_Si y 0 mL_twin [.inr 198, .inr 199, .inl a, .inl i, .inl m] g (fun r g' => r = rp (sq S a) m (S.1 3).toNat i.toNat ∧ g' = g) := by
  have hl := sq_6 h6 ha
  have e3 : g 198 (3 : Int).toNat = S.1 3 := hS.1 3 (by omega)
  have hW := ok.2.2.2.1
  refine bg_enter pnL (Nat.le_of_ble_eq_true rfl) (fun κ X hR hg => ?_)
  have X1 : bg_X κ y cL_twin RL 0 0 0 := X.1
  have hg : ∀ a k, R32 (g a k) := hg
  show bg_g κ y 0 [some (.inr 198), some (.inr 199), some (.inl a), some (.inl i), some (.inl m), none, none] [] g
  have loop : ∀ (n t : Nat) (f k : Int), k + n = i → k + S.1 3 = i + t → f = rp (sq S a) m t k.toNat → bg_g κ y 10 [some (.inr 198), some (.inr 199), some (.inl a), some (.inl i), some (.inl m), some (.inl f), some (.inl k)] [] g := by
    intro n
    induction n with
    | zero =>
      intro t f k h1 h2 h3
      refine bg_iload6 (pc := 10) X1 dL_twin_10 ?_
      refine bg_iload3 (pc := 12) X1 dL_twin_12 ?_
      refine bg_icmp_ge (pc := 13) X1 (tgt := 52) dL_twin_13 (by decide) (fun u13 => ?_) (fun u13 => ?_)
      · refine bg_iload5 (pc := 52) X1 dL_twin_52 ?_
        exact bo_iret (pc := 54) X rfl dL_twin_54 (fun hi => ⟨by rw [h3, show (S.1 3).toNat = t by omega, show i = k by omega], rfl⟩)
      · exfalso; omega
    | succ n ih =>
      intro t f k h1 h2 h3
      have hn : k < 0 → rp (sq S a) m (t + 1) (k + 1).toNat = -1 ∧ f = -1 := fun h => by
        rw [show (k + 1).toNat = 0 by omega]
        rw [show k.toNat = 0 by omega] at h3
        exact ⟨rfl, by rw [h3]; cases t <;> rfl⟩
      have hp : 0 ≤ k → rp (sq S a) m (t + 1) (k + 1).toNat = if mrk (sq S a) k.toNat = m then (k.toNat : Int) else f := fun h => by
        rw [show (k + 1).toNat = k.toNat + 1 by omega, rp, ← h3]
      refine bg_iload6 (pc := 10) X1 dL_twin_10 ?_
      refine bg_iload3 (pc := 12) X1 dL_twin_12 ?_
      refine bg_icmp_ge (pc := 13) X1 (tgt := 52) dL_twin_13 (by decide) (fun u13 => ?_) (fun u13 => ?_)
      · exfalso; omega
      · refine bg_iload6 (pc := 16) X1 dL_twin_16 ?_
        refine bg_if_lt (pc := 18) X1 (tgt := 42) dL_twin_18 (by decide) (fun u18 => ?_) (fun u18 => ?_)
        · refine bg_iload5 (pc := 42) X1 dL_twin_42 ?_
          refine bg_istore5 (pc := 44) X1 dL_twin_44 ?_
          refine bg_iinc6 (pc := 46) X1 dL_twin_46 (by omega) ?_
          refine bg_goto (pc := 49) X1 (tgt := 10) dL_twin_49 (by decide) ?_
          refine ih (t + 1) _ _ (by omega) (by omega) ?_
          first
            | (have h7 := hn (by omega); rw [h7.1, h7.2])
            | (rw [hp (by omega), if_pos (by omega)]; omega)
            | (rw [hp (by omega), if_neg (by omega)])
        · refine bg_aload1 (pc := 21) X1 dL_twin_21 ?_
          refine bg_bipush (pc := 22) X1 dL_twin_22 rfl (by decide) ?_
          refine bg_iload2 (pc := 24) X1 dL_twin_24 ?_
          refine bg_imul (pc := 25) X1 dL_twin_25 (by omega) ?_
          refine bg_iconst (pc := 26) X1 dL_twin_26 (by decide) ?_
          refine bg_iload6 (pc := 27) X1 dL_twin_27 ?_
          refine bg_imul (pc := 29) X1 dL_twin_29 (by omega) ?_
          refine bg_iadd (pc := 30) X1 dL_twin_30 (by omega) ?_
          refine bq_iaload (pc := 31) X1 dL_twin_31 (by first | assumption | rfl) (by omega) ?_
          rw [rw_mrk hS ha (by omega)]
          refine bg_iload4 (pc := 32) X1 dL_twin_32 ?_
          refine bg_icmp_ne (pc := 34) X1 (tgt := 42) dL_twin_34 (by decide) (fun u34 => ?_) (fun u34 => ?_)
          · refine bg_iload5 (pc := 42) X1 dL_twin_42 ?_
            refine bg_istore5 (pc := 44) X1 dL_twin_44 ?_
            refine bg_iinc6 (pc := 46) X1 dL_twin_46 (by omega) ?_
            refine bg_goto (pc := 49) X1 (tgt := 10) dL_twin_49 (by decide) ?_
            refine ih (t + 1) _ _ (by omega) (by omega) ?_
            first
              | (have h7 := hn (by omega); rw [h7.1, h7.2])
              | (rw [hp (by omega), if_pos (by omega)]; omega)
              | (rw [hp (by omega), if_neg (by omega)])
          · refine bg_iload6 (pc := 37) X1 dL_twin_37 ?_
            refine bg_goto (pc := 39) X1 (tgt := 44) dL_twin_39 (by decide) ?_
            refine bg_istore5 (pc := 44) X1 dL_twin_44 ?_
            refine bg_iinc6 (pc := 46) X1 dL_twin_46 (by omega) ?_
            refine bg_goto (pc := 49) X1 (tgt := 10) dL_twin_49 (by decide) ?_
            refine ih (t + 1) _ _ (by omega) (by omega) ?_
            first
              | (have h7 := hn (by omega); rw [h7.1, h7.2])
              | (rw [hp (by omega), if_pos (by omega)]; omega)
              | (rw [hp (by omega), if_neg (by omega)])
  refine bg_iconst (pc := 0) X1 dL_twin_0 (by decide) ?_
  refine bg_istore5 (pc := 1) X1 dL_twin_1 ?_
  refine bg_iload3 (pc := 3) X1 dL_twin_3 ?_
  refine bg_aload0 (pc := 4) X1 dL_twin_4 ?_
  refine bg_iconst (pc := 5) X1 dL_twin_5 (by decide) ?_
  refine bq_iaload (pc := 6) X1 dL_twin_6 (by first | assumption | rfl) (by omega) ?_
  rw [e3]
  refine bg_isub (pc := 7) X1 dL_twin_7 (by omega) ?_
  refine bg_istore6 (pc := 8) X1 dL_twin_8 ?_
  exact loop (S.1 3).toNat 0 _ _ (by omega) (by omega) rfl
