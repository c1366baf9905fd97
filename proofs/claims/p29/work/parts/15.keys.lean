/-! keys -/
def mJ6_bitCount_0f7a4 : bg_P := (yJ6_bitCount_0f7a4, cJ6_bitCount_0f7a4, 1, (Option.some .int : Option FieldType))
theorem sJ6_bitCount_0f7a4 : bg_mS mJ6_bitCount_0f7a4 1 := ⟨⟨bg_mT 216 (by decide +kernel) (by decide +kernel), jI_ini, ⟨by decide +kernel, by decide +kernel, by decide +kernel⟩, by decide⟩, bg_mT 215 (by decide +kernel) (by decide +kernel)⟩
theorem kJ6_265 : Cond.constant RJ6 265 (Int32.ofInt (1431655765)) ∈ bg_T := bg_mT 217 (by decide +kernel) (by decide +kernel)
theorem kJ6_266 : Cond.constant RJ6 266 (Int32.ofInt (858993459)) ∈ bg_T := bg_mT 218 (by decide +kernel) (by decide +kernel)
theorem kJ6_267 : Cond.constant RJ6 267 (Int32.ofInt (252645135)) ∈ bg_T := bg_mT 219 (by decide +kernel) (by decide +kernel)
theorem pnJ6 : plainName RJ6 = true := by decide +kernel
theorem c_J6_bitCount_0f7a4 {y : bg_Y} {g : bg_E} {x : Int} (hx : 0 ≤ x ∧ x < 67108864) : bg_Si y 0 mJ6_bitCount_0f7a4 [.inl x] g (fun r g' => r = (bsum x.toNat 26 : Int) ∧ g' = g) := by
  obtain ⟨n, rfl⟩ : ∃ n : Nat, x = (n : Int) := ⟨x.toNat, by omega⟩
  have hn : n < 67108864 := by omega
  obtain ⟨i1, e1⟩ : ∃ i : Nat, i = n - (n / 2 &&& 1431655765) := ⟨_, rfl⟩
  obtain ⟨i2, e2⟩ : ∃ i : Nat, i = (i1 &&& 858993459) + (i1 / 4 &&& 858993459) := ⟨_, rfl⟩
  obtain ⟨i3, e3⟩ : ∃ i : Nat, i = (i2 + i2 / 16) &&& 252645135 := ⟨_, rfl⟩
  obtain ⟨i4, e4⟩ : ∃ i : Nat, i = i3 + i3 / 256 := ⟨_, rfl⟩
  obtain ⟨i5, e5⟩ : ∃ i : Nat, i = i4 + i4 / 65536 := ⟨_, rfl⟩
  obtain ⟨a1, a2, a3, a4, a5, a6⟩ := bc_all hn e1 e2 e3 e4 e5
  have l1 := @Nat.and_le_right i1 858993459
  have l2 := @Nat.and_le_right (i1 / 4) 858993459
  have us : ∀ (k j : Nat), j < 32 → k < 1073741824 → bg_ushr (k : Int) (j : Int) = ((k / 2 ^ j : Nat) : Int) := fun k j hj hk => ushr_div ⟨by omega, by omega⟩ ⟨by omega, by omega⟩
  have bn : ∀ (k j : Nat), k < 1073741824 → j < 1500000000 → bg_band (k : Int) (j : Int) = ((k &&& j : Nat) : Int) := fun k j hk hj => band_nat ⟨by omega, by omega⟩ ⟨by omega, by omega⟩
  have f1 : bg_band (bg_ushr (n : Int) 1) 1431655765 = ((n / 2 &&& 1431655765 : Nat) : Int) := by rw [show (1 : Int) = ((1 : Nat) : Int) from rfl, us n 1 (by omega) (by omega)]; exact bn (n / 2 ^ 1) 1431655765 (by omega) (by omega)
  have f2 : bg_band (i1 : Int) 858993459 = ((i1 &&& 858993459 : Nat) : Int) := bn i1 858993459 (by omega) (by omega)
  have f3 : bg_band (bg_ushr (i1 : Int) 2) 858993459 = ((i1 / 4 &&& 858993459 : Nat) : Int) := by rw [show (2 : Int) = ((2 : Nat) : Int) from rfl, us i1 2 (by omega) (by omega)]; exact bn (i1 / 2 ^ 2) 858993459 (by omega) (by omega)
  have f4 : bg_ushr (i2 : Int) 4 = ((i2 / 16 : Nat) : Int) := us i2 4 (by omega) (by omega)
  have f5 : bg_band ((i2 : Int) + ((i2 / 16 : Nat) : Int)) 252645135 = (i3 : Int) := by rw [e3, ← Int.natCast_add]; exact bn (i2 + i2 / 16) 252645135 (by omega) (by omega)
  have f6 : bg_ushr (i3 : Int) 8 = ((i3 / 256 : Nat) : Int) := us i3 8 (by omega) (by omega)
  have f7 : bg_ushr (i4 : Int) 16 = ((i4 / 65536 : Nat) : Int) := us i4 16 (by omega) (by omega)
  have f8 : bg_band (i5 : Int) 63 = ((i5 &&& 63 : Nat) : Int) := bn i5 63 (by omega) (by omega)
  refine bg_enter pnJ6 (Nat.le_of_ble_eq_true rfl) (fun κ X hR hg => ?_)
  have X1 : bg_X κ y cJ6_bitCount_0f7a4 RJ6 0 0 0 := X.1
  have hg : ∀ a k, R32 (g a k) := hg
  show bg_g κ y 0 [some (.inl (n : Int))] [] g
  refine bg_iload0 (pc := 0) X1 dJ6_bitCount_0f7a4_0 ?_
  refine bg_iload0 (pc := 1) X1 dJ6_bitCount_0f7a4_1 ?_
  refine bg_iconst (pc := 2) X1 dJ6_bitCount_0f7a4_2 (by decide) ?_
  refine bg_iushr (pc := 3) X1 dJ6_bitCount_0f7a4_3 ?_
  refine bg_ldcw (pc := 4) X1 dJ6_bitCount_0f7a4_4 kJ6_265 (by decide) ?_
  refine bg_iand (pc := 7) X1 dJ6_bitCount_0f7a4_7 ?_
  rw [f1]
  refine bg_isub (pc := 8) X1 dJ6_bitCount_0f7a4_8 (by omega) ?_
  rw [show (n : Int) - ((n / 2 &&& 1431655765 : Nat) : Int) = (i1 : Int) by omega]
  refine bg_istore0 (pc := 9) X1 dJ6_bitCount_0f7a4_9 ?_
  refine bg_iload0 (pc := 10) X1 dJ6_bitCount_0f7a4_10 ?_
  refine bg_ldcw (pc := 11) X1 dJ6_bitCount_0f7a4_11 kJ6_266 (by decide) ?_
  refine bg_iand (pc := 14) X1 dJ6_bitCount_0f7a4_14 ?_
  rw [f2]
  refine bg_iload0 (pc := 15) X1 dJ6_bitCount_0f7a4_15 ?_
  refine bg_iconst (pc := 16) X1 dJ6_bitCount_0f7a4_16 (by decide) ?_
  refine bg_iushr (pc := 17) X1 dJ6_bitCount_0f7a4_17 ?_
  refine bg_ldcw (pc := 18) X1 dJ6_bitCount_0f7a4_18 kJ6_266 (by decide) ?_
  refine bg_iand (pc := 21) X1 dJ6_bitCount_0f7a4_21 ?_
  rw [f3]
  refine bg_iadd (pc := 22) X1 dJ6_bitCount_0f7a4_22 (by omega) ?_
  rw [show ((i1 &&& 858993459 : Nat) : Int) + ((i1 / 4 &&& 858993459 : Nat) : Int) = (i2 : Int) by omega]
  refine bg_istore0 (pc := 23) X1 dJ6_bitCount_0f7a4_23 ?_
  refine bg_iload0 (pc := 24) X1 dJ6_bitCount_0f7a4_24 ?_
  refine bg_iload0 (pc := 25) X1 dJ6_bitCount_0f7a4_25 ?_
  refine bg_iconst (pc := 26) X1 dJ6_bitCount_0f7a4_26 (by decide) ?_
  refine bg_iushr (pc := 27) X1 dJ6_bitCount_0f7a4_27 ?_
  rw [f4]
  refine bg_iadd (pc := 28) X1 dJ6_bitCount_0f7a4_28 (by omega) ?_
  refine bg_ldcw (pc := 29) X1 dJ6_bitCount_0f7a4_29 kJ6_267 (by decide) ?_
  refine bg_iand (pc := 32) X1 dJ6_bitCount_0f7a4_32 ?_
  rw [f5]
  refine bg_istore0 (pc := 33) X1 dJ6_bitCount_0f7a4_33 ?_
  refine bg_iload0 (pc := 34) X1 dJ6_bitCount_0f7a4_34 ?_
  refine bg_iload0 (pc := 35) X1 dJ6_bitCount_0f7a4_35 ?_
  refine bg_bipush (pc := 36) X1 dJ6_bitCount_0f7a4_36 rfl (by decide) ?_
  refine bg_iushr (pc := 38) X1 dJ6_bitCount_0f7a4_38 ?_
  rw [f6]
  refine bg_iadd (pc := 39) X1 dJ6_bitCount_0f7a4_39 (by omega) ?_
  rw [show (i3 : Int) + ((i3 / 256 : Nat) : Int) = (i4 : Int) by omega]
  refine bg_istore0 (pc := 40) X1 dJ6_bitCount_0f7a4_40 ?_
  refine bg_iload0 (pc := 41) X1 dJ6_bitCount_0f7a4_41 ?_
  refine bg_iload0 (pc := 42) X1 dJ6_bitCount_0f7a4_42 ?_
  refine bg_bipush (pc := 43) X1 dJ6_bitCount_0f7a4_43 rfl (by decide) ?_
  refine bg_iushr (pc := 45) X1 dJ6_bitCount_0f7a4_45 ?_
  rw [f7]
  refine bg_iadd (pc := 46) X1 dJ6_bitCount_0f7a4_46 (by omega) ?_
  rw [show (i4 : Int) + ((i4 / 65536 : Nat) : Int) = (i5 : Int) by omega]
  refine bg_istore0 (pc := 47) X1 dJ6_bitCount_0f7a4_47 ?_
  refine bg_iload0 (pc := 48) X1 dJ6_bitCount_0f7a4_48 ?_
  refine bg_bipush (pc := 49) X1 dJ6_bitCount_0f7a4_49 rfl (by decide) ?_
  refine bg_iand (pc := 51) X1 dJ6_bitCount_0f7a4_51 ?_
  rw [f8]
  exact bo_iret (pc := 52) X rfl dJ6_bitCount_0f7a4_52 (fun hi => ⟨by rw [a1]; rfl, rfl⟩)
/-- whether a mark is a key mark: 1 or 0 -/
def kb (K m : Int) : Int := bg_band (bg_shr K m) 1
def kset (K m i : Int) : Int := bg_bor (bg_band K (bg_bxor (bg_shl 1 m) (-1))) (bg_shl i m)
theorem kb_nat {K m : Int} (hK : 0 ≤ K ∧ K < 67108864) (hm : isMa m) : kb K m = ((K.toNat / 2 ^ m.toNat % 2 : Nat) : Int) := by
  unfold kb
  rw [shr_div ⟨hm.1, by omega⟩ (by omega)]
  obtain ⟨k, rfl⟩ : ∃ k : Nat, K = (k : Int) := ⟨K.toNat, by omega⟩
  have e : ((k : Int) / 2 ^ m.toNat) = ((k / 2 ^ m.toNat : Nat) : Int) := by norm_cast
  have hle := Nat.div_le_self k (2 ^ m.toNat)
  rw [e, Int.toNat_natCast]
  generalize k / 2 ^ m.toNat = w at hle ⊢
  rw [band_nat ⟨by omega, by omega⟩ (by decide), Int.toNat_natCast, show (1 : Int).toNat = 1 from rfl, Nat.and_one_is_mod]
theorem kb_01 {K m : Int} (hK : 0 ≤ K ∧ K < 67108864) (hm : isMa m) : kb K m = 0 ∨ kb K m = 1 := by
  rw [kb_nat hK hm]
  omega
theorem pow26 {m : Int} (hm : isMa m) : (2 : Nat) ^ m.toNat ≤ 33554432 := by
  have : (2 : Nat) ^ m.toNat ≤ 2 ^ 25 := Nat.pow_le_pow_right (by decide) (by omega)
  omega
theorem pow26i {m : Int} (hm : isMa m) : 0 ≤ bg_shl 1 m ∧ bg_shl 1 m ≤ 33554432 ∧ (bg_shl 1 m).toNat = 2 ^ m.toNat := by
  have h1 := pow26 hm
  have e : bg_shl 1 m = ((2 ^ m.toNat : Nat) : Int) := by rw [shl_1 hm]; norm_cast
  generalize 2 ^ m.toNat = w at h1 e ⊢
  rw [e]
  exact ⟨by omega, by omega, by omega⟩
theorem and_pow (n i : Nat) : n &&& 2 ^ i = 0 ↔ n / 2 ^ i % 2 = 0 := by
  have hb : n.testBit i = decide (n / 2 ^ i % 2 = 1) := Nat.testBit_eq_decide_div_mod_eq
  constructor
  · intro h
    have h1 : (n &&& 2 ^ i).testBit i = false := by rw [h]; simp
    rw [Nat.testBit_and, Nat.testBit_two_pow_self, Bool.and_true, hb] at h1
    have h2 : ¬ n / 2 ^ i % 2 = 1 := by simpa using h1
    omega
  · intro h
    apply Nat.eq_of_testBit_eq
    intro j
    rw [Nat.testBit_and, Nat.zero_testBit]
    by_cases hij : i = j
    · subst hij
      rw [hb]
      simp [h]
    · rw [Nat.testBit_two_pow_of_ne hij, Bool.and_false]
theorem kb_band {K m : Int} (hK : 0 ≤ K ∧ K < 67108864) (hm : isMa m) : bg_band K (bg_shl 1 m) = 0 ↔ kb K m = 0 := by
  obtain ⟨p1, p2, p3⟩ := pow26i hm
  have h := and_pow K.toNat m.toNat
  rw [kb_nat hK hm, band_nat (by omega) (by omega), p3]
  omega
theorem kset_1 {K m : Int} : kset K m 1 = bg_bor K (bg_shl 1 m) := by
  unfold kset bg_bor bg_band bg_bxor
  simp only [Int32.ofInt_toInt]
  congr 1
  generalize Int32.ofInt (bg_shl 1 m) = B
  generalize Int32.ofInt K = A
  apply Int32.toBitVec_inj.mp
  show (A.toBitVec &&& (B.toBitVec ^^^ BitVec.ofInt 32 (-1))) ||| B.toBitVec = A.toBitVec ||| B.toBitVec
  ext i hi
  have hm1 : (BitVec.ofInt 32 (-1))[i] = true := by
    have : BitVec.ofInt 32 (-1) = BitVec.allOnes 32 := by decide
    rw [this]
    exact BitVec.getElem_allOnes i hi
  simp only [BitVec.getElem_or, BitVec.getElem_and, BitVec.getElem_xor, hm1]
  cases A.toBitVec[i] <;> cases B.toBitVec[i] <;> rfl
theorem kset_0 {K m : Int} (hm : isMa m) : kset K m 0 = bg_band K (bg_bxor (bg_shl 1 m) (-1)) := by
  unfold kset
  rw [shl_0 hm]
  unfold bg_bor bg_band
  rw [Int32.ofInt_toInt]
  congr 1
  generalize Int32.ofInt K &&& Int32.ofInt (bg_bxor (bg_shl 1 m) (-1)) = A
  apply Int32.toBitVec_inj.mp
  show A.toBitVec ||| BitVec.ofInt 32 0 = A.toBitVec
  ext i hi
  have hm1 : (BitVec.ofInt 32 0)[i] = false := by
    have : BitVec.ofInt 32 0 = BitVec.zero 32 := by decide
    rw [this]
    simp
  simp only [BitVec.getElem_or, hm1, Bool.or_false]
theorem kset_R {K m i : Int} (hK : 0 ≤ K ∧ K < 67108864) (hm : isMa m) (hi : i = 0 ∨ i = 1) : 0 ≤ kset K m i ∧ kset K m i < 67108864 := by
  rcases hi with rfl | rfl
  · rw [kset_0 hm]
    have := band_le (a := K) (b := bg_bxor (bg_shl 1 m) (-1)) (by omega)
    omega
  · rw [kset_1]
    obtain ⟨p1, p2, p3⟩ := pow26i hm
    have := bor_nat (a := K) (b := bg_shl 1 m) (by omega) (by omega)
    omega
theorem c_X4_isKey {y : bg_Y} {g : bg_E} {b : Nat} {m : Int} (hb : bg_sta b) (hK : 0 ≤ g b 1 ∧ g b 1 < 67108864) (hm : isMa m) : bg_Si y 1 mX4_isKey [.inr b, .inl m] g (fun r g' => r = b2i (¬ kb (g b 1) m = 0) ∧ g' = g) := by
  obtain ⟨s1, s2, s3, s4, s5, s6, s7, s8, s9⟩ := id hb
  refine bg_enter pnX4 (Nat.le_of_ble_eq_true rfl) (fun κ X hR hg => ?_)
  have X1 : bg_X κ y cX4_isKey RX4 1 0 0 := X.1
  have hg : ∀ a k, R32 (g a k) := hg
  show bg_g κ y 0 [some (.inr b), some (.inl m)] [] g
  refine bg_iload1 (pc := 0) X1 dX4_isKey_0 ?_
  refine bo_N1i (pc := 1) X1 (c_X6_isMark) sX6_isMark hX4_32 rfl (by decide) dX4_isKey_1 (by exact Nat.le_of_ble_eq_true rfl) ?_
  rintro _ _ ⟨h9, h8⟩
  obtain rfl := h9.symm
  obtain rfl := h8.symm
  clear h9 h8
  refine bo_ifeq_b (pc := 4) X1 (tgt := 22) dX4_isKey_4 (by decide) (fun u4 => ?_) (fun u4 => ?_)
  · exact absurd hm u4
  · refine bg_aload0 (pc := 7) X1 dX4_isKey_7 ?_
    refine bo_getI (pc := 8) X1 dX4_isKey_8 fX4_18 (by first | assumption | rfl) rfl ?_
    refine bg_iconst (pc := 11) X1 dX4_isKey_11 (by decide) ?_
    refine bg_iload1 (pc := 12) X1 dX4_isKey_12 ?_
    refine bg_ishl (pc := 13) X1 dX4_isKey_13 ?_
    refine bg_iand (pc := 14) X1 dX4_isKey_14 ?_
    refine bg_if_eq (pc := 15) X1 (tgt := 22) dX4_isKey_15 (by decide) (fun u15 => ?_) (fun u15 => ?_)
    · rw [kb_band hK hm] at u15
      refine bg_iconst (pc := 22) X1 dX4_isKey_22 (by decide) ?_
      exact bo_zret (pc := 23) X rfl (by first | exact Or.inl rfl | exact Or.inr rfl | exact b2i_01 _) dX4_isKey_23 (⟨by first | rfl | exact (b2i_t (by omega)).symm | exact (b2i_f (by omega)).symm, rfl⟩)
    · rw [kb_band hK hm] at u15
      refine bg_iconst (pc := 18) X1 dX4_isKey_18 (by decide) ?_
      refine bg_goto (pc := 19) X1 (tgt := 23) dX4_isKey_19 (by decide) ?_
      exact bo_zret (pc := 23) X rfl (by first | exact Or.inl rfl | exact Or.inr rfl | exact b2i_01 _) dX4_isKey_23 (⟨by first | rfl | exact (b2i_t (by omega)).symm | exact (b2i_f (by omega)).symm, rfl⟩)
theorem c_X4_putKey {y : bg_Y} {g : bg_E} {b : Nat} {m i : Int} {S : bm_S} (hb : bg_sta b) (hS : staR g b S) (hm : isMa m) (hi : i = 0 ∨ i = 1) : bg_Sv y 1 mX4_putKey [.inr b, .inl m, .inl i] g (fun g' => staR g' b (sKey S (kset S.2.1 m i)) ∧ frR b (b + 16) g g') := by
  obtain ⟨s1, s2, s3, s4, s5, s6, s7, s8, s9⟩ := id hb
  obtain ⟨h1, h2, h3, h4⟩ := id hS
  have fin : ∀ v, v = kset S.2.1 m i → staR (bg_up g b 1 v) b (sKey S (kset S.2.1 m i)) ∧ frR b (b + 16) g (bg_up g b 1 v) := fun v hv =>
    ⟨⟨fun k hk => by rw [bg_up_ne (by omega)]; exact h1 k hk, by rw [up_eq]; exact hv, fun h hh => ⟨by rw [bg_up_ne (by omega)]; exact (h3 h hh).1, (h3 h hh).2.up (by omega)⟩, fun a h5 h6 => by rw [bg_up_ne (by omega)]; exact h4 a h5 h6⟩, frR.rf.up (by omega) (by omega)⟩
  refine bg_enter pnX4 (Nat.le_of_ble_eq_true rfl) (fun κ X hR hg => ?_)
  have X1 : bg_X κ y cX4_putKey RX4 1 0 0 := X.1
  have hg : ∀ a k, R32 (g a k) := hg
  show bg_g κ y 0 [some (.inr b), some (.inl m), some (.inl i)] [] g
  refine bg_iload1 (pc := 0) X1 dX4_putKey_0 ?_
  refine bo_N1i (pc := 1) X1 (c_X6_isMark) sX6_isMark hX4_32 rfl (by decide) dX4_putKey_1 (by exact Nat.le_of_ble_eq_true rfl) ?_
  rintro _ _ ⟨h9, h8⟩
  obtain rfl := h9.symm
  obtain rfl := h8.symm
  clear h9 h8
  refine bo_ifeq_b (pc := 4) X1 (tgt := 36) dX4_putKey_4 (by decide) (fun u4 => ?_) (fun u4 => ?_)
  · exact absurd hm u4
  · refine bg_aload0 (pc := 7) X1 dX4_putKey_7 ?_
    refine bg_iload2 (pc := 8) X1 dX4_putKey_8 ?_
    refine bg_if_eq (pc := 9) X1 (tgt := 23) dX4_putKey_9 (by decide) (fun u9 => ?_) (fun u9 => ?_)
    · refine bg_aload0 (pc := 23) X1 dX4_putKey_23 ?_
      refine bo_getI (pc := 24) X1 dX4_putKey_24 fX4_18 (by first | assumption | rfl) rfl ?_
      refine bg_iconst (pc := 27) X1 dX4_putKey_27 (by decide) ?_
      refine bg_iload1 (pc := 28) X1 dX4_putKey_28 ?_
      refine bg_ishl (pc := 29) X1 dX4_putKey_29 ?_
      refine bg_iconst (pc := 30) X1 dX4_putKey_30 (by decide) ?_
      refine bg_ixor (pc := 31) X1 dX4_putKey_31 ?_
      refine bg_iand (pc := 32) X1 dX4_putKey_32 ?_
      refine bo_putI (pc := 33) X1 dX4_putKey_33 fX4_18 (by first | assumption | rfl) rfl ?_
      refine bo_vret (pc := 36) X rfl dX4_putKey_36 (fun hg9 => fin _ ?_)
      rcases hi with rfl | rfl
      · first | exact absurd rfl u9 | (rw [kset_0 hm, h2])
      · first | exact absurd u9 (by decide) | (rw [kset_1, h2])
    · refine bg_aload0 (pc := 12) X1 dX4_putKey_12 ?_
      refine bo_getI (pc := 13) X1 dX4_putKey_13 fX4_18 (by first | assumption | rfl) rfl ?_
      refine bg_iconst (pc := 16) X1 dX4_putKey_16 (by decide) ?_
      refine bg_iload1 (pc := 17) X1 dX4_putKey_17 ?_
      refine bg_ishl (pc := 18) X1 dX4_putKey_18 ?_
      refine bg_ior (pc := 19) X1 dX4_putKey_19 ?_
      refine bg_goto (pc := 20) X1 (tgt := 33) dX4_putKey_20 (by decide) ?_
      refine bo_putI (pc := 33) X1 dX4_putKey_33 fX4_18 (by first | assumption | rfl) rfl ?_
      refine bo_vret (pc := 36) X rfl dX4_putKey_36 (fun hg9 => fin _ ?_)
      rcases hi with rfl | rfl
      · first | exact absurd rfl u9 | (rw [kset_0 hm, h2])
      · first | exact absurd u9 (by decide) | (rw [kset_1, h2])
theorem c_X4_keyMarkCount {y : bg_Y} {g : bg_E} {b : Nat} (hb : bg_sta b) (hK : 0 ≤ g b 1 ∧ g b 1 < 67108864) : bg_Si y 1 mX4_keyMarkCount [.inr b] g (fun r g' => r = (bsum (g b 1).toNat 26 : Int) ∧ g' = g) := by
  obtain ⟨s1, s2, s3, s4, s5, s6, s7, s8, s9⟩ := id hb
  refine bg_enter pnX4 (Nat.le_of_ble_eq_true rfl) (fun κ X hR hg => ?_)
  have X1 : bg_X κ y cX4_keyMarkCount RX4 1 0 0 := X.1
  have hg : ∀ a k, R32 (g a k) := hg
  show bg_g κ y 0 [some (.inr b)] [] g
  refine bg_aload0 (pc := 0) X1 dX4_keyMarkCount_0 ?_
  refine bo_getI (pc := 1) X1 dX4_keyMarkCount_1 fX4_18 (by first | assumption | rfl) rfl ?_
  refine bo_S1i (pc := 4) X1 (c_J6_bitCount_0f7a4 hK) sJ6_bitCount_0f7a4 lX4_36 rfl (by decide) dX4_keyMarkCount_4 (by exact Nat.le_of_ble_eq_true rfl) ?_
  rintro _ _ ⟨h9, h8⟩
  obtain rfl := h9.symm
  obtain rfl := h8.symm
  exact bo_iret (pc := 7) X rfl dX4_keyMarkCount_7 (fun hi => ⟨by first | rfl | omega, rfl⟩)
