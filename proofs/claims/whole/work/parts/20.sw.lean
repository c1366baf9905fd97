/-! switches -/
section SW
variable {κ : bg_K} {y : bg_Y} {cs : Nat × Nat} {cc : ByteArray} {own : String} {dd mcc mss pc : Nat} {ls : List (Option bg_V)} {st : List bg_V} {M : bg_M}
theorem bg_tsw3 (X : bg_X κ y cc own dd mcc mss) {dflt lo hi p o0 o1 o2 : Int} {len t0 t1 t2 td : Nat} (hd : decode cc pc = .ok (.tableswitch dflt lo hi #[o0, o1, o2], len)) (h0 : (pc : Int) + o0 = (t0 : Int)) (h1 : (pc : Int) + o1 = (t1 : Int)) (h2 : (pc : Int) + o2 = (t2 : Int)) (hD : (pc : Int) + dflt = (td : Int)) (k0 : p = lo + 0 → bg_G κ y cs t0 ls st M) (k1 : p = lo + 1 → bg_G κ y cs t1 ls st M) (k2 : p = lo + 2 → bg_G κ y cs t2 ls st M) (kd : p < lo ∨ hi < p → bg_G κ y cs td ls st M) (hh : hi = lo + 2 := by decide) : bg_G κ y cs pc ls (.inl p :: st) M := by
  by_cases hr : p < lo ∨ hi < p
  · exact bg_tableOut X hd hr hD (kd hr)
  · have g1 : lo ≤ p := by omega
    have g2 : p ≤ hi := by omega
    by_cases e0 : p = lo + 0
    · exact bg_tableIn X hd g1 g2 (by rw [show (p - lo).toNat = 0 by omega]; rfl) h0 (k0 e0)
    by_cases e1 : p = lo + 1
    · exact bg_tableIn X hd g1 g2 (by rw [show (p - lo).toNat = 1 by omega]; rfl) h1 (k1 e1)
    by_cases e2 : p = lo + 2
    · exact bg_tableIn X hd g1 g2 (by rw [show (p - lo).toNat = 2 by omega]; rfl) h2 (k2 e2)
    omega
theorem bg_tsw4 (X : bg_X κ y cc own dd mcc mss) {dflt lo hi p o0 o1 o2 o3 : Int} {len t0 t1 t2 t3 td : Nat} (hd : decode cc pc = .ok (.tableswitch dflt lo hi #[o0, o1, o2, o3], len)) (h0 : (pc : Int) + o0 = (t0 : Int)) (h1 : (pc : Int) + o1 = (t1 : Int)) (h2 : (pc : Int) + o2 = (t2 : Int)) (h3 : (pc : Int) + o3 = (t3 : Int)) (hD : (pc : Int) + dflt = (td : Int)) (k0 : p = lo + 0 → bg_G κ y cs t0 ls st M) (k1 : p = lo + 1 → bg_G κ y cs t1 ls st M) (k2 : p = lo + 2 → bg_G κ y cs t2 ls st M) (k3 : p = lo + 3 → bg_G κ y cs t3 ls st M) (kd : p < lo ∨ hi < p → bg_G κ y cs td ls st M) (hh : hi = lo + 3 := by decide) : bg_G κ y cs pc ls (.inl p :: st) M := by
  by_cases hr : p < lo ∨ hi < p
  · exact bg_tableOut X hd hr hD (kd hr)
  · have g1 : lo ≤ p := by omega
    have g2 : p ≤ hi := by omega
    by_cases e0 : p = lo + 0
    · exact bg_tableIn X hd g1 g2 (by rw [show (p - lo).toNat = 0 by omega]; rfl) h0 (k0 e0)
    by_cases e1 : p = lo + 1
    · exact bg_tableIn X hd g1 g2 (by rw [show (p - lo).toNat = 1 by omega]; rfl) h1 (k1 e1)
    by_cases e2 : p = lo + 2
    · exact bg_tableIn X hd g1 g2 (by rw [show (p - lo).toNat = 2 by omega]; rfl) h2 (k2 e2)
    by_cases e3 : p = lo + 3
    · exact bg_tableIn X hd g1 g2 (by rw [show (p - lo).toNat = 3 by omega]; rfl) h3 (k3 e3)
    omega
theorem bg_tsw5 (X : bg_X κ y cc own dd mcc mss) {dflt lo hi p o0 o1 o2 o3 o4 : Int} {len t0 t1 t2 t3 t4 td : Nat} (hd : decode cc pc = .ok (.tableswitch dflt lo hi #[o0, o1, o2, o3, o4], len)) (h0 : (pc : Int) + o0 = (t0 : Int)) (h1 : (pc : Int) + o1 = (t1 : Int)) (h2 : (pc : Int) + o2 = (t2 : Int)) (h3 : (pc : Int) + o3 = (t3 : Int)) (h4 : (pc : Int) + o4 = (t4 : Int)) (hD : (pc : Int) + dflt = (td : Int)) (k0 : p = lo + 0 → bg_G κ y cs t0 ls st M) (k1 : p = lo + 1 → bg_G κ y cs t1 ls st M) (k2 : p = lo + 2 → bg_G κ y cs t2 ls st M) (k3 : p = lo + 3 → bg_G κ y cs t3 ls st M) (k4 : p = lo + 4 → bg_G κ y cs t4 ls st M) (kd : p < lo ∨ hi < p → bg_G κ y cs td ls st M) (hh : hi = lo + 4 := by decide) : bg_G κ y cs pc ls (.inl p :: st) M := by
  by_cases hr : p < lo ∨ hi < p
  · exact bg_tableOut X hd hr hD (kd hr)
  · have g1 : lo ≤ p := by omega
    have g2 : p ≤ hi := by omega
    by_cases e0 : p = lo + 0
    · exact bg_tableIn X hd g1 g2 (by rw [show (p - lo).toNat = 0 by omega]; rfl) h0 (k0 e0)
    by_cases e1 : p = lo + 1
    · exact bg_tableIn X hd g1 g2 (by rw [show (p - lo).toNat = 1 by omega]; rfl) h1 (k1 e1)
    by_cases e2 : p = lo + 2
    · exact bg_tableIn X hd g1 g2 (by rw [show (p - lo).toNat = 2 by omega]; rfl) h2 (k2 e2)
    by_cases e3 : p = lo + 3
    · exact bg_tableIn X hd g1 g2 (by rw [show (p - lo).toNat = 3 by omega]; rfl) h3 (k3 e3)
    by_cases e4 : p = lo + 4
    · exact bg_tableIn X hd g1 g2 (by rw [show (p - lo).toNat = 4 by omega]; rfl) h4 (k4 e4)
    omega
theorem bg_tsw26 (X : bg_X κ y cc own dd mcc mss) {dflt lo hi p o0 o1 o2 o3 o4 o5 o6 o7 o8 o9 o10 o11 o12 o13 o14 o15 o16 o17 o18 o19 o20 o21 o22 o23 o24 o25 : Int} {len t0 t1 t2 t3 t4 t5 t6 t7 t8 t9 t10 t11 t12 t13 t14 t15 t16 t17 t18 t19 t20 t21 t22 t23 t24 t25 td : Nat} (hd : decode cc pc = .ok (.tableswitch dflt lo hi #[o0, o1, o2, o3, o4, o5, o6, o7, o8, o9, o10, o11, o12, o13, o14, o15, o16, o17, o18, o19, o20, o21, o22, o23, o24, o25], len)) (h0 : (pc : Int) + o0 = (t0 : Int)) (h1 : (pc : Int) + o1 = (t1 : Int)) (h2 : (pc : Int) + o2 = (t2 : Int)) (h3 : (pc : Int) + o3 = (t3 : Int)) (h4 : (pc : Int) + o4 = (t4 : Int)) (h5 : (pc : Int) + o5 = (t5 : Int)) (h6 : (pc : Int) + o6 = (t6 : Int)) (h7 : (pc : Int) + o7 = (t7 : Int)) (h8 : (pc : Int) + o8 = (t8 : Int)) (h9 : (pc : Int) + o9 = (t9 : Int)) (h10 : (pc : Int) + o10 = (t10 : Int)) (h11 : (pc : Int) + o11 = (t11 : Int)) (h12 : (pc : Int) + o12 = (t12 : Int)) (h13 : (pc : Int) + o13 = (t13 : Int)) (h14 : (pc : Int) + o14 = (t14 : Int)) (h15 : (pc : Int) + o15 = (t15 : Int)) (h16 : (pc : Int) + o16 = (t16 : Int)) (h17 : (pc : Int) + o17 = (t17 : Int)) (h18 : (pc : Int) + o18 = (t18 : Int)) (h19 : (pc : Int) + o19 = (t19 : Int)) (h20 : (pc : Int) + o20 = (t20 : Int)) (h21 : (pc : Int) + o21 = (t21 : Int)) (h22 : (pc : Int) + o22 = (t22 : Int)) (h23 : (pc : Int) + o23 = (t23 : Int)) (h24 : (pc : Int) + o24 = (t24 : Int)) (h25 : (pc : Int) + o25 = (t25 : Int)) (hD : (pc : Int) + dflt = (td : Int)) (k0 : p = lo + 0 → bg_G κ y cs t0 ls st M) (k1 : p = lo + 1 → bg_G κ y cs t1 ls st M) (k2 : p = lo + 2 → bg_G κ y cs t2 ls st M) (k3 : p = lo + 3 → bg_G κ y cs t3 ls st M) (k4 : p = lo + 4 → bg_G κ y cs t4 ls st M) (k5 : p = lo + 5 → bg_G κ y cs t5 ls st M) (k6 : p = lo + 6 → bg_G κ y cs t6 ls st M) (k7 : p = lo + 7 → bg_G κ y cs t7 ls st M) (k8 : p = lo + 8 → bg_G κ y cs t8 ls st M) (k9 : p = lo + 9 → bg_G κ y cs t9 ls st M) (k10 : p = lo + 10 → bg_G κ y cs t10 ls st M) (k11 : p = lo + 11 → bg_G κ y cs t11 ls st M) (k12 : p = lo + 12 → bg_G κ y cs t12 ls st M) (k13 : p = lo + 13 → bg_G κ y cs t13 ls st M) (k14 : p = lo + 14 → bg_G κ y cs t14 ls st M) (k15 : p = lo + 15 → bg_G κ y cs t15 ls st M) (k16 : p = lo + 16 → bg_G κ y cs t16 ls st M) (k17 : p = lo + 17 → bg_G κ y cs t17 ls st M) (k18 : p = lo + 18 → bg_G κ y cs t18 ls st M) (k19 : p = lo + 19 → bg_G κ y cs t19 ls st M) (k20 : p = lo + 20 → bg_G κ y cs t20 ls st M) (k21 : p = lo + 21 → bg_G κ y cs t21 ls st M) (k22 : p = lo + 22 → bg_G κ y cs t22 ls st M) (k23 : p = lo + 23 → bg_G κ y cs t23 ls st M) (k24 : p = lo + 24 → bg_G κ y cs t24 ls st M) (k25 : p = lo + 25 → bg_G κ y cs t25 ls st M) (kd : p < lo ∨ hi < p → bg_G κ y cs td ls st M) (hh : hi = lo + 25 := by decide) : bg_G κ y cs pc ls (.inl p :: st) M := by
  by_cases hr : p < lo ∨ hi < p
  · exact bg_tableOut X hd hr hD (kd hr)
  · have g1 : lo ≤ p := by omega
    have g2 : p ≤ hi := by omega
    by_cases e0 : p = lo + 0
    · exact bg_tableIn X hd g1 g2 (by rw [show (p - lo).toNat = 0 by omega]; rfl) h0 (k0 e0)
    by_cases e1 : p = lo + 1
    · exact bg_tableIn X hd g1 g2 (by rw [show (p - lo).toNat = 1 by omega]; rfl) h1 (k1 e1)
    by_cases e2 : p = lo + 2
    · exact bg_tableIn X hd g1 g2 (by rw [show (p - lo).toNat = 2 by omega]; rfl) h2 (k2 e2)
    by_cases e3 : p = lo + 3
    · exact bg_tableIn X hd g1 g2 (by rw [show (p - lo).toNat = 3 by omega]; rfl) h3 (k3 e3)
    by_cases e4 : p = lo + 4
    · exact bg_tableIn X hd g1 g2 (by rw [show (p - lo).toNat = 4 by omega]; rfl) h4 (k4 e4)
    by_cases e5 : p = lo + 5
    · exact bg_tableIn X hd g1 g2 (by rw [show (p - lo).toNat = 5 by omega]; rfl) h5 (k5 e5)
    by_cases e6 : p = lo + 6
    · exact bg_tableIn X hd g1 g2 (by rw [show (p - lo).toNat = 6 by omega]; rfl) h6 (k6 e6)
    by_cases e7 : p = lo + 7
    · exact bg_tableIn X hd g1 g2 (by rw [show (p - lo).toNat = 7 by omega]; rfl) h7 (k7 e7)
    by_cases e8 : p = lo + 8
    · exact bg_tableIn X hd g1 g2 (by rw [show (p - lo).toNat = 8 by omega]; rfl) h8 (k8 e8)
    by_cases e9 : p = lo + 9
    · exact bg_tableIn X hd g1 g2 (by rw [show (p - lo).toNat = 9 by omega]; rfl) h9 (k9 e9)
    by_cases e10 : p = lo + 10
    · exact bg_tableIn X hd g1 g2 (by rw [show (p - lo).toNat = 10 by omega]; rfl) h10 (k10 e10)
    by_cases e11 : p = lo + 11
    · exact bg_tableIn X hd g1 g2 (by rw [show (p - lo).toNat = 11 by omega]; rfl) h11 (k11 e11)
    by_cases e12 : p = lo + 12
    · exact bg_tableIn X hd g1 g2 (by rw [show (p - lo).toNat = 12 by omega]; rfl) h12 (k12 e12)
    by_cases e13 : p = lo + 13
    · exact bg_tableIn X hd g1 g2 (by rw [show (p - lo).toNat = 13 by omega]; rfl) h13 (k13 e13)
    by_cases e14 : p = lo + 14
    · exact bg_tableIn X hd g1 g2 (by rw [show (p - lo).toNat = 14 by omega]; rfl) h14 (k14 e14)
    by_cases e15 : p = lo + 15
    · exact bg_tableIn X hd g1 g2 (by rw [show (p - lo).toNat = 15 by omega]; rfl) h15 (k15 e15)
    by_cases e16 : p = lo + 16
    · exact bg_tableIn X hd g1 g2 (by rw [show (p - lo).toNat = 16 by omega]; rfl) h16 (k16 e16)
    by_cases e17 : p = lo + 17
    · exact bg_tableIn X hd g1 g2 (by rw [show (p - lo).toNat = 17 by omega]; rfl) h17 (k17 e17)
    by_cases e18 : p = lo + 18
    · exact bg_tableIn X hd g1 g2 (by rw [show (p - lo).toNat = 18 by omega]; rfl) h18 (k18 e18)
    by_cases e19 : p = lo + 19
    · exact bg_tableIn X hd g1 g2 (by rw [show (p - lo).toNat = 19 by omega]; rfl) h19 (k19 e19)
    by_cases e20 : p = lo + 20
    · exact bg_tableIn X hd g1 g2 (by rw [show (p - lo).toNat = 20 by omega]; rfl) h20 (k20 e20)
    by_cases e21 : p = lo + 21
    · exact bg_tableIn X hd g1 g2 (by rw [show (p - lo).toNat = 21 by omega]; rfl) h21 (k21 e21)
    by_cases e22 : p = lo + 22
    · exact bg_tableIn X hd g1 g2 (by rw [show (p - lo).toNat = 22 by omega]; rfl) h22 (k22 e22)
    by_cases e23 : p = lo + 23
    · exact bg_tableIn X hd g1 g2 (by rw [show (p - lo).toNat = 23 by omega]; rfl) h23 (k23 e23)
    by_cases e24 : p = lo + 24
    · exact bg_tableIn X hd g1 g2 (by rw [show (p - lo).toNat = 24 by omega]; rfl) h24 (k24 e24)
    by_cases e25 : p = lo + 25
    · exact bg_tableIn X hd g1 g2 (by rw [show (p - lo).toNat = 25 by omega]; rfl) h25 (k25 e25)
    omega
theorem bg_lsw2 (X : bg_X κ y cc own dd mcc mss) {dflt a b p o0 o1 : Int} {len t0 t1 td : Nat} (hd : decode cc pc = .ok (.lookupswitch dflt #[(a, o0), (b, o1)], len)) (h0 : (pc : Int) + o0 = (t0 : Int)) (h1 : (pc : Int) + o1 = (t1 : Int)) (hD : (pc : Int) + dflt = (td : Int)) (k0 : p = a → bg_G κ y cs t0 ls st M) (k1 : p = b → bg_G κ y cs t1 ls st M) (kd : ¬ p = a → ¬ p = b → bg_G κ y cs td ls st M) (hab : a < b := by decide) : bg_G κ y cs pc ls (.inl p :: st) M := by
  have hp : ((#[(a, o0), (b, o1)] : Array (Int × Int)).toList.zip ((#[(a, o0), (b, o1)] : Array (Int × Int)).toList.drop 1)).all (fun (a, next) => a.1 < next.1) = true := by simp [hab]
  by_cases e0 : p = a
  · exact bg_lookup X hd hp (by show (if a = p then o0 else _) = o0; rw [if_pos e0.symm]) h0 (k0 e0)
  · by_cases e1 : p = b
    · exact bg_lookup X hd hp (by simp only [Op.lookupswitch.offset]; rw [if_neg (Ne.symm e0), if_pos e1.symm]) h1 (k1 e1)
    · exact bg_lookup X hd hp (by show (if a = p then o0 else if b = p then o1 else dflt) = dflt; rw [if_neg (Ne.symm e0), if_neg (Ne.symm e1)]) hD (kd e0 e1)
end SW
