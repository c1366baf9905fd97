/-! switches -/
section SW
variable {κ : bg_K} {y : bg_Y} {cs : Nat × Nat} {cc : ByteArray} {own : String} {dd mcc mss pc : Nat} {ls : List (Option bg_V)} {st : List bg_V} {M : bg_M}
theorem bg_tsw3 (X : bg_X κ y cc own dd mcc mss) {dflt lo hi p o0 o1 o2 : Int} {len t0 t1 t2 td : Nat} (hd : decode cc pc = .ok (.tableswitch dflt lo hi #[o0, o1, o2], len)) (h0 : (pc : Int) + o0 = (t0 : Int)) (h1 : (pc : Int) + o1 = (t1 : Int)) (h2 : (pc : Int) + o2 = (t2 : Int)) (hD : (pc : Int) + dflt = (td : Int)) (k0 : p = lo + 0 → bg_G κ y cs t0 ls st M) (k1 : p = lo + 1 → bg_G κ y cs t1 ls st M) (k2 : p = lo + 2 → bg_G κ y cs t2 ls st M) (kd : p < lo ∨ hi < p → bg_G κ y cs td ls st M) (hh : hi = lo + 2 := by decide) : bg_G κ y cs pc ls (.inl p :: st) M := by
  by_cases hr : p < lo ∨ hi < p
  · exact bg_tableOut X hd hr hD (kd hr)
  · have g1 : lo ≤ p := by omega
    have g2 : p ≤ hi := by omega
    by_cases e0 : p = lo + 0
    · exact bg_tableIn X hd g1 g2 (by rw [show (p - lo).toNat = 0 by omega]; rfl) h0 (k0 e0)
    by_cases e1 : p = lo + 1
    · exact bg_tableIn X hd g1 g2 (by rw [show (p - lo).toNat = 1 by omega]; rfl) h1 (k1 e1)
    by_cases e2 : p = lo + 2
    · exact bg_tableIn X hd g1 g2 (by rw [show (p - lo).toNat = 2 by omega]; rfl) h2 (k2 e2)
    omega
theorem bg_tsw4 (X : bg_X κ y cc own dd mcc mss) {dflt lo hi p o0 o1 o2 o3 : Int} {len t0 t1 t2 t3 td : Nat} (hd : decode cc pc = .ok (.tableswitch dflt lo hi #[o0, o1, o2, o3], len)) (h0 : (pc : Int) + o0 = (t0 : Int)) (h1 : (pc : Int) + o1 = (t1 : Int)) (h2 : (pc : Int) + o2 = (t2 : Int)) (h3 : (pc : Int) + o3 = (t3 : Int)) (hD : (pc : Int) + dflt = (td : Int)) (k0 : p = lo + 0 → bg_G κ y cs t0 ls st M) (k1 : p = lo + 1 → bg_G κ y cs t1 ls st M) (k2 : p = lo + 2 → bg_G κ y cs t2 ls st M) (k3 : p = lo + 3 → bg_G κ y cs t3 ls st M) (kd : p < lo ∨ hi < p → bg_G κ y cs td ls st M) (hh : hi = lo + 3 := by decide) : bg_G κ y cs pc ls (.inl p :: st) M := by
  by_cases hr : p < lo ∨ hi < p
  · exact bg_tableOut X hd hr hD (kd hr)
  · have g1 : lo ≤ p := by omega
    have g2 : p ≤ hi := by omega
    by_cases e0 : p = lo + 0
    · exact bg_tableIn X hd g1 g2 (by rw [show (p - lo).toNat = 0 by omega]; rfl) h0 (k0 e0)
    by_cases e1 : p = lo + 1
    · exact bg_tableIn X hd g1 g2 (by rw [show (p - lo).toNat = 1 by omega]; rfl) h1 (k1 e1)
    by_cases e2 : p = lo + 2
    · exact bg_tableIn X hd g1 g2 (by rw [show (p - lo).toNat = 2 by omega]; rfl) h2 (k2 e2)
    by_cases e3 : p = lo + 3
    · exact bg_tableIn X hd g1 g2 (by rw [show (p - lo).toNat = 3 by omega]; rfl) h3 (k3 e3)
    omega
theorem bg_tsw5 (X : bg_X κ y cc own dd mcc mss) {dflt lo hi p o0 o1 o2 o3 o4 : Int} {len t0 t1 t2 t3 t4 td : Nat} (hd : decode cc pc = .ok (.tableswitch dflt lo hi #[o0, o1, o2, o3, o4], len)) (h0 : (pc : Int) + o0 = (t0 : Int)) (h1 : (pc : Int) + o1 = (t1 : Int)) (h2 : (pc : Int) + o2 = (t2 : Int)) (h3 : (pc : Int) + o3 = (t3 : Int)) (h4 : (pc : Int) + o4 = (t4 : Int)) (hD : (pc : Int) + dflt = (td : Int)) (k0 : p = lo + 0 → bg_G κ y cs t0 ls st M) (k1 : p = lo + 1 → bg_G κ y cs t1 ls st M) (k2 : p = lo + 2 → bg_G κ y cs t2 ls st M) (k3 : p = lo + 3 → bg_G κ y cs t3 ls st M) (k4 : p = lo + 4 → bg_G κ y cs t4 ls st M) (kd : p < lo ∨ hi < p → bg_G κ y cs td ls st M) (hh : hi = lo + 4 := by decide) : bg_G κ y cs pc ls (.inl p :: st) M := by
  by_cases hr : p < lo ∨ hi < p
  · exact bg_tableOut X hd hr hD (kd hr)
  · have g1 : lo ≤ p := by omega
    have g2 : p ≤ hi := by omega
    by_cases e0 : p = lo + 0
    · exact bg_tableIn X hd g1 g2 (by rw [show (p - lo).toNat = 0 by omega]; rfl) h0 (k0 e0)
    by_cases e1 : p = lo + 1
    · exact bg_tableIn X hd g1 g2 (by rw [show (p - lo).toNat = 1 by omega]; rfl) h1 (k1 e1)
    by_cases e2 : p = lo + 2
    · exact bg_tableIn X hd g1 g2 (by rw [show (p - lo).toNat = 2 by omega]; rfl) h2 (k2 e2)
    by_cases e3 : p = lo + 3
    · exact bg_tableIn X hd g1 g2 (by rw [show (p - lo).toNat = 3 by omega]; rfl) h3 (k3 e3)
    by_cases e4 : p = lo + 4
    · exact bg_tableIn X hd g1 g2 (by rw [show (p - lo).toNat = 4 by omega]; rfl) h4 (k4 e4)
    omega
theorem bg_tsw12 (X : bg_X κ y cc own dd mcc mss) {dflt lo hi p o0 o1 o2 o3 o4 o5 o6 o7 o8 o9 o10 o11 : Int} {len t0 t1 t2 t3 t4 t5 t6 t7 t8 t9 t10 t11 td : Nat} (hd : decode cc pc = .ok (.tableswitch dflt lo hi #[o0, o1, o2, o3, o4, o5, o6, o7, o8, o9, o10, o11], len)) (h0 : (pc : Int) + o0 = (t0 : Int)) (h1 : (pc : Int) + o1 = (t1 : Int)) (h2 : (pc : Int) + o2 = (t2 : Int)) (h3 : (pc : Int) + o3 = (t3 : Int)) (h4 : (pc : Int) + o4 = (t4 : Int)) (h5 : (pc : Int) + o5 = (t5 : Int)) (h6 : (pc : Int) + o6 = (t6 : Int)) (h7 : (pc : Int) + o7 = (t7 : Int)) (h8 : (pc : Int) + o8 = (t8 : Int)) (h9 : (pc : Int) + o9 = (t9 : Int)) (h10 : (pc : Int) + o10 = (t10 : Int)) (h11 : (pc : Int) + o11 = (t11 : Int)) (hD : (pc : Int) + dflt = (td : Int)) (k0 : p = lo + 0 → bg_G κ y cs t0 ls st M) (k1 : p = lo + 1 → bg_G κ y cs t1 ls st M) (k2 : p = lo + 2 → bg_G κ y cs t2 ls st M) (k3 : p = lo + 3 → bg_G κ y cs t3 ls st M) (k4 : p = lo + 4 → bg_G κ y cs t4 ls st M) (k5 : p = lo + 5 → bg_G κ y cs t5 ls st M) (k6 : p = lo + 6 → bg_G κ y cs t6 ls st M) (k7 : p = lo + 7 → bg_G κ y cs t7 ls st M) (k8 : p = lo + 8 → bg_G κ y cs t8 ls st M) (k9 : p = lo + 9 → bg_G κ y cs t9 ls st M) (k10 : p = lo + 10 → bg_G κ y cs t10 ls st M) (k11 : p = lo + 11 → bg_G κ y cs t11 ls st M) (kd : p < lo ∨ hi < p → bg_G κ y cs td ls st M) (hh : hi = lo + 11 := by decide) : bg_G κ y cs pc ls (.inl p :: st) M := by
  by_cases hr : p < lo ∨ hi < p
  · exact bg_tableOut X hd hr hD (kd hr)
  · have g1 : lo ≤ p := by omega
    have g2 : p ≤ hi := by omega
    by_cases e0 : p = lo + 0
    · exact bg_tableIn X hd g1 g2 (by rw [show (p - lo).toNat = 0 by omega]; rfl) h0 (k0 e0)
    by_cases e1 : p = lo + 1
    · exact bg_tableIn X hd g1 g2 (by rw [show (p - lo).toNat = 1 by omega]; rfl) h1 (k1 e1)
    by_cases e2 : p = lo + 2
    · exact bg_tableIn X hd g1 g2 (by rw [show (p - lo).toNat = 2 by omega]; rfl) h2 (k2 e2)
    by_cases e3 : p = lo + 3
    · exact bg_tableIn X hd g1 g2 (by rw [show (p - lo).toNat = 3 by omega]; rfl) h3 (k3 e3)
    by_cases e4 : p = lo + 4
    · exact bg_tableIn X hd g1 g2 (by rw [show (p - lo).toNat = 4 by omega]; rfl) h4 (k4 e4)
    by_cases e5 : p = lo + 5
    · exact bg_tableIn X hd g1 g2 (by rw [show (p - lo).toNat = 5 by omega]; rfl) h5 (k5 e5)
    by_cases e6 : p = lo + 6
    · exact bg_tableIn X hd g1 g2 (by rw [show (p - lo).toNat = 6 by omega]; rfl) h6 (k6 e6)
    by_cases e7 : p = lo + 7
    · exact bg_tableIn X hd g1 g2 (by rw [show (p - lo).toNat = 7 by omega]; rfl) h7 (k7 e7)
    by_cases e8 : p = lo + 8
    · exact bg_tableIn X hd g1 g2 (by rw [show (p - lo).toNat = 8 by omega]; rfl) h8 (k8 e8)
    by_cases e9 : p = lo + 9
    · exact bg_tableIn X hd g1 g2 (by rw [show (p - lo).toNat = 9 by omega]; rfl) h9 (k9 e9)
    by_cases e10 : p = lo + 10
    · exact bg_tableIn X hd g1 g2 (by rw [show (p - lo).toNat = 10 by omega]; rfl) h10 (k10 e10)
    by_cases e11 : p = lo + 11
    · exact bg_tableIn X hd g1 g2 (by rw [show (p - lo).toNat = 11 by omega]; rfl) h11 (k11 e11)
    omega
theorem bg_lsw2 (X : bg_X κ y cc own dd mcc mss) {dflt a b p o0 o1 : Int} {len t0 t1 td : Nat} (hd : decode cc pc = .ok (.lookupswitch dflt #[(a, o0), (b, o1)], len)) (h0 : (pc : Int) + o0 = (t0 : Int)) (h1 : (pc : Int) + o1 = (t1 : Int)) (hD : (pc : Int) + dflt = (td : Int)) (k0 : p = a → bg_G κ y cs t0 ls st M) (k1 : p = b → bg_G κ y cs t1 ls st M) (kd : ¬ p = a → ¬ p = b → bg_G κ y cs td ls st M) (hab : a < b := by decide) : bg_G κ y cs pc ls (.inl p :: st) M := by
  have hp : ((#[(a, o0), (b, o1)] : Array (Int × Int)).toList.zip ((#[(a, o0), (b, o1)] : Array (Int × Int)).toList.drop 1)).all (fun (a, next) => a.1 < next.1) = true := by simp [hab]
  by_cases e0 : p = a
  · exact bg_lookup X hd hp (by show (if a = p then o0 else _) = o0; rw [if_pos e0.symm]) h0 (k0 e0)
  · by_cases e1 : p = b
    · exact bg_lookup X hd hp (by simp only [Op.lookupswitch.offset]; rw [if_neg (Ne.symm e0), if_pos e1.symm]) h1 (k1 e1)
    · exact bg_lookup X hd hp (by show (if a = p then o0 else if b = p then o1 else dflt) = dflt; rw [if_neg (Ne.symm e0), if_neg (Ne.symm e1)]) hD (kd e0 e1)
end SW
