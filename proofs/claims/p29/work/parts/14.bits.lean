/-! bits -/
theorem bt_ofInt {a : Int} (h : 0 ≤ a ∧ a ≤ 2147483647) : (Int32.ofInt a).toBitVec = BitVec.ofNat 32 a.toNat := by
  have e : a = (a.toNat : Int) := by omega
  show BitVec.ofInt 32 a = _
  conv => lhs; rw [e]
  exact BitVec.ofInt_ofNat 32 a.toNat
theorem bt_nat {x : BitVec 32} (h : x.toNat < 2147483648) : x.toInt = (x.toNat : Int) := BitVec.toInt_eq_toNat_of_lt (by omega)
theorem bt_toNat {a : Int} (h : 0 ≤ a ∧ a ≤ 2147483647) : (Int32.ofInt a).toBitVec.toNat = a.toNat := by
  rw [bt_ofInt h, BitVec.toNat_ofNat]
  omega
theorem band_nat {a b : Int} (ha : 0 ≤ a ∧ a ≤ 2147483647) (hb : 0 ≤ b ∧ b ≤ 2147483647) : bg_band a b = ((a.toNat &&& b.toNat : Nat) : Int) := by
  have e : (Int32.ofInt a &&& Int32.ofInt b).toBitVec.toNat = a.toNat &&& b.toNat := by
    show ((Int32.ofInt a).toBitVec &&& (Int32.ofInt b).toBitVec).toNat = _
    rw [BitVec.toNat_and, bt_toNat ha, bt_toNat hb]
  show (Int32.ofInt a &&& Int32.ofInt b).toBitVec.toInt = _
  rw [bt_nat (by rw [e]; have := @Nat.and_le_left a.toNat b.toNat; omega), e]
theorem bor_nat {a b : Int} (ha : 0 ≤ a ∧ a < 67108864) (hb : 0 ≤ b ∧ b < 67108864) : bg_bor a b = ((a.toNat ||| b.toNat : Nat) : Int) ∧ a.toNat ||| b.toNat < 67108864 := by
  have e : (Int32.ofInt a ||| Int32.ofInt b).toBitVec.toNat = a.toNat ||| b.toNat := by
    show ((Int32.ofInt a).toBitVec ||| (Int32.ofInt b).toBitVec).toNat = _
    rw [BitVec.toNat_or, bt_toNat (by omega), bt_toNat (by omega)]
  have h2 : a.toNat ||| b.toNat < 2 ^ 26 := Nat.or_lt_two_pow (by omega) (by omega)
  refine ⟨?_, by omega⟩
  show (Int32.ofInt a ||| Int32.ofInt b).toBitVec.toInt = _
  rw [bt_nat (by rw [e]; omega), e]
/-- what an int's bits leave of a small one is small -/
theorem band_le {a b : Int} (ha : 0 ≤ a ∧ a ≤ 2147483647) : 0 ≤ bg_band a b ∧ bg_band a b ≤ a := by
  have e : (Int32.ofInt a &&& Int32.ofInt b).toBitVec.toNat ≤ a.toNat := by
    show ((Int32.ofInt a).toBitVec &&& (Int32.ofInt b).toBitVec).toNat ≤ _
    rw [BitVec.toNat_and, bt_toNat ha]
    exact Nat.and_le_left
  have e2 : bg_band a b = (((Int32.ofInt a &&& Int32.ofInt b).toBitVec.toNat : Nat) : Int) := bt_nat (by omega)
  rw [e2]
  omega
theorem shl_1 {m : Int} (h : 0 ≤ m ∧ m < 26) : bg_shl 1 m = 2 ^ m.toNat := by
  obtain ⟨n, rfl⟩ : ∃ n : Nat, m = (n : Int) := ⟨m.toNat, by omega⟩
  have hn : n < 26 := by omega
  rw [Int.toNat_natCast]
  clear h
  revert n
  decide
theorem shl_0 {m : Int} (h : 0 ≤ m ∧ m < 26) : bg_shl 0 m = 0 := by
  obtain ⟨n, rfl⟩ : ∃ n : Nat, m = (n : Int) := ⟨m.toNat, by omega⟩
  have hn : n < 26 := by omega
  clear h
  revert n
  decide
theorem sh_amt {n : Nat} (h : n < 32) : ((Int32.ofInt (n : Int) &&& 31).toBitVec.smod 32).toNat = n := by
  revert n
  decide
theorem shr_div {K m : Int} (h : 0 ≤ m ∧ m < 32) (hK : R32 K) : bg_shr K m = K / 2 ^ m.toNat := by
  obtain ⟨n, rfl⟩ : ∃ n : Nat, m = (n : Int) := ⟨m.toNat, by omega⟩
  have hn : n < 32 := by omega
  rw [Int.toNat_natCast]
  show (BitVec.sshiftRight' (Int32.ofInt K).toBitVec ((Int32.ofInt (n : Int) &&& 31).toBitVec.smod 32)).toInt = _
  rw [BitVec.sshiftRight_eq', BitVec.toInt_sshiftRight, sh_amt hn, Int.shiftRight_eq_div_pow]
  have e : (Int32.ofInt K).toBitVec.toInt = K := bg_toInt hK
  rw [e]
  norm_cast
theorem ush_amt {n : Nat} (h : n < 32) : (((Int32.ofInt (n : Int)).toUInt32 &&& Int32.toUInt32 31).toBitVec % 32).toNat = n := by
  revert n
  decide
theorem ushr_div {K m : Int} (h : 0 ≤ m ∧ m < 32) (hK : 0 ≤ K ∧ K ≤ 2147483647) : bg_ushr K m = ((K.toNat / 2 ^ m.toNat : Nat) : Int) := by
  obtain ⟨n, rfl⟩ : ∃ n : Nat, m = (n : Int) := ⟨m.toNat, by omega⟩
  have hn : n < 32 := by omega
  rw [Int.toNat_natCast]
  have e : ((Int32.ofInt K).toUInt32 >>> ((Int32.ofInt (n : Int)).toUInt32 &&& Int32.toUInt32 31)).toInt32.toBitVec.toNat = K.toNat / 2 ^ n := by
    show ((Int32.ofInt K).toBitVec >>> (((Int32.ofInt (n : Int)).toUInt32 &&& Int32.toUInt32 31).toBitVec % 32)).toNat = _
    rw [BitVec.ushiftRight_eq', BitVec.toNat_ushiftRight, bt_toNat hK, ush_amt hn, Nat.shiftRight_eq_div_pow]
  show (((Int32.ofInt K).toUInt32 >>> ((Int32.ofInt (n : Int)).toUInt32 &&& Int32.toUInt32 31)).toInt32).toBitVec.toInt = _
  have hle : K.toNat / 2 ^ n ≤ K.toNat := Nat.div_le_self _ _
  rw [bt_nat (by rw [e]; omega), e]

theorem land4 {a y z : Nat} (ha : a < 4) : (a + 4 * y) &&& (1 + 4 * z) = a % 2 + 4 * (y &&& z) := by
  have h1 : ((a + 4 * y) &&& (1 + 4 * z)) % 2 ^ 2 = (a + 4 * y) % 2 ^ 2 &&& (1 + 4 * z) % 2 ^ 2 := Nat.and_mod_two_pow
  have h2 : ((a + 4 * y) &&& (1 + 4 * z)) / 2 ^ 2 = (a + 4 * y) / 2 ^ 2 &&& (1 + 4 * z) / 2 ^ 2 := Nat.and_div_two_pow
  rw [show (a + 4 * y) % 2 ^ 2 = a by omega, show (1 + 4 * z) % 2 ^ 2 = 2 ^ 1 - 1 by omega, Nat.and_two_pow_sub_one_eq_mod] at h1
  rw [show (a + 4 * y) / 2 ^ 2 = y by omega, show (1 + 4 * z) / 2 ^ 2 = z by omega] at h2
  omega
theorem land16 {a y z : Nat} (ha : a < 16) : (a + 16 * y) &&& (3 + 16 * z) = a % 4 + 16 * (y &&& z) := by
  have h1 : ((a + 16 * y) &&& (3 + 16 * z)) % 2 ^ 4 = (a + 16 * y) % 2 ^ 4 &&& (3 + 16 * z) % 2 ^ 4 := Nat.and_mod_two_pow
  have h2 : ((a + 16 * y) &&& (3 + 16 * z)) / 2 ^ 4 = (a + 16 * y) / 2 ^ 4 &&& (3 + 16 * z) / 2 ^ 4 := Nat.and_div_two_pow
  rw [show (a + 16 * y) % 2 ^ 4 = a by omega, show (3 + 16 * z) % 2 ^ 4 = 2 ^ 2 - 1 by omega, Nat.and_two_pow_sub_one_eq_mod] at h1
  rw [show (a + 16 * y) / 2 ^ 4 = y by omega, show (3 + 16 * z) / 2 ^ 4 = z by omega] at h2
  omega
theorem land256 {a y z : Nat} (ha : a < 256) : (a + 256 * y) &&& (15 + 256 * z) = a % 16 + 256 * (y &&& z) := by
  have h1 : ((a + 256 * y) &&& (15 + 256 * z)) % 2 ^ 8 = (a + 256 * y) % 2 ^ 8 &&& (15 + 256 * z) % 2 ^ 8 := Nat.and_mod_two_pow
  have h2 : ((a + 256 * y) &&& (15 + 256 * z)) / 2 ^ 8 = (a + 256 * y) / 2 ^ 8 &&& (15 + 256 * z) / 2 ^ 8 := Nat.and_div_two_pow
  rw [show (a + 256 * y) % 2 ^ 8 = a by omega, show (15 + 256 * z) % 2 ^ 8 = 2 ^ 4 - 1 by omega, Nat.and_two_pow_sub_one_eq_mod] at h1
  rw [show (a + 256 * y) / 2 ^ 8 = y by omega, show (15 + 256 * z) / 2 ^ 8 = z by omega] at h2
  omega
def bc_A : Nat → Nat
  | 0 => 0
  | j + 1 => 1 + 4 * bc_A j
def bc_B : Nat → Nat
  | 0 => 0
  | j + 1 => 3 + 16 * bc_B j
def bc_C : Nat → Nat
  | 0 => 0
  | j + 1 => 15 + 256 * bc_C j
def c2 (n : Nat) : Nat := n % 2 + n / 2 % 2
def c4 (n : Nat) : Nat := c2 n + c2 (n / 4)
def c8 (n : Nat) : Nat := c4 n + c4 (n / 16)
theorem c2_le (n : Nat) : c2 n ≤ 2 := by unfold c2; omega
theorem c4_le (n : Nat) : c4 n ≤ 4 := by have := c2_le n; have := c2_le (n / 4); unfold c4; omega
theorem c8_le (n : Nat) : c8 n ≤ 8 := by have := c4_le n; have := c4_le (n / 16); unfold c8; omega
def bc_S1 : Nat → Nat → Nat
  | 0, _ => 0
  | j + 1, n => c2 n + 4 * bc_S1 j (n / 4)
def bc_S2 : Nat → Nat → Nat
  | 0, _ => 0
  | j + 1, n => c4 n + 16 * bc_S2 j (n / 16)
def bc_S3 : Nat → Nat → Nat
  | 0, _ => 0
  | j + 1, n => c8 n + 256 * bc_S3 j (n / 256)
theorem bc_t1 : ∀ (j n : Nat), n < 4 ^ j → n - (n / 2 &&& bc_A j) = bc_S1 j n ∧ (n / 2 &&& bc_A j) ≤ n
  | 0, n, h => by
    have : n = 0 := by simpa using h
    subst this
    exact ⟨rfl, by simp⟩
  | j + 1, n, h => by
    have hm : n / 4 < 4 ^ j := by rw [Nat.pow_succ] at h; omega
    obtain ⟨h1, h2⟩ := bc_t1 j (n / 4) hm
    have e : n / 2 = (n % 4 / 2 + 2 * (n / 4 % 2)) + 4 * (n / 4 / 2) := by omega
    have e2 : (n / 2 &&& bc_A (j + 1)) = n % 4 / 2 + 4 * (n / 4 / 2 &&& bc_A j) := by
      rw [e]
      show (n % 4 / 2 + 2 * (n / 4 % 2)) + 4 * (n / 4 / 2) &&& 1 + 4 * bc_A j = _
      rw [land4 (by omega)]
      omega
    rw [e2]
    show _ = c2 n + 4 * bc_S1 j (n / 4) ∧ _
    rw [← h1]
    unfold c2
    omega
theorem bc_t2 : ∀ (j n : Nat), (bc_S1 (2 * j) n &&& bc_B j) + (bc_S1 (2 * j) n / 4 &&& bc_B j) = bc_S2 j n
  | 0, n => by simp [bc_S1, bc_S2, bc_B]
  | j + 1, n => by
    have h := bc_t2 j (n / 16)
    have e0 : bc_S1 (2 * (j + 1)) n = (c2 n + 4 * c2 (n / 4)) + 16 * bc_S1 (2 * j) (n / 16) := by
      show c2 n + 4 * (c2 (n / 4) + 4 * bc_S1 (2 * j) (n / 4 / 4)) = _
      rw [Nat.div_div_eq_div_mul, show (4 * 4 : Nat) = 16 from rfl]
      omega
    have l1 := c2_le n
    have l2 := c2_le (n / 4)
    generalize hx : bc_S1 (2 * j) (n / 16) = x at h e0
    have e1 : bc_S1 (2 * (j + 1)) n / 4 = (c2 (n / 4) + 4 * (x % 4)) + 16 * (x / 4) := by rw [e0]; omega
    have a1 : (bc_S1 (2 * (j + 1)) n &&& bc_B (j + 1)) = c2 n + 16 * (x &&& bc_B j) := by
      rw [e0]
      show (c2 n + 4 * c2 (n / 4)) + 16 * x &&& 3 + 16 * bc_B j = _
      rw [land16 (by omega)]
      omega
    have a2 : (bc_S1 (2 * (j + 1)) n / 4 &&& bc_B (j + 1)) = c2 (n / 4) + 16 * (x / 4 &&& bc_B j) := by
      rw [e1]
      show (c2 (n / 4) + 4 * (x % 4)) + 16 * (x / 4) &&& 3 + 16 * bc_B j = _
      rw [land16 (by omega)]
      omega
    rw [a1, a2]
    show _ = (c2 n + c2 (n / 4)) + 16 * bc_S2 j (n / 16)
    omega
theorem bc_d (j n : Nat) : bc_S2 j n % 16 ≤ 4 := by
  cases j with
  | zero => show 0 % 16 ≤ 4; omega
  | succ j =>
    have := c4_le n
    show (c4 n + 16 * bc_S2 j (n / 16)) % 16 ≤ 4
    omega
theorem bc_t3 : ∀ (j n : Nat), (bc_S2 (2 * j) n + bc_S2 (2 * j) n / 16 &&& bc_C j) = bc_S3 j n
  | 0, n => by simp [bc_S2, bc_S3, bc_C]
  | j + 1, n => by
    have h := bc_t3 j (n / 256)
    have e0 : bc_S2 (2 * (j + 1)) n = (c4 n + 16 * c4 (n / 16)) + 256 * bc_S2 (2 * j) (n / 256) := by
      show c4 n + 16 * (c4 (n / 16) + 16 * bc_S2 (2 * j) (n / 16 / 16)) = _
      rw [Nat.div_div_eq_div_mul, show (16 * 16 : Nat) = 256 from rfl]
      omega
    have l1 := c4_le n
    have l2 := c4_le (n / 16)
    have l3 := bc_d (2 * j) (n / 256)
    generalize hx : bc_S2 (2 * j) (n / 256) = x at h e0 l3
    have e1 : bc_S2 (2 * (j + 1)) n + bc_S2 (2 * (j + 1)) n / 16 = ((c4 n + c4 (n / 16)) + 16 * (c4 (n / 16) + x % 16)) + 256 * (x + x / 16) := by rw [e0]; omega
    rw [e1]
    show ((c4 n + c4 (n / 16)) + 16 * (c4 (n / 16) + x % 16)) + 256 * (x + x / 16) &&& 15 + 256 * bc_C j = _
    rw [land256 (by omega), h]
    show _ = (c4 n + c4 (n / 16)) + 256 * bc_S3 j (n / 256)
    omega
theorem bc_4 {h0 h1 h2 h3 i3 i4 i5 : Nat} (k0 : h0 < 9) (k1 : h1 < 9) (k2 : h2 < 9) (k3 : h3 < 9) (e3 : i3 = h0 + 256 * h1 + 65536 * h2 + 16777216 * h3) (e4 : i4 = i3 + i3 / 256) (e5 : i5 = i4 + i4 / 65536) : i5 &&& 63 = h0 + h1 + h2 + h3 ∧ i4 < 268435456 ∧ i5 < 536870912 := by
  have a1 : i3 / 256 = h1 + 256 * h2 + 65536 * h3 := by omega
  have a2 : i4 = (h0 + h1) + 256 * (h1 + h2) + 65536 * (h2 + h3) + 16777216 * h3 := by omega
  have a3 : i4 / 65536 = (h2 + h3) + 256 * h3 := by
    clear a1 e4
    have : (h0 + h1) + 256 * (h1 + h2) < 65536 := by omega
    omega
  have a4 : i5 = (h0 + h1 + h2 + h3) + 64 * (4 * (h1 + h2) + 1024 * (h2 + h3) + 262144 * h3 + 4 * h3) := by omega
  refine ⟨?_, by omega, by omega⟩
  rw [show (63 : Nat) = 2 ^ 6 - 1 from rfl, Nat.and_two_pow_sub_one_eq_mod, a4]
  show (h0 + h1 + h2 + h3 + 64 * _) % 64 = _
  rw [Nat.add_mul_mod_self_left]
  omega
def bsum (n : Nat) : Nat → Nat
  | 0 => 0
  | k + 1 => bsum n k + n / 2 ^ k % 2
theorem bc_sum {n : Nat} (hn : n < 67108864) : c8 n + c8 (n / 256) + c8 (n / 65536) + c8 (n / 16777216) = bsum n 26 := by
  simp only [c8, c4, c2, bsum, Nat.div_div_eq_div_mul]
  simp only [Nat.reducePow, Nat.reduceMul, Nat.div_one]
  have z : ∀ k : Nat, 67108864 ≤ k → n / k = 0 := fun k hk => Nat.div_eq_of_lt (by omega)
  rw [z 67108864 (by decide), z 134217728 (by decide), z 268435456 (by decide), z 536870912 (by decide), z 1073741824 (by decide), z 2147483648 (by decide)]
  omega
theorem bc_all {n i1 i2 i3 i4 i5 : Nat} (hn : n < 67108864) (e1 : i1 = n - (n / 2 &&& 1431655765)) (e2 : i2 = (i1 &&& 858993459) + (i1 / 4 &&& 858993459)) (e3 : i3 = (i2 + i2 / 16) &&& 252645135) (e4 : i4 = i3 + i3 / 256) (e5 : i5 = i4 + i4 / 65536) :
    i5 &&& 63 = bsum n 26 ∧ (n / 2 &&& 1431655765) ≤ n ∧ i2 < 300000000 ∧ i3 < 268435456 ∧ i4 < 268435456 ∧ i5 < 536870912 := by
  have hA : bc_A 16 = 1431655765 := by decide
  have hB : bc_B 8 = 858993459 := by decide
  have hC : bc_C 4 = 252645135 := by decide
  obtain ⟨t1, t1b⟩ := bc_t1 16 n (by omega)
  rw [hA] at t1 t1b
  have d1 : i1 = bc_S1 16 n := by rw [e1, t1]
  have t2 := bc_t2 8 n
  rw [hB] at t2
  have d2 : i2 = bc_S2 8 n := by rw [e2, d1]; exact t2
  have t3 := bc_t3 4 n
  rw [hC] at t3
  have d3 : i3 = bc_S3 4 n := by rw [e3, d2]; exact t3
  have g0 := c8_le n
  have g1 := c8_le (n / 256)
  have g2 := c8_le (n / 65536)
  have g3 := c8_le (n / 16777216)
  have d4 : i3 = c8 n + 256 * c8 (n / 256) + 65536 * c8 (n / 65536) + 16777216 * c8 (n / 16777216) := by
    rw [d3]
    simp only [bc_S3, Nat.div_div_eq_div_mul, Nat.reduceMul]
    omega
  have b4 := bc_4 (by omega) (by omega) (by omega) (by omega) d4 e4 e5
  refine ⟨b4.1.trans (bc_sum hn), t1b, ?_, by omega, b4.2.1, b4.2.2⟩
  have l1 := @Nat.and_le_right i1 858993459
  have l2 := @Nat.and_le_right (i1 / 4) 858993459
  have l3 := @Nat.and_le_left i1 858993459
  have l4 := @Nat.and_le_left (i1 / 4) 858993459
  omega
