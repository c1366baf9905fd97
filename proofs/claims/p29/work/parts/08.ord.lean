/-! the world as it stands once all is made: every reference is fixed, ints alone change -/
def bg_rC (c : Nat) : List (List (Option Nat)) := [[none, none, some (c + 1), some (c + 2)], [], []]
def bg_rS (b : Nat) : List (List (Option Nat)) := [[some (b + 1), none, some (b + 2), some (b + 15)], [], [some (b + 3), some (b + 6), some (b + 9), some (b + 12)]] ++ bg_rC (b + 3) ++ bg_rC (b + 6) ++ bg_rC (b + 9) ++ bg_rC (b + 12) ++ [[]]
def bg_rM (q : Nat) : List (List (Option Nat)) := [[some (q + 1), some (q + 10), some (q + 11), some (q + 12), some (q + 13), none], [some (q + 2), some (q + 5), some (q + 8), none, none, none, some (q + 9)]] ++ bg_rC (q + 2) ++ bg_rC (q + 5) ++ [[], [], [], [], [], []]
def bg_RL : List (List (Option Nat)) := [[some 1, some 17, some 115, none, some 148, some 153, some 156, some 170, some 184]] ++ bg_rS 1 ++ [[some 18, none, none], [some 19, some 35, some 51, some 67, some 83, some 99]] ++ bg_rS 19 ++ bg_rS 35 ++ bg_rS 51 ++ bg_rS 67 ++ bg_rS 83 ++ bg_rS 99 ++ [[some 116, some 132]] ++ bg_rS 116 ++ bg_rS 132 ++ [[some 149, none, none, none, some 150], []] ++ bg_rC 150 ++ bg_rC 153 ++ bg_rM 156 ++ bg_rM 170 ++ bg_rM 184
def bg_F (a k : Nat) : Option Nat := ((bg_RL[a]?).bind (fun l => l[k]?)).bind id
abbrev bg_E : Type := Nat → Nat → Int
abbrev bg_n (g : bg_E) : Nat := 202 + (g bg_PZ 0).toNat
abbrev bg_O (g : bg_E) : bg_M := (bg_n g, bg_F, g)
theorem bg_n_P {g g' : bg_E} (h : g' bg_PZ = g bg_PZ) : bg_n g' = bg_n g := by
  show 202 + (g' bg_PZ 0).toNat = 202 + (g bg_PZ 0).toNat
  rw [h]
theorem bg_oP {κ : bg_K} {y : bg_Y} {cs : Nat × Nat} {pc : Nat} {ls : List (Option bg_V)} {st : List bg_V} {g g' : bg_E} (h : g' bg_PZ = g bg_PZ) (kk : bg_G κ y cs pc ls st (bg_O g')) : bg_G κ y cs pc ls st (bg_n g, bg_F, g') := by
  rw [← bg_n_P h]
  exact kk
/-- a column at c -/
def bg_col (c : Nat) : Prop := bg_kd c = some (0, 4) ∧ bg_F c 2 = some (c + 1) ∧ bg_F c 3 = some (c + 2) ∧ bg_kd (c + 1) = some (8, 24) ∧ bg_kd (c + 2) = some (8, 24)
/-- a state at b -/
def bg_sta (b : Nat) : Prop := bg_kd b = some (4, 4) ∧ bg_F b 0 = some (b + 1) ∧ bg_F b 2 = some (b + 2) ∧ bg_F b 3 = some (b + 15) ∧ bg_kd (b + 1) = some (8, 5) ∧ bg_kd (b + 2) = some (10, 4) ∧ bg_kd (b + 15) = some (8, 5) ∧ (∀ h, h < 4 → bg_F (b + 2) h = some (b + 3 + 3 * h)) ∧ ∀ h, h < 4 → bg_col (b + 3 + 3 * h)
/-- a matching at q -/
def bg_mat (q : Nat) : Prop := bg_kd q = some (2, 6) ∧ bg_F q 0 = some (q + 1) ∧ bg_F q 1 = some (q + 10) ∧ bg_F q 2 = some (q + 11) ∧ bg_F q 3 = some (q + 12) ∧ bg_F q 4 = some (q + 13) ∧ bg_kd (q + 1) = some (3, 7) ∧ bg_F (q + 1) 0 = some (q + 2) ∧ bg_F (q + 1) 1 = some (q + 5) ∧ bg_F (q + 1) 2 = some (q + 8) ∧ bg_F (q + 1) 6 = some (q + 9) ∧ bg_col (q + 2) ∧ bg_col (q + 5) ∧ bg_kd (q + 8) = some (8, 26) ∧ bg_kd (q + 9) = some (8, 625) ∧ bg_kd (q + 10) = some (8, 24) ∧ bg_kd (q + 11) = some (8, 24) ∧ bg_kd (q + 12) = some (8, 24) ∧ bg_kd (q + 13) = some (8, 24)
theorem bg_cols : ∀ c ∈ [4, 7, 10, 13, 22, 25, 28, 31, 38, 41, 44, 47, 54, 57, 60, 63, 70, 73, 76, 79, 86, 89, 92, 95, 102, 105, 108, 111, 119, 122, 125, 128, 135, 138, 141, 144, 150, 153, 158, 161, 172, 175, 186, 189], bg_col c := by
  unfold bg_col
  decide +kernel
theorem bg_stas : ∀ b ∈ [1, 19, 35, 51, 67, 83, 99, 116, 132], bg_sta b := by
  unfold bg_sta bg_col
  decide +kernel
theorem bg_mats : ∀ q ∈ [156, 170, 184], bg_mat q := by
  unfold bg_mat bg_col
  decide +kernel
def b2i (p : Prop) [Decidable p] : Int := if p then 1 else 0
theorem b2i_t {p : Prop} [Decidable p] (h : p) : b2i p = 1 := if_pos h
theorem b2i_f {p : Prop} [Decidable p] (h : ¬ p) : b2i p = 0 := if_neg h
theorem b2i_01 (p : Prop) [Decidable p] : b2i p = 0 ∨ b2i p = 1 := by
  unfold b2i
  split
  · exact Or.inr rfl
  · exact Or.inl rfl
theorem b2i_ne {p : Prop} [Decidable p] (h : ¬ b2i p = 0) : p := Classical.byContradiction (fun q => h (b2i_f q))
theorem b2i_eq {p : Prop} [Decidable p] (h : b2i p = 0) : ¬ p := fun q => by rw [b2i_t q] at h; cases h
def bg_pI (P : Int → bg_E → Prop) : Option bg_V → bg_M → Prop := fun r M' => ∃ (i : Int) (g' : bg_E), r = some (.inl i) ∧ M' = bg_O g' ∧ P i g'
def bg_pV (P : bg_E → Prop) : Option bg_V → bg_M → Prop := fun r M' => ∃ g' : bg_E, r = none ∧ M' = bg_O g' ∧ P g'
def bg_pR (P : Nat → bg_E → Prop) : Option bg_V → bg_M → Prop := fun r M' => ∃ (i : Nat) (g' : bg_E), r = some (.inr i) ∧ M' = bg_O g' ∧ P i g'
def bg_Si (y : bg_Y) (d : Nat) (μ : bg_P) (args : List bg_V) (g : bg_E) (P : Int → bg_E → Prop) : Prop := bg_S y d 0 0 μ args (bg_O g) (bg_pI P)
def bg_Sv (y : bg_Y) (d : Nat) (μ : bg_P) (args : List bg_V) (g : bg_E) (P : bg_E → Prop) : Prop := bg_S y d 0 0 μ args (bg_O g) (bg_pV P)
def bg_Sr (y : bg_Y) (d : Nat) (μ : bg_P) (args : List bg_V) (g : bg_E) (P : Nat → bg_E → Prop) : Prop := bg_S y d 0 0 μ args (bg_O g) (bg_pR P)
abbrev bg_g (κ : bg_K) (y : bg_Y) (pc : Nat) (ls : List (Option bg_V)) (st : List bg_V) (g : bg_E) : Prop := bg_G κ y (0, 0) pc ls st (bg_O g)
section ORD
variable {κ : bg_K} {y : bg_Y} {cc : ByteArray} {own : String} {dd mcc mss pc : Nat} {ls : List (Option bg_V)} {st : List bg_V} {g : bg_E}
theorem bo_getI (X : bg_X κ y cc own dd mcc mss) {a ci N k idx : Nat} (hd : decode cc pc = .ok (.getfield idx, 3)) (hf : bg_FL own idx ci N k) (hk : bg_kd a = some (ci, N)) (hi : bg_fi ci k = true) (kk : bg_g κ y (pc + 3) ls (.inl (g a k) :: st) g) : bg_g κ y pc ls (.inr a :: st) g := bg_getI X hd hf hk hi (bg_kd_lt hk) kk
theorem bo_getR (X : bg_X κ y cc own dd mcc mss) {a ci N k idx b : Nat} (hd : decode cc pc = .ok (.getfield idx, 3)) (hf : bg_FL own idx ci N k) (hk : bg_kd a = some (ci, N)) (hi : bg_fi ci k = false) (hr : bg_F a k = some b) (kk : bg_g κ y (pc + 3) ls (.inr b :: st) g) : bg_g κ y pc ls (.inr a :: st) g := bg_getR X hd hf hk hi (bg_kd_lt hk) hr kk
theorem bo_putI (X : bg_X κ y cc own dd mcc mss) {a ci N k idx : Nat} {v : Int} (hd : decode cc pc = .ok (.putfield idx, 3)) (hf : bg_FL own idx ci N k) (hk : bg_kd a = some (ci, N)) (hi : bg_fi ci k = true) (kk : bg_g κ y (pc + 3) ls st (bg_up g a k v)) : bg_g κ y pc ls (.inl v :: .inr a :: st) g := bg_putI X hd hf hk hi (bg_kd_lt hk) (bg_oP (bg_up_ne (Ne.symm (bg_kd_ne hk))) kk)
theorem bo_iaload (X : bg_X κ y cc own dd mcc mss) {a N : Nat} {i : Int} (hd : decode cc pc = .ok (.iaload, 1)) (hk : bg_kd a = some (8, N)) (h0 : 0 ≤ i ∧ i < N) (kk : bg_g κ y (pc + 1) ls (.inl (g a i.toNat) :: st) g) : bg_g κ y pc ls (.inl i :: .inr a :: st) g := bg_iaload X hd hk (bg_kd_lt hk) h0 kk
theorem bo_iastore (X : bg_X κ y cc own dd mcc mss) {a N : Nat} {i v : Int} (hd : decode cc pc = .ok (.iastore, 1)) (hk : bg_kd a = some (8, N)) (h0 : 0 ≤ i ∧ i < N) (kk : bg_g κ y (pc + 1) ls st (bg_up g a i.toNat v)) : bg_g κ y pc ls (.inl v :: .inl i :: .inr a :: st) g := bg_iastore X hd hk (bg_kd_lt hk) h0 (bg_oP (bg_up_ne (Ne.symm (bg_kd_ne hk))) kk)
theorem bo_aaload (X : bg_X κ y cc own dd mcc mss) {a ci N b : Nat} {i : Int} (hd : decode cc pc = .ok (.aaload, 1)) (hk : bg_kd a = some (ci, N)) (hc : ci = 9 ∨ ci = 10) (h0 : 0 ≤ i ∧ i < N) (hr : bg_F a i.toNat = some b) (kk : bg_g κ y (pc + 1) ls (.inr b :: st) g) : bg_g κ y pc ls (.inl i :: .inr a :: st) g := bg_aaload X hd hk hc (bg_kd_lt hk) h0 hr kk
theorem bo_ifeq_b (X : bg_X κ y cc own dd mcc mss) {p : Prop} {_ : Decidable p} {off : Int} {tgt : Nat} (hd : decode cc pc = .ok (.ifCond .eq off, 3)) (ht : (pc : Int) + off = (tgt : Int)) (k1 : ¬ p → bg_g κ y tgt ls st g) (k2 : p → bg_g κ y (pc + 3) ls st g) : bg_g κ y pc ls (.inl (b2i p) :: st) g := bg_if_eq X hd ht (fun h => k1 (b2i_eq h)) (fun h => k2 (b2i_ne h))
theorem bo_ifne_b (X : bg_X κ y cc own dd mcc mss) {p : Prop} {_ : Decidable p} {off : Int} {tgt : Nat} (hd : decode cc pc = .ok (.ifCond .ne off, 3)) (ht : (pc : Int) + off = (tgt : Int)) (k1 : p → bg_g κ y tgt ls st g) (k2 : ¬ p → bg_g κ y (pc + 3) ls st g) : bg_g κ y pc ls (.inl (b2i p) :: st) g := bg_if_ne X hd ht (fun h => k1 (b2i_ne h)) (fun h => k2 (b2i_eq h))
theorem bo_V0i (X : bg_X κ y cc own dd mcc mss) {d idx m ci N a : Nat} {μ : bg_P} {P : Int → bg_E → Prop} (hc : bg_Si y d μ [.inr a] g P) (hm : bg_mV μ ci m) (hl : Cond.methodLink own idx μ.1 ∈ bg_T) (hn : 0 = m) (hk : bg_kd a = some (ci, N)) (hd : d + 1 ≤ dd) (hdc : decode cc pc = .ok (.invokevirtual idx, 3)) (hst : st.length ≤ 8) (kk : ∀ (i : Int) (g' : bg_E), P i g' → bg_g κ y (pc + 3) ls (.inl i :: st) g') : bg_g κ y pc ls (.inr a :: st) g := by
  refine bg_callV X (As := []) hc hm hl hn hk (bg_kd_lt hk) hd ⟨Nat.zero_le _, Nat.zero_le _⟩ hdc hst ?_
  rintro _ _ ⟨i, g', rfl, rfl, hP⟩
  exact kk i g' hP
theorem bo_V0v (X : bg_X κ y cc own dd mcc mss) {d idx m ci N a : Nat} {μ : bg_P} {P : bg_E → Prop} (hc : bg_Sv y d μ [.inr a] g P) (hm : bg_mV μ ci m) (hl : Cond.methodLink own idx μ.1 ∈ bg_T) (hn : 0 = m) (hk : bg_kd a = some (ci, N)) (hd : d + 1 ≤ dd) (hdc : decode cc pc = .ok (.invokevirtual idx, 3)) (hst : st.length ≤ 8) (kk : ∀ (g' : bg_E), P g' → bg_g κ y (pc + 3) ls st g') : bg_g κ y pc ls (.inr a :: st) g := by
  refine bg_callV X (As := []) hc hm hl hn hk (bg_kd_lt hk) hd ⟨Nat.zero_le _, Nat.zero_le _⟩ hdc hst ?_
  rintro _ _ ⟨g', rfl, rfl, hP⟩
  exact kk g' hP
theorem bo_V0r (X : bg_X κ y cc own dd mcc mss) {d idx m ci N a : Nat} {μ : bg_P} {P : Nat → bg_E → Prop} (hc : bg_Sr y d μ [.inr a] g P) (hm : bg_mV μ ci m) (hl : Cond.methodLink own idx μ.1 ∈ bg_T) (hn : 0 = m) (hk : bg_kd a = some (ci, N)) (hd : d + 1 ≤ dd) (hdc : decode cc pc = .ok (.invokevirtual idx, 3)) (hst : st.length ≤ 8) (kk : ∀ (i : Nat) (g' : bg_E), P i g' → bg_g κ y (pc + 3) ls (.inr i :: st) g') : bg_g κ y pc ls (.inr a :: st) g := by
  refine bg_callV X (As := []) hc hm hl hn hk (bg_kd_lt hk) hd ⟨Nat.zero_le _, Nat.zero_le _⟩ hdc hst ?_
  rintro _ _ ⟨i, g', rfl, rfl, hP⟩
  exact kk i g' hP
theorem bo_V1i (X : bg_X κ y cc own dd mcc mss) {d idx m ci N a : Nat} {μ : bg_P} {x1 : bg_V} {P : Int → bg_E → Prop} (hc : bg_Si y d μ [.inr a, x1] g P) (hm : bg_mV μ ci m) (hl : Cond.methodLink own idx μ.1 ∈ bg_T) (hn : 1 = m) (hk : bg_kd a = some (ci, N)) (hd : d + 1 ≤ dd) (hdc : decode cc pc = .ok (.invokevirtual idx, 3)) (hst : st.length ≤ 8) (kk : ∀ (i : Int) (g' : bg_E), P i g' → bg_g κ y (pc + 3) ls (.inl i :: st) g') : bg_g κ y pc ls (x1 :: .inr a :: st) g := by
  refine bg_callV X (As := [x1]) hc hm hl hn hk (bg_kd_lt hk) hd ⟨Nat.zero_le _, Nat.zero_le _⟩ hdc hst ?_
  rintro _ _ ⟨i, g', rfl, rfl, hP⟩
  exact kk i g' hP
theorem bo_V1v (X : bg_X κ y cc own dd mcc mss) {d idx m ci N a : Nat} {μ : bg_P} {x1 : bg_V} {P : bg_E → Prop} (hc : bg_Sv y d μ [.inr a, x1] g P) (hm : bg_mV μ ci m) (hl : Cond.methodLink own idx μ.1 ∈ bg_T) (hn : 1 = m) (hk : bg_kd a = some (ci, N)) (hd : d + 1 ≤ dd) (hdc : decode cc pc = .ok (.invokevirtual idx, 3)) (hst : st.length ≤ 8) (kk : ∀ (g' : bg_E), P g' → bg_g κ y (pc + 3) ls st g') : bg_g κ y pc ls (x1 :: .inr a :: st) g := by
  refine bg_callV X (As := [x1]) hc hm hl hn hk (bg_kd_lt hk) hd ⟨Nat.zero_le _, Nat.zero_le _⟩ hdc hst ?_
  rintro _ _ ⟨g', rfl, rfl, hP⟩
  exact kk g' hP
theorem bo_V1r (X : bg_X κ y cc own dd mcc mss) {d idx m ci N a : Nat} {μ : bg_P} {x1 : bg_V} {P : Nat → bg_E → Prop} (hc : bg_Sr y d μ [.inr a, x1] g P) (hm : bg_mV μ ci m) (hl : Cond.methodLink own idx μ.1 ∈ bg_T) (hn : 1 = m) (hk : bg_kd a = some (ci, N)) (hd : d + 1 ≤ dd) (hdc : decode cc pc = .ok (.invokevirtual idx, 3)) (hst : st.length ≤ 8) (kk : ∀ (i : Nat) (g' : bg_E), P i g' → bg_g κ y (pc + 3) ls (.inr i :: st) g') : bg_g κ y pc ls (x1 :: .inr a :: st) g := by
  refine bg_callV X (As := [x1]) hc hm hl hn hk (bg_kd_lt hk) hd ⟨Nat.zero_le _, Nat.zero_le _⟩ hdc hst ?_
  rintro _ _ ⟨i, g', rfl, rfl, hP⟩
  exact kk i g' hP
theorem bo_S1i (X : bg_X κ y cc own dd mcc mss) {d idx m : Nat} {μ : bg_P} {x1 : bg_V} {P : Int → bg_E → Prop} (hc : bg_Si y d μ [x1] g P) (hm : bg_mS μ m) (hl : Cond.methodLink own idx μ.1 ∈ bg_T) (hn : 1 = m) (hd : d + 1 ≤ dd) (hdc : decode cc pc = .ok (.invokestatic idx, 3)) (hst : st.length ≤ 8) (kk : ∀ (i : Int) (g' : bg_E), P i g' → bg_g κ y (pc + 3) ls (.inl i :: st) g') : bg_g κ y pc ls (x1 :: st) g := by
  refine bg_callS X (As := [x1]) hc hm hl hn hd ⟨Nat.zero_le _, Nat.zero_le _⟩ hdc hst ?_
  rintro _ _ ⟨i, g', rfl, rfl, hP⟩
  exact kk i g' hP
theorem bo_N1i (X : bg_X κ y cc own dd mcc mss) {d idx m : Nat} {host : String} {μ : bg_P} {x1 : bg_V} {P : Int → bg_E → Prop} (hc : bg_Si y d μ [x1] g P) (hm : bg_mS μ m) (hl : Cond.methodLinkNest own idx μ.1 host ∈ bg_NW) (hn : 1 = m) (hd : d + 1 ≤ dd) (hdc : decode cc pc = .ok (.invokestatic idx, 3)) (hst : st.length ≤ 8) (kk : ∀ (i : Int) (g' : bg_E), P i g' → bg_g κ y (pc + 3) ls (.inl i :: st) g') : bg_g κ y pc ls (x1 :: st) g := by
  refine bg_callSN X (As := [x1]) hc hm hl hn hd ⟨Nat.zero_le _, Nat.zero_le _⟩ hdc hst ?_
  rintro _ _ ⟨i, g', rfl, rfl, hP⟩
  exact kk i g' hP
theorem bo_V2i (X : bg_X κ y cc own dd mcc mss) {d idx m ci N a : Nat} {μ : bg_P} {x1 x2 : bg_V} {P : Int → bg_E → Prop} (hc : bg_Si y d μ [.inr a, x1, x2] g P) (hm : bg_mV μ ci m) (hl : Cond.methodLink own idx μ.1 ∈ bg_T) (hn : 2 = m) (hk : bg_kd a = some (ci, N)) (hd : d + 1 ≤ dd) (hdc : decode cc pc = .ok (.invokevirtual idx, 3)) (hst : st.length ≤ 8) (kk : ∀ (i : Int) (g' : bg_E), P i g' → bg_g κ y (pc + 3) ls (.inl i :: st) g') : bg_g κ y pc ls (x2 :: x1 :: .inr a :: st) g := by
  refine bg_callV X (As := [x1, x2]) hc hm hl hn hk (bg_kd_lt hk) hd ⟨Nat.zero_le _, Nat.zero_le _⟩ hdc hst ?_
  rintro _ _ ⟨i, g', rfl, rfl, hP⟩
  exact kk i g' hP
theorem bo_V2v (X : bg_X κ y cc own dd mcc mss) {d idx m ci N a : Nat} {μ : bg_P} {x1 x2 : bg_V} {P : bg_E → Prop} (hc : bg_Sv y d μ [.inr a, x1, x2] g P) (hm : bg_mV μ ci m) (hl : Cond.methodLink own idx μ.1 ∈ bg_T) (hn : 2 = m) (hk : bg_kd a = some (ci, N)) (hd : d + 1 ≤ dd) (hdc : decode cc pc = .ok (.invokevirtual idx, 3)) (hst : st.length ≤ 8) (kk : ∀ (g' : bg_E), P g' → bg_g κ y (pc + 3) ls st g') : bg_g κ y pc ls (x2 :: x1 :: .inr a :: st) g := by
  refine bg_callV X (As := [x1, x2]) hc hm hl hn hk (bg_kd_lt hk) hd ⟨Nat.zero_le _, Nat.zero_le _⟩ hdc hst ?_
  rintro _ _ ⟨g', rfl, rfl, hP⟩
  exact kk g' hP
theorem bo_S2i (X : bg_X κ y cc own dd mcc mss) {d idx m : Nat} {μ : bg_P} {x1 x2 : bg_V} {P : Int → bg_E → Prop} (hc : bg_Si y d μ [x1, x2] g P) (hm : bg_mS μ m) (hl : Cond.methodLink own idx μ.1 ∈ bg_T) (hn : 2 = m) (hd : d + 1 ≤ dd) (hdc : decode cc pc = .ok (.invokestatic idx, 3)) (hst : st.length ≤ 8) (kk : ∀ (i : Int) (g' : bg_E), P i g' → bg_g κ y (pc + 3) ls (.inl i :: st) g') : bg_g κ y pc ls (x2 :: x1 :: st) g := by
  refine bg_callS X (As := [x1, x2]) hc hm hl hn hd ⟨Nat.zero_le _, Nat.zero_le _⟩ hdc hst ?_
  rintro _ _ ⟨i, g', rfl, rfl, hP⟩
  exact kk i g' hP
theorem bo_V3i (X : bg_X κ y cc own dd mcc mss) {d idx m ci N a : Nat} {μ : bg_P} {x1 x2 x3 : bg_V} {P : Int → bg_E → Prop} (hc : bg_Si y d μ [.inr a, x1, x2, x3] g P) (hm : bg_mV μ ci m) (hl : Cond.methodLink own idx μ.1 ∈ bg_T) (hn : 3 = m) (hk : bg_kd a = some (ci, N)) (hd : d + 1 ≤ dd) (hdc : decode cc pc = .ok (.invokevirtual idx, 3)) (hst : st.length ≤ 8) (kk : ∀ (i : Int) (g' : bg_E), P i g' → bg_g κ y (pc + 3) ls (.inl i :: st) g') : bg_g κ y pc ls (x3 :: x2 :: x1 :: .inr a :: st) g := by
  refine bg_callV X (As := [x1, x2, x3]) hc hm hl hn hk (bg_kd_lt hk) hd ⟨Nat.zero_le _, Nat.zero_le _⟩ hdc hst ?_
  rintro _ _ ⟨i, g', rfl, rfl, hP⟩
  exact kk i g' hP
theorem bo_V3v (X : bg_X κ y cc own dd mcc mss) {d idx m ci N a : Nat} {μ : bg_P} {x1 x2 x3 : bg_V} {P : bg_E → Prop} (hc : bg_Sv y d μ [.inr a, x1, x2, x3] g P) (hm : bg_mV μ ci m) (hl : Cond.methodLink own idx μ.1 ∈ bg_T) (hn : 3 = m) (hk : bg_kd a = some (ci, N)) (hd : d + 1 ≤ dd) (hdc : decode cc pc = .ok (.invokevirtual idx, 3)) (hst : st.length ≤ 8) (kk : ∀ (g' : bg_E), P g' → bg_g κ y (pc + 3) ls st g') : bg_g κ y pc ls (x3 :: x2 :: x1 :: .inr a :: st) g := by
  refine bg_callV X (As := [x1, x2, x3]) hc hm hl hn hk (bg_kd_lt hk) hd ⟨Nat.zero_le _, Nat.zero_le _⟩ hdc hst ?_
  rintro _ _ ⟨g', rfl, rfl, hP⟩
  exact kk g' hP
theorem bo_S3i (X : bg_X κ y cc own dd mcc mss) {d idx m : Nat} {μ : bg_P} {x1 x2 x3 : bg_V} {P : Int → bg_E → Prop} (hc : bg_Si y d μ [x1, x2, x3] g P) (hm : bg_mS μ m) (hl : Cond.methodLink own idx μ.1 ∈ bg_T) (hn : 3 = m) (hd : d + 1 ≤ dd) (hdc : decode cc pc = .ok (.invokestatic idx, 3)) (hst : st.length ≤ 8) (kk : ∀ (i : Int) (g' : bg_E), P i g' → bg_g κ y (pc + 3) ls (.inl i :: st) g') : bg_g κ y pc ls (x3 :: x2 :: x1 :: st) g := by
  refine bg_callS X (As := [x1, x2, x3]) hc hm hl hn hd ⟨Nat.zero_le _, Nat.zero_le _⟩ hdc hst ?_
  rintro _ _ ⟨i, g', rfl, rfl, hP⟩
  exact kk i g' hP
theorem bo_V4i (X : bg_X κ y cc own dd mcc mss) {d idx m ci N a : Nat} {μ : bg_P} {x1 x2 x3 x4 : bg_V} {P : Int → bg_E → Prop} (hc : bg_Si y d μ [.inr a, x1, x2, x3, x4] g P) (hm : bg_mV μ ci m) (hl : Cond.methodLink own idx μ.1 ∈ bg_T) (hn : 4 = m) (hk : bg_kd a = some (ci, N)) (hd : d + 1 ≤ dd) (hdc : decode cc pc = .ok (.invokevirtual idx, 3)) (hst : st.length ≤ 8) (kk : ∀ (i : Int) (g' : bg_E), P i g' → bg_g κ y (pc + 3) ls (.inl i :: st) g') : bg_g κ y pc ls (x4 :: x3 :: x2 :: x1 :: .inr a :: st) g := by
  refine bg_callV X (As := [x1, x2, x3, x4]) hc hm hl hn hk (bg_kd_lt hk) hd ⟨Nat.zero_le _, Nat.zero_le _⟩ hdc hst ?_
  rintro _ _ ⟨i, g', rfl, rfl, hP⟩
  exact kk i g' hP
theorem bo_V4v (X : bg_X κ y cc own dd mcc mss) {d idx m ci N a : Nat} {μ : bg_P} {x1 x2 x3 x4 : bg_V} {P : bg_E → Prop} (hc : bg_Sv y d μ [.inr a, x1, x2, x3, x4] g P) (hm : bg_mV μ ci m) (hl : Cond.methodLink own idx μ.1 ∈ bg_T) (hn : 4 = m) (hk : bg_kd a = some (ci, N)) (hd : d + 1 ≤ dd) (hdc : decode cc pc = .ok (.invokevirtual idx, 3)) (hst : st.length ≤ 8) (kk : ∀ (g' : bg_E), P g' → bg_g κ y (pc + 3) ls st g') : bg_g κ y pc ls (x4 :: x3 :: x2 :: x1 :: .inr a :: st) g := by
  refine bg_callV X (As := [x1, x2, x3, x4]) hc hm hl hn hk (bg_kd_lt hk) hd ⟨Nat.zero_le _, Nat.zero_le _⟩ hdc hst ?_
  rintro _ _ ⟨g', rfl, rfl, hP⟩
  exact kk g' hP
theorem bo_S4i (X : bg_X κ y cc own dd mcc mss) {d idx m : Nat} {μ : bg_P} {x1 x2 x3 x4 : bg_V} {P : Int → bg_E → Prop} (hc : bg_Si y d μ [x1, x2, x3, x4] g P) (hm : bg_mS μ m) (hl : Cond.methodLink own idx μ.1 ∈ bg_T) (hn : 4 = m) (hd : d + 1 ≤ dd) (hdc : decode cc pc = .ok (.invokestatic idx, 3)) (hst : st.length ≤ 8) (kk : ∀ (i : Int) (g' : bg_E), P i g' → bg_g κ y (pc + 3) ls (.inl i :: st) g') : bg_g κ y pc ls (x4 :: x3 :: x2 :: x1 :: st) g := by
  refine bg_callS X (As := [x1, x2, x3, x4]) hc hm hl hn hd ⟨Nat.zero_le _, Nat.zero_le _⟩ hdc hst ?_
  rintro _ _ ⟨i, g', rfl, rfl, hP⟩
  exact kk i g' hP
theorem bo_V5i (X : bg_X κ y cc own dd mcc mss) {d idx m ci N a : Nat} {μ : bg_P} {x1 x2 x3 x4 x5 : bg_V} {P : Int → bg_E → Prop} (hc : bg_Si y d μ [.inr a, x1, x2, x3, x4, x5] g P) (hm : bg_mV μ ci m) (hl : Cond.methodLink own idx μ.1 ∈ bg_T) (hn : 5 = m) (hk : bg_kd a = some (ci, N)) (hd : d + 1 ≤ dd) (hdc : decode cc pc = .ok (.invokevirtual idx, 3)) (hst : st.length ≤ 8) (kk : ∀ (i : Int) (g' : bg_E), P i g' → bg_g κ y (pc + 3) ls (.inl i :: st) g') : bg_g κ y pc ls (x5 :: x4 :: x3 :: x2 :: x1 :: .inr a :: st) g := by
  refine bg_callV X (As := [x1, x2, x3, x4, x5]) hc hm hl hn hk (bg_kd_lt hk) hd ⟨Nat.zero_le _, Nat.zero_le _⟩ hdc hst ?_
  rintro _ _ ⟨i, g', rfl, rfl, hP⟩
  exact kk i g' hP
theorem bo_V5v (X : bg_X κ y cc own dd mcc mss) {d idx m ci N a : Nat} {μ : bg_P} {x1 x2 x3 x4 x5 : bg_V} {P : bg_E → Prop} (hc : bg_Sv y d μ [.inr a, x1, x2, x3, x4, x5] g P) (hm : bg_mV μ ci m) (hl : Cond.methodLink own idx μ.1 ∈ bg_T) (hn : 5 = m) (hk : bg_kd a = some (ci, N)) (hd : d + 1 ≤ dd) (hdc : decode cc pc = .ok (.invokevirtual idx, 3)) (hst : st.length ≤ 8) (kk : ∀ (g' : bg_E), P g' → bg_g κ y (pc + 3) ls st g') : bg_g κ y pc ls (x5 :: x4 :: x3 :: x2 :: x1 :: .inr a :: st) g := by
  refine bg_callV X (As := [x1, x2, x3, x4, x5]) hc hm hl hn hk (bg_kd_lt hk) hd ⟨Nat.zero_le _, Nat.zero_le _⟩ hdc hst ?_
  rintro _ _ ⟨g', rfl, rfl, hP⟩
  exact kk g' hP
theorem bo_S5i (X : bg_X κ y cc own dd mcc mss) {d idx m : Nat} {μ : bg_P} {x1 x2 x3 x4 x5 : bg_V} {P : Int → bg_E → Prop} (hc : bg_Si y d μ [x1, x2, x3, x4, x5] g P) (hm : bg_mS μ m) (hl : Cond.methodLink own idx μ.1 ∈ bg_T) (hn : 5 = m) (hd : d + 1 ≤ dd) (hdc : decode cc pc = .ok (.invokestatic idx, 3)) (hst : st.length ≤ 8) (kk : ∀ (i : Int) (g' : bg_E), P i g' → bg_g κ y (pc + 3) ls (.inl i :: st) g') : bg_g κ y pc ls (x5 :: x4 :: x3 :: x2 :: x1 :: st) g := by
  refine bg_callS X (As := [x1, x2, x3, x4, x5]) hc hm hl hn hd ⟨Nat.zero_le _, Nat.zero_le _⟩ hdc hst ?_
  rintro _ _ ⟨i, g', rfl, rfl, hP⟩
  exact kk i g' hP
theorem bo_max (X : bg_X κ y cc own dd mcc mss) {idx : Nat} {p q : Int} (hl : Cond.methodLink own idx Lib.Math.max.name ∈ bg_T) (h1 : 1 ≤ dd) (hd : decode cc pc = .ok (.invokestatic idx, 3)) (hst : st.length ≤ 8) (kk : bg_g κ y (pc + 3) ls (.inl (max p q) :: st) g) : bg_g κ y pc ls (.inl q :: .inl p :: st) g := by
  intro H locs a hD hS hL hR
  obtain ⟨hx, hb, hown, hts, hK, hbs, hlk, r1, r2, r3, r4⟩ := X
  have hq : R32 q := hR.1
  have hp : R32 p := hR.2.1
  refine va_mmax hx hb hL.2.1.symm hown (hts _ hl) (hts _ jM_stat_max) (hts _ jM_ini) (hts _ jM_code_max) (Nat.le_trans h1 r1) (by rw [bg_RS_R]; omega) (Nat.zero_le _) (Nat.zero_le _) hd ?_
  have e : (if Int32.ofInt p < Int32.ofInt q then Int32.ofInt q else Int32.ofInt p) = Int32.ofInt (max p q) := by
    by_cases h : p < q
    · rw [if_pos ((bg_lt hp hq).mpr h), Int.max_eq_right (by omega)]
    · rw [if_neg (fun z => h ((bg_lt hp hq).mp z)), Int.max_eq_left (by omega)]
  rw [e]
  exact kk H locs a hD hS hL ⟨by show R32 _; omega, hR.2.2⟩
theorem bo_min (X : bg_X κ y cc own dd mcc mss) {idx : Nat} {p q : Int} (hl : Cond.methodLink own idx Lib.Math.min.name ∈ bg_T) (h1 : 1 ≤ dd) (hd : decode cc pc = .ok (.invokestatic idx, 3)) (hst : st.length ≤ 8) (kk : bg_g κ y (pc + 3) ls (.inl (min p q) :: st) g) : bg_g κ y pc ls (.inl q :: .inl p :: st) g := by
  intro H locs a hD hS hL hR
  obtain ⟨hx, hb, hown, hts, hK, hbs, hlk, r1, r2, r3, r4⟩ := X
  have hq : R32 q := hR.1
  have hp : R32 p := hR.2.1
  refine va_mmin hx hb hL.2.1.symm hown (hts _ hl) (hts _ jM_stat_min) (hts _ jM_ini) (hts _ jM_code_min) (Nat.le_trans h1 r1) (by rw [bg_RS_R]; omega) (Nat.zero_le _) (Nat.zero_le _) hd ?_
  have e : (if Int32.ofInt q < Int32.ofInt p then Int32.ofInt q else Int32.ofInt p) = Int32.ofInt (min p q) := by
    by_cases h : q < p
    · rw [if_pos ((bg_lt hq hp).mpr h), Int.min_eq_right (by omega)]
    · rw [if_neg (fun z => h ((bg_lt hq hp).mp z)), Int.min_eq_left (by omega)]
  rw [e]
  exact kk H locs a hD hS hL ⟨by show R32 _; omega, hR.2.2⟩
theorem bo_abs (X : bg_X κ y cc own dd mcc mss) {idx : Nat} {p : Int} (hl : Cond.methodLink own idx Lib.Math.abs.name ∈ bg_T) (h1 : 1 ≤ dd) (hp0 : -2147483648 < p) (hd : decode cc pc = .ok (.invokestatic idx, 3)) (hst : st.length ≤ 8) (kk : bg_g κ y (pc + 3) ls (.inl (p.natAbs : Int) :: st) g) : bg_g κ y pc ls (.inl p :: st) g := by
  intro H locs a hD hS hL hR
  obtain ⟨hx, hb, hown, hts, hK, hbs, hlk, r1, r2, r3, r4⟩ := X
  have hp : R32 p := hR.1
  refine va_mabs hx hb hL.2.1.symm hown (hts _ hl) (hts _ jM_stat_abs) (hts _ jM_ini) (hts _ jM_code_abs) (Nat.le_trans h1 r1) (by rw [bg_RS_R]; omega) (Nat.zero_le _) (Nat.zero_le _) hd ?_
  have e : (if 0 ≤ Int32.ofInt p then Int32.ofInt p else 0 - Int32.ofInt p) = Int32.ofInt (p.natAbs : Int) := by
    rw [show (0 : Int32) = Int32.ofInt 0 from rfl]
    by_cases h : 0 ≤ p
    · rw [if_pos ((bg_le (a := 0) (by decide) hp).mpr h)]
      congr 1
      omega
    · rw [if_neg (fun z => h ((bg_le (a := 0) (by decide) hp).mp z)), ← Int32.ofInt_sub]
      congr 1
      omega
  rw [e]
  exact kk H locs a hD hS hL ⟨by show R32 _; omega, hR.2⟩
theorem bo_copy (X : bg_X κ y cc own dd mcc mss) {idx a0 a N0 N1 : Nat} {n : Int} (hl : Cond.methodLink own idx arraycopyName ∈ bg_T) (hk0 : bg_kd a0 = some (8, N0)) (hk1 : bg_kd a = some (8, N1)) (h0 : 0 ≤ n ∧ n ≤ N0 ∧ n ≤ N1) (h1 : 1 ≤ dd) (hd : decode cc pc = .ok (.invokestatic idx, 3)) (hst : st.length ≤ 8) (kk : bg_g κ y (pc + 3) ls st (fun x j => if x = a ∧ j < n.toNat then g a0 j else g x j)) : bg_g κ y pc ls (.inl n :: .inl 0 :: .inr a :: .inl 0 :: .inr a0 :: st) g := by
  intro H locs ar hD hS hL hR
  obtain ⟨hx, hb, hown, hts, hK, hbs, hlk, r1, r2, r3, r4⟩ := X
  have hn : R32 n := hR.1
  have hix := bg_idx hn
  have hc0 := (hD.2.1 a0 (bg_kd_lt hk0) 8 N0 (bg_kdd_of hk0)).2 (Nat.le_refl 8)
  have hc1 := (hD.2.1 a (bg_kd_lt hk1) 8 N1 (bg_kdd_of hk1)).2 (Nat.le_refl 8)
  intro T hT Xs
  obtain ⟨-, k0, hk0', cm0, hkk0⟩ := (hK.1.2 0 _ rfl).1 N0 (bg_ae y bg_F g 8 a0)
  obtain ⟨-, k1, hk1', cm1, hkk1⟩ := (hK.1.2 0 _ rfl).1 N1 (bg_ae y bg_F g 8 a)
  have hn0 : ¬ Int32.ofInt n < 0 := fun z => by have := (bg_lt (b := 0) hn (by decide)).mp z; omega
  have hz : (0 : Int32).toNatClampNeg = 0 := rfl
  have hgetD : ∀ i, i < N0 → (arrV (bg_cA y 8) N0 (bg_ae y bg_F g 8 a0)).slots.getD i .null = .int (Int32.ofInt (g a0 i)) := fun i hi => by
    rw [Array.getD_eq_getD_getElem?, arrV_read _ _ hi]
    rfl
  obtain ⟨vm', X', step⟩ := Xs.arraycopy hx hown (hts _ hl) (hts _ jA_nat) (hts _ jA_stat) (hts _ jA_ini) (src := y.1 + a0) (dst := y.1 + a) (cs := arrV (bg_cA y 8) N0 (bg_ae y bg_F g 8 a0)) (cd := arrV (bg_cA y 8) N1 (bg_ae y bg_F g 8 a)) (srcPos := 0) (destPos := 0) (n := Int32.ofInt n) (by rw [hT]; exact hc0) (by rw [hT]; exact hc1)
    (fun _ h => by cases h) (fun _ h => by cases h) (fun h => by cases h) (fun h => by cases h) hk0' hk1' hkk0 hkk1 rfl (by decide) (by decide) hn0
    (by rw [bg_toInt hn]; show ¬ (0 : Int) + n > ((arrV _ _ _).slots.size : Int); rw [arrV_size]; omega)
    (by rw [bg_toInt hn]; show ¬ (0 : Int) + n > ((arrV _ _ _).slots.size : Int); rw [arrV_size]; omega)
    (fun vm₁ _ i hi => by
      rw [hix] at hi
      rw [hz, Nat.zero_add]
      rw [hgetD i (by omega)]
      exact ⟨rfl, trivial⟩)
    (g := F0 (bg_m κ) pc ar (.int (Int32.ofInt n) :: .int 0 :: .ref (y.1 + a) :: .int 0 :: .ref (y.1 + a0) :: st.map (bg_v y))) rfl hL.2.1 (rest := st.map (bg_v y)) rfl (by rw [hb]; exact hd) (Nat.le_trans h1 r1) (by
      show 2 * 0 + _ + _ ≤ _
      rw [bg_RS_R]
      have : nativeFrameWords "java/lang/System" "arraycopy" 5 + 11 ≤ 30 := by decide +kernel
      have r2' : 44 * dd ≤ κ.2.2.2.1.locals := r2
      omega)
  have e1 : copied (arrV (bg_cA y 8) N0 (bg_ae y bg_F g 8 a0)) (arrV (bg_cA y 8) N1 (bg_ae y bg_F g 8 a)) 0 0 (Int32.ofInt n) = arrV (bg_cA y 8) N1 (bg_ae y bg_F (fun x j => if x = a ∧ j < n.toNat then g a0 j else g x j) 8 a) := by
    have h := va_copied (fun z : Int => Value.int (Int32.ofInt z)) (bg_cA y 8) (bg_cA y 8) (n0 := N0) (n1 := N1) (sp := 0) (dp := 0) (n := (Int32.ofInt n).toNatClampNeg) (g a0) (g a) (by rw [hix]; omega)
    refine Eq.trans h ?_
    congr 1
    funext j
    unfold va_cpy bg_ae
    rw [hix]
    simp
  rw [e1] at X' step
  have hl1 : y.1 + a < H.size := (Array.getElem?_eq_some_iff.mp hc1).1
  have oq : ∀ (c1 : Cell) (q : Nat), q ≠ y.1 + a → (H.setIfInBounds (y.1 + a) c1)[q]? = H[q]? := fun c1 q hq => by simp [Array.getElem?_setIfInBounds, Ne.symm hq]
  have hheap : ∀ c1 : Cell, ((T.setVm vm').setCell (y.1 + a) c1).heap = H.setIfInBounds (y.1 + a) c1 := fun c1 => by rw [← hT]; rfl
  have hD' : bg_D y (bg_O (fun x j => if x = a ∧ j < n.toNat then g a0 j else g x j)) (H.setIfInBounds (y.1 + a) (arrV (bg_cA y 8) N1 (bg_ae y bg_F (fun x j => if x = a ∧ j < n.toNat then g a0 j else g x j) 8 a))) := by
    have hp : (fun x j => if x = a ∧ j < n.toNat then g a0 j else g x j : bg_E) bg_PZ = g bg_PZ := by
      funext j
      simp [Ne.symm (bg_kd_ne hk1)]
    show bg_D y (bg_n (fun x j => if x = a ∧ j < n.toNat then g a0 j else g x j), _, _) _
    rw [bg_n_P hp]
    refine bg_D.set (id := a) hD (by simp) (oq _) ?_ (fun _ _ => rfl) (fun i hi => by funext j; simp [hi]) (fun x j => by
      show R32 (if _ then _ else _)
      split
      · exact hD.2.2 _ _
      · exact hD.2.2 _ _) (bg_kd_ne hk1)
    intro ci N hk
    cases (bg_kdd_of hk1).symm.trans hk
    exact ⟨fun h => absurd h (by omega), fun _ => by simp [Array.getElem?_setIfInBounds, hl1]⟩
  obtain ⟨t, a1, b1⟩ := kk _ _ ar hD' ⟨by simp; exact hS.1, fun q g1 g2 => by
      rw [oq _ q (fun e => g2 (by rw [e]; exact Nat.le_add_right _ _))]
      exact hS.2.1 q g1 g2, fun q hq => by
      rcases List.mem_append.mp hq with h | h
      · exact hS.2.2 q h
      · obtain ⟨z, -, hz⟩ := List.mem_map.mp h
        rw [← hz]
        exact Nat.le_add_right _ _⟩ hL hR.2.2.2.2.2 _ (hheap _) X'
  exact ⟨t, step t a1, b1⟩
theorem bo_iret {d : Nat} {μ : bg_P} {P : Int → bg_E → Prop} (X : bg_Xm κ y μ d 0 0 (bg_pI P)) (hr : μ.2.2.2 = some .int) {i : Int} (hd : decode μ.2.1 pc = .ok (.ireturn, 1)) (hp : R32 i → P i g) : bg_g κ y pc ls [.inl i] g := bg_iret X hr hd (fun h => ⟨i, g, rfl, rfl, hp h⟩)
theorem bo_zret {d : Nat} {μ : bg_P} {P : Int → bg_E → Prop} (X : bg_Xm κ y μ d 0 0 (bg_pI P)) (hr : μ.2.2.2 = some .boolean) {i : Int} (h01 : i = 0 ∨ i = 1) (hd : decode μ.2.1 pc = .ok (.ireturn, 1)) (hp : P i g) : bg_g κ y pc ls [.inl i] g := bg_zret X hr h01 hd ⟨i, g, rfl, rfl, hp⟩
theorem bo_aret {d : Nat} {μ : bg_P} {P : Nat → bg_E → Prop} (X : bg_Xm κ y μ d 0 0 (bg_pR P)) {C : String} (hr : μ.2.2.2 = some (.object C)) {i : Nat} (hd : decode μ.2.1 pc = .ok (.areturn, 1)) (hp : P i g) : bg_g κ y pc ls [.inr i] g := bg_aret X hr hd ⟨i, g, rfl, rfl, hp⟩
theorem bo_vret {d : Nat} {μ : bg_P} {P : bg_E → Prop} (X : bg_Xm κ y μ d 0 0 (bg_pV P)) (hr : μ.2.2.2 = none) (hd : decode μ.2.1 pc = .ok (.return_, 1)) (hp : (∀ a k, R32 (g a k)) → P g) : bg_g κ y pc ls [] g := bg_vret X hr hd (fun h => ⟨g, rfl, rfl, hp h⟩)
end ORD
theorem bg_Si.mono {y : bg_Y} {d : Nat} {μ : bg_P} {args : List bg_V} {g : bg_E} {P P' : Int → bg_E → Prop} (hp : P = P') (h : bg_Si y d μ args g P) : bg_Si y d μ args g P' := hp ▸ h
theorem pnX0 : plainName RX0 = true := by decide +kernel
theorem pnX1 : plainName RX1 = true := by decide +kernel
theorem pnX2 : plainName RX2 = true := by decide +kernel
theorem pnX3 : plainName RX3 = true := by decide +kernel
theorem pnX4 : plainName RX4 = true := by decide +kernel
theorem pnX5 : plainName RX5 = true := by decide +kernel
theorem pnX6 : plainName RX6 = true := by decide +kernel
theorem pnL : plainName RL = true := by decide +kernel
section ORDC
variable {κ : bg_K} {y : bg_Y} {cs : Nat × Nat} {cc : ByteArray} {own : String} {dd mcc mss pc : Nat} {ls : List (Option bg_V)} {st : List bg_V} {g : bg_E}
theorem bq_iaload (X : bg_X κ y cc own dd mcc mss) {a N : Nat} {i : Int} (hd : decode cc pc = .ok (.iaload, 1)) (hk : bg_kd a = some (8, N)) (h0 : 0 ≤ i ∧ i < N) (kk : bg_G κ y cs (pc + 1) ls (.inl (g a i.toNat) :: st) (bg_O g)) : bg_G κ y cs pc ls (.inl i :: .inr a :: st) (bg_O g) := bg_iaload X hd hk (bg_kd_lt hk) h0 kk
theorem bq_iastore (X : bg_X κ y cc own dd mcc mss) {a N : Nat} {i v : Int} (hd : decode cc pc = .ok (.iastore, 1)) (hk : bg_kd a = some (8, N)) (h0 : 0 ≤ i ∧ i < N) (kk : bg_G κ y cs (pc + 1) ls st (bg_O (bg_up g a i.toNat v))) : bg_G κ y cs pc ls (.inl v :: .inl i :: .inr a :: st) (bg_O g) := bg_iastore X hd hk (bg_kd_lt hk) h0 (bg_oP (bg_up_ne (Ne.symm (bg_kd_ne hk))) kk)
theorem bq_ifeq_b (X : bg_X κ y cc own dd mcc mss) {p : Prop} {_ : Decidable p} {off : Int} {tgt : Nat} (hd : decode cc pc = .ok (.ifCond .eq off, 3)) (ht : (pc : Int) + off = (tgt : Int)) (k1 : ¬ p → bg_G κ y cs tgt ls st (bg_O g)) (k2 : p → bg_G κ y cs (pc + 3) ls st (bg_O g)) : bg_G κ y cs pc ls (.inl (b2i p) :: st) (bg_O g) := bg_if_eq X hd ht (fun h => k1 (b2i_eq h)) (fun h => k2 (b2i_ne h))
theorem bq_ifne_b (X : bg_X κ y cc own dd mcc mss) {p : Prop} {_ : Decidable p} {off : Int} {tgt : Nat} (hd : decode cc pc = .ok (.ifCond .ne off, 3)) (ht : (pc : Int) + off = (tgt : Int)) (k1 : p → bg_G κ y cs tgt ls st (bg_O g)) (k2 : ¬ p → bg_G κ y cs (pc + 3) ls st (bg_O g)) : bg_G κ y cs pc ls (.inl (b2i p) :: st) (bg_O g) := bg_if_ne X hd ht (fun h => k1 (b2i_ne h)) (fun h => k2 (b2i_eq h))
theorem bq_V0i (X : bg_X κ y cc own dd mcc mss) {d idx m ci N a : Nat} {μ : bg_P} {P : Int → bg_E → Prop} (hc : bg_Si y d μ [.inr a] g P) (hm : bg_mV μ ci m) (hl : Cond.methodLink own idx μ.1 ∈ bg_T) (hn : 0 = m) (hk : bg_kd a = some (ci, N)) (hd : d + 1 ≤ dd) (hdc : decode cc pc = .ok (.invokevirtual idx, 3)) (hst : st.length ≤ 8) (hcs : cs.1 ≤ mcc ∧ cs.2 ≤ mss) (kk : ∀ (i : Int) (g' : bg_E), P i g' → bg_G κ y cs (pc + 3) ls (.inl i :: st) (bg_O g')) : bg_G κ y cs pc ls (.inr a :: st) (bg_O g) := by
  refine bg_callV X (As := []) hc hm hl hn hk (bg_kd_lt hk) hd hcs hdc hst ?_
  rintro _ _ ⟨i, g', rfl, rfl, hP⟩
  exact kk i g' hP
theorem bq_V0v (X : bg_X κ y cc own dd mcc mss) {d idx m ci N a : Nat} {μ : bg_P} {P : bg_E → Prop} (hc : bg_Sv y d μ [.inr a] g P) (hm : bg_mV μ ci m) (hl : Cond.methodLink own idx μ.1 ∈ bg_T) (hn : 0 = m) (hk : bg_kd a = some (ci, N)) (hd : d + 1 ≤ dd) (hdc : decode cc pc = .ok (.invokevirtual idx, 3)) (hst : st.length ≤ 8) (hcs : cs.1 ≤ mcc ∧ cs.2 ≤ mss) (kk : ∀ (g' : bg_E), P g' → bg_G κ y cs (pc + 3) ls st (bg_O g')) : bg_G κ y cs pc ls (.inr a :: st) (bg_O g) := by
  refine bg_callV X (As := []) hc hm hl hn hk (bg_kd_lt hk) hd hcs hdc hst ?_
  rintro _ _ ⟨g', rfl, rfl, hP⟩
  exact kk g' hP
theorem bq_V1i (X : bg_X κ y cc own dd mcc mss) {d idx m ci N a : Nat} {μ : bg_P} {x1 : bg_V} {P : Int → bg_E → Prop} (hc : bg_Si y d μ [.inr a, x1] g P) (hm : bg_mV μ ci m) (hl : Cond.methodLink own idx μ.1 ∈ bg_T) (hn : 1 = m) (hk : bg_kd a = some (ci, N)) (hd : d + 1 ≤ dd) (hdc : decode cc pc = .ok (.invokevirtual idx, 3)) (hst : st.length ≤ 8) (hcs : cs.1 ≤ mcc ∧ cs.2 ≤ mss) (kk : ∀ (i : Int) (g' : bg_E), P i g' → bg_G κ y cs (pc + 3) ls (.inl i :: st) (bg_O g')) : bg_G κ y cs pc ls (x1 :: .inr a :: st) (bg_O g) := by
  refine bg_callV X (As := [x1]) hc hm hl hn hk (bg_kd_lt hk) hd hcs hdc hst ?_
  rintro _ _ ⟨i, g', rfl, rfl, hP⟩
  exact kk i g' hP
theorem bq_V1v (X : bg_X κ y cc own dd mcc mss) {d idx m ci N a : Nat} {μ : bg_P} {x1 : bg_V} {P : bg_E → Prop} (hc : bg_Sv y d μ [.inr a, x1] g P) (hm : bg_mV μ ci m) (hl : Cond.methodLink own idx μ.1 ∈ bg_T) (hn : 1 = m) (hk : bg_kd a = some (ci, N)) (hd : d + 1 ≤ dd) (hdc : decode cc pc = .ok (.invokevirtual idx, 3)) (hst : st.length ≤ 8) (hcs : cs.1 ≤ mcc ∧ cs.2 ≤ mss) (kk : ∀ (g' : bg_E), P g' → bg_G κ y cs (pc + 3) ls st (bg_O g')) : bg_G κ y cs pc ls (x1 :: .inr a :: st) (bg_O g) := by
  refine bg_callV X (As := [x1]) hc hm hl hn hk (bg_kd_lt hk) hd hcs hdc hst ?_
  rintro _ _ ⟨g', rfl, rfl, hP⟩
  exact kk g' hP
theorem bq_S1i (X : bg_X κ y cc own dd mcc mss) {d idx m : Nat} {μ : bg_P} {x1 : bg_V} {P : Int → bg_E → Prop} (hc : bg_Si y d μ [x1] g P) (hm : bg_mS μ m) (hl : Cond.methodLink own idx μ.1 ∈ bg_T) (hn : 1 = m) (hd : d + 1 ≤ dd) (hdc : decode cc pc = .ok (.invokestatic idx, 3)) (hst : st.length ≤ 8) (hcs : cs.1 ≤ mcc ∧ cs.2 ≤ mss) (kk : ∀ (i : Int) (g' : bg_E), P i g' → bg_G κ y cs (pc + 3) ls (.inl i :: st) (bg_O g')) : bg_G κ y cs pc ls (x1 :: st) (bg_O g) := by
  refine bg_callS X (As := [x1]) hc hm hl hn hd hcs hdc hst ?_
  rintro _ _ ⟨i, g', rfl, rfl, hP⟩
  exact kk i g' hP
theorem bq_V2i (X : bg_X κ y cc own dd mcc mss) {d idx m ci N a : Nat} {μ : bg_P} {x1 x2 : bg_V} {P : Int → bg_E → Prop} (hc : bg_Si y d μ [.inr a, x1, x2] g P) (hm : bg_mV μ ci m) (hl : Cond.methodLink own idx μ.1 ∈ bg_T) (hn : 2 = m) (hk : bg_kd a = some (ci, N)) (hd : d + 1 ≤ dd) (hdc : decode cc pc = .ok (.invokevirtual idx, 3)) (hst : st.length ≤ 8) (hcs : cs.1 ≤ mcc ∧ cs.2 ≤ mss) (kk : ∀ (i : Int) (g' : bg_E), P i g' → bg_G κ y cs (pc + 3) ls (.inl i :: st) (bg_O g')) : bg_G κ y cs pc ls (x2 :: x1 :: .inr a :: st) (bg_O g) := by
  refine bg_callV X (As := [x1, x2]) hc hm hl hn hk (bg_kd_lt hk) hd hcs hdc hst ?_
  rintro _ _ ⟨i, g', rfl, rfl, hP⟩
  exact kk i g' hP
theorem bq_V2v (X : bg_X κ y cc own dd mcc mss) {d idx m ci N a : Nat} {μ : bg_P} {x1 x2 : bg_V} {P : bg_E → Prop} (hc : bg_Sv y d μ [.inr a, x1, x2] g P) (hm : bg_mV μ ci m) (hl : Cond.methodLink own idx μ.1 ∈ bg_T) (hn : 2 = m) (hk : bg_kd a = some (ci, N)) (hd : d + 1 ≤ dd) (hdc : decode cc pc = .ok (.invokevirtual idx, 3)) (hst : st.length ≤ 8) (hcs : cs.1 ≤ mcc ∧ cs.2 ≤ mss) (kk : ∀ (g' : bg_E), P g' → bg_G κ y cs (pc + 3) ls st (bg_O g')) : bg_G κ y cs pc ls (x2 :: x1 :: .inr a :: st) (bg_O g) := by
  refine bg_callV X (As := [x1, x2]) hc hm hl hn hk (bg_kd_lt hk) hd hcs hdc hst ?_
  rintro _ _ ⟨g', rfl, rfl, hP⟩
  exact kk g' hP
theorem bq_S2i (X : bg_X κ y cc own dd mcc mss) {d idx m : Nat} {μ : bg_P} {x1 x2 : bg_V} {P : Int → bg_E → Prop} (hc : bg_Si y d μ [x1, x2] g P) (hm : bg_mS μ m) (hl : Cond.methodLink own idx μ.1 ∈ bg_T) (hn : 2 = m) (hd : d + 1 ≤ dd) (hdc : decode cc pc = .ok (.invokestatic idx, 3)) (hst : st.length ≤ 8) (hcs : cs.1 ≤ mcc ∧ cs.2 ≤ mss) (kk : ∀ (i : Int) (g' : bg_E), P i g' → bg_G κ y cs (pc + 3) ls (.inl i :: st) (bg_O g')) : bg_G κ y cs pc ls (x2 :: x1 :: st) (bg_O g) := by
  refine bg_callS X (As := [x1, x2]) hc hm hl hn hd hcs hdc hst ?_
  rintro _ _ ⟨i, g', rfl, rfl, hP⟩
  exact kk i g' hP
theorem bq_V3i (X : bg_X κ y cc own dd mcc mss) {d idx m ci N a : Nat} {μ : bg_P} {x1 x2 x3 : bg_V} {P : Int → bg_E → Prop} (hc : bg_Si y d μ [.inr a, x1, x2, x3] g P) (hm : bg_mV μ ci m) (hl : Cond.methodLink own idx μ.1 ∈ bg_T) (hn : 3 = m) (hk : bg_kd a = some (ci, N)) (hd : d + 1 ≤ dd) (hdc : decode cc pc = .ok (.invokevirtual idx, 3)) (hst : st.length ≤ 8) (hcs : cs.1 ≤ mcc ∧ cs.2 ≤ mss) (kk : ∀ (i : Int) (g' : bg_E), P i g' → bg_G κ y cs (pc + 3) ls (.inl i :: st) (bg_O g')) : bg_G κ y cs pc ls (x3 :: x2 :: x1 :: .inr a :: st) (bg_O g) := by
  refine bg_callV X (As := [x1, x2, x3]) hc hm hl hn hk (bg_kd_lt hk) hd hcs hdc hst ?_
  rintro _ _ ⟨i, g', rfl, rfl, hP⟩
  exact kk i g' hP
theorem bq_V3v (X : bg_X κ y cc own dd mcc mss) {d idx m ci N a : Nat} {μ : bg_P} {x1 x2 x3 : bg_V} {P : bg_E → Prop} (hc : bg_Sv y d μ [.inr a, x1, x2, x3] g P) (hm : bg_mV μ ci m) (hl : Cond.methodLink own idx μ.1 ∈ bg_T) (hn : 3 = m) (hk : bg_kd a = some (ci, N)) (hd : d + 1 ≤ dd) (hdc : decode cc pc = .ok (.invokevirtual idx, 3)) (hst : st.length ≤ 8) (hcs : cs.1 ≤ mcc ∧ cs.2 ≤ mss) (kk : ∀ (g' : bg_E), P g' → bg_G κ y cs (pc + 3) ls st (bg_O g')) : bg_G κ y cs pc ls (x3 :: x2 :: x1 :: .inr a :: st) (bg_O g) := by
  refine bg_callV X (As := [x1, x2, x3]) hc hm hl hn hk (bg_kd_lt hk) hd hcs hdc hst ?_
  rintro _ _ ⟨g', rfl, rfl, hP⟩
  exact kk g' hP
theorem bq_S3i (X : bg_X κ y cc own dd mcc mss) {d idx m : Nat} {μ : bg_P} {x1 x2 x3 : bg_V} {P : Int → bg_E → Prop} (hc : bg_Si y d μ [x1, x2, x3] g P) (hm : bg_mS μ m) (hl : Cond.methodLink own idx μ.1 ∈ bg_T) (hn : 3 = m) (hd : d + 1 ≤ dd) (hdc : decode cc pc = .ok (.invokestatic idx, 3)) (hst : st.length ≤ 8) (hcs : cs.1 ≤ mcc ∧ cs.2 ≤ mss) (kk : ∀ (i : Int) (g' : bg_E), P i g' → bg_G κ y cs (pc + 3) ls (.inl i :: st) (bg_O g')) : bg_G κ y cs pc ls (x3 :: x2 :: x1 :: st) (bg_O g) := by
  refine bg_callS X (As := [x1, x2, x3]) hc hm hl hn hd hcs hdc hst ?_
  rintro _ _ ⟨i, g', rfl, rfl, hP⟩
  exact kk i g' hP
theorem bq_V4i (X : bg_X κ y cc own dd mcc mss) {d idx m ci N a : Nat} {μ : bg_P} {x1 x2 x3 x4 : bg_V} {P : Int → bg_E → Prop} (hc : bg_Si y d μ [.inr a, x1, x2, x3, x4] g P) (hm : bg_mV μ ci m) (hl : Cond.methodLink own idx μ.1 ∈ bg_T) (hn : 4 = m) (hk : bg_kd a = some (ci, N)) (hd : d + 1 ≤ dd) (hdc : decode cc pc = .ok (.invokevirtual idx, 3)) (hst : st.length ≤ 8) (hcs : cs.1 ≤ mcc ∧ cs.2 ≤ mss) (kk : ∀ (i : Int) (g' : bg_E), P i g' → bg_G κ y cs (pc + 3) ls (.inl i :: st) (bg_O g')) : bg_G κ y cs pc ls (x4 :: x3 :: x2 :: x1 :: .inr a :: st) (bg_O g) := by
  refine bg_callV X (As := [x1, x2, x3, x4]) hc hm hl hn hk (bg_kd_lt hk) hd hcs hdc hst ?_
  rintro _ _ ⟨i, g', rfl, rfl, hP⟩
  exact kk i g' hP
theorem bq_V4v (X : bg_X κ y cc own dd mcc mss) {d idx m ci N a : Nat} {μ : bg_P} {x1 x2 x3 x4 : bg_V} {P : bg_E → Prop} (hc : bg_Sv y d μ [.inr a, x1, x2, x3, x4] g P) (hm : bg_mV μ ci m) (hl : Cond.methodLink own idx μ.1 ∈ bg_T) (hn : 4 = m) (hk : bg_kd a = some (ci, N)) (hd : d + 1 ≤ dd) (hdc : decode cc pc = .ok (.invokevirtual idx, 3)) (hst : st.length ≤ 8) (hcs : cs.1 ≤ mcc ∧ cs.2 ≤ mss) (kk : ∀ (g' : bg_E), P g' → bg_G κ y cs (pc + 3) ls st (bg_O g')) : bg_G κ y cs pc ls (x4 :: x3 :: x2 :: x1 :: .inr a :: st) (bg_O g) := by
  refine bg_callV X (As := [x1, x2, x3, x4]) hc hm hl hn hk (bg_kd_lt hk) hd hcs hdc hst ?_
  rintro _ _ ⟨g', rfl, rfl, hP⟩
  exact kk g' hP
theorem bq_S4i (X : bg_X κ y cc own dd mcc mss) {d idx m : Nat} {μ : bg_P} {x1 x2 x3 x4 : bg_V} {P : Int → bg_E → Prop} (hc : bg_Si y d μ [x1, x2, x3, x4] g P) (hm : bg_mS μ m) (hl : Cond.methodLink own idx μ.1 ∈ bg_T) (hn : 4 = m) (hd : d + 1 ≤ dd) (hdc : decode cc pc = .ok (.invokestatic idx, 3)) (hst : st.length ≤ 8) (hcs : cs.1 ≤ mcc ∧ cs.2 ≤ mss) (kk : ∀ (i : Int) (g' : bg_E), P i g' → bg_G κ y cs (pc + 3) ls (.inl i :: st) (bg_O g')) : bg_G κ y cs pc ls (x4 :: x3 :: x2 :: x1 :: st) (bg_O g) := by
  refine bg_callS X (As := [x1, x2, x3, x4]) hc hm hl hn hd hcs hdc hst ?_
  rintro _ _ ⟨i, g', rfl, rfl, hP⟩
  exact kk i g' hP
theorem bq_V5i (X : bg_X κ y cc own dd mcc mss) {d idx m ci N a : Nat} {μ : bg_P} {x1 x2 x3 x4 x5 : bg_V} {P : Int → bg_E → Prop} (hc : bg_Si y d μ [.inr a, x1, x2, x3, x4, x5] g P) (hm : bg_mV μ ci m) (hl : Cond.methodLink own idx μ.1 ∈ bg_T) (hn : 5 = m) (hk : bg_kd a = some (ci, N)) (hd : d + 1 ≤ dd) (hdc : decode cc pc = .ok (.invokevirtual idx, 3)) (hst : st.length ≤ 8) (hcs : cs.1 ≤ mcc ∧ cs.2 ≤ mss) (kk : ∀ (i : Int) (g' : bg_E), P i g' → bg_G κ y cs (pc + 3) ls (.inl i :: st) (bg_O g')) : bg_G κ y cs pc ls (x5 :: x4 :: x3 :: x2 :: x1 :: .inr a :: st) (bg_O g) := by
  refine bg_callV X (As := [x1, x2, x3, x4, x5]) hc hm hl hn hk (bg_kd_lt hk) hd hcs hdc hst ?_
  rintro _ _ ⟨i, g', rfl, rfl, hP⟩
  exact kk i g' hP
theorem bq_V5v (X : bg_X κ y cc own dd mcc mss) {d idx m ci N a : Nat} {μ : bg_P} {x1 x2 x3 x4 x5 : bg_V} {P : bg_E → Prop} (hc : bg_Sv y d μ [.inr a, x1, x2, x3, x4, x5] g P) (hm : bg_mV μ ci m) (hl : Cond.methodLink own idx μ.1 ∈ bg_T) (hn : 5 = m) (hk : bg_kd a = some (ci, N)) (hd : d + 1 ≤ dd) (hdc : decode cc pc = .ok (.invokevirtual idx, 3)) (hst : st.length ≤ 8) (hcs : cs.1 ≤ mcc ∧ cs.2 ≤ mss) (kk : ∀ (g' : bg_E), P g' → bg_G κ y cs (pc + 3) ls st (bg_O g')) : bg_G κ y cs pc ls (x5 :: x4 :: x3 :: x2 :: x1 :: .inr a :: st) (bg_O g) := by
  refine bg_callV X (As := [x1, x2, x3, x4, x5]) hc hm hl hn hk (bg_kd_lt hk) hd hcs hdc hst ?_
  rintro _ _ ⟨g', rfl, rfl, hP⟩
  exact kk g' hP
theorem bq_S5i (X : bg_X κ y cc own dd mcc mss) {d idx m : Nat} {μ : bg_P} {x1 x2 x3 x4 x5 : bg_V} {P : Int → bg_E → Prop} (hc : bg_Si y d μ [x1, x2, x3, x4, x5] g P) (hm : bg_mS μ m) (hl : Cond.methodLink own idx μ.1 ∈ bg_T) (hn : 5 = m) (hd : d + 1 ≤ dd) (hdc : decode cc pc = .ok (.invokestatic idx, 3)) (hst : st.length ≤ 8) (hcs : cs.1 ≤ mcc ∧ cs.2 ≤ mss) (kk : ∀ (i : Int) (g' : bg_E), P i g' → bg_G κ y cs (pc + 3) ls (.inl i :: st) (bg_O g')) : bg_G κ y cs pc ls (x5 :: x4 :: x3 :: x2 :: x1 :: st) (bg_O g) := by
  refine bg_callS X (As := [x1, x2, x3, x4, x5]) hc hm hl hn hd hcs hdc hst ?_
  rintro _ _ ⟨i, g', rfl, rfl, hP⟩
  exact kk i g' hP
theorem bq_S1v (X : bg_X κ y cc own dd mcc mss) {d idx m : Nat} {μ : bg_P} {x1 : bg_V} {P : bg_E → Prop} (hc : bg_Sv y d μ [x1] g P) (hm : bg_mS μ m) (hl : Cond.methodLink own idx μ.1 ∈ bg_T) (hn : 1 = m) (hd : d + 1 ≤ dd) (hdc : decode cc pc = .ok (.invokestatic idx, 3)) (hst : st.length ≤ 8) (hcs : cs.1 ≤ mcc ∧ cs.2 ≤ mss) (kk : ∀ (g' : bg_E), P g' → bg_G κ y cs (pc + 3) ls st (bg_O g')) : bg_G κ y cs pc ls (x1 :: st) (bg_O g) := by
  refine bg_callS X (As := [x1]) hc hm hl hn hd hcs hdc hst ?_
  rintro _ _ ⟨g', rfl, rfl, hP⟩
  exact kk g' hP
theorem bq_S2v (X : bg_X κ y cc own dd mcc mss) {d idx m : Nat} {μ : bg_P} {x1 x2 : bg_V} {P : bg_E → Prop} (hc : bg_Sv y d μ [x1, x2] g P) (hm : bg_mS μ m) (hl : Cond.methodLink own idx μ.1 ∈ bg_T) (hn : 2 = m) (hd : d + 1 ≤ dd) (hdc : decode cc pc = .ok (.invokestatic idx, 3)) (hst : st.length ≤ 8) (hcs : cs.1 ≤ mcc ∧ cs.2 ≤ mss) (kk : ∀ (g' : bg_E), P g' → bg_G κ y cs (pc + 3) ls st (bg_O g')) : bg_G κ y cs pc ls (x2 :: x1 :: st) (bg_O g) := by
  refine bg_callS X (As := [x1, x2]) hc hm hl hn hd hcs hdc hst ?_
  rintro _ _ ⟨g', rfl, rfl, hP⟩
  exact kk g' hP
theorem bq_S3v (X : bg_X κ y cc own dd mcc mss) {d idx m : Nat} {μ : bg_P} {x1 x2 x3 : bg_V} {P : bg_E → Prop} (hc : bg_Sv y d μ [x1, x2, x3] g P) (hm : bg_mS μ m) (hl : Cond.methodLink own idx μ.1 ∈ bg_T) (hn : 3 = m) (hd : d + 1 ≤ dd) (hdc : decode cc pc = .ok (.invokestatic idx, 3)) (hst : st.length ≤ 8) (hcs : cs.1 ≤ mcc ∧ cs.2 ≤ mss) (kk : ∀ (g' : bg_E), P g' → bg_G κ y cs (pc + 3) ls st (bg_O g')) : bg_G κ y cs pc ls (x3 :: x2 :: x1 :: st) (bg_O g) := by
  refine bg_callS X (As := [x1, x2, x3]) hc hm hl hn hd hcs hdc hst ?_
  rintro _ _ ⟨g', rfl, rfl, hP⟩
  exact kk g' hP
theorem bq_S4v (X : bg_X κ y cc own dd mcc mss) {d idx m : Nat} {μ : bg_P} {x1 x2 x3 x4 : bg_V} {P : bg_E → Prop} (hc : bg_Sv y d μ [x1, x2, x3, x4] g P) (hm : bg_mS μ m) (hl : Cond.methodLink own idx μ.1 ∈ bg_T) (hn : 4 = m) (hd : d + 1 ≤ dd) (hdc : decode cc pc = .ok (.invokestatic idx, 3)) (hst : st.length ≤ 8) (hcs : cs.1 ≤ mcc ∧ cs.2 ≤ mss) (kk : ∀ (g' : bg_E), P g' → bg_G κ y cs (pc + 3) ls st (bg_O g')) : bg_G κ y cs pc ls (x4 :: x3 :: x2 :: x1 :: st) (bg_O g) := by
  refine bg_callS X (As := [x1, x2, x3, x4]) hc hm hl hn hd hcs hdc hst ?_
  rintro _ _ ⟨g', rfl, rfl, hP⟩
  exact kk g' hP
theorem bq_S5v (X : bg_X κ y cc own dd mcc mss) {d idx m : Nat} {μ : bg_P} {x1 x2 x3 x4 x5 : bg_V} {P : bg_E → Prop} (hc : bg_Sv y d μ [x1, x2, x3, x4, x5] g P) (hm : bg_mS μ m) (hl : Cond.methodLink own idx μ.1 ∈ bg_T) (hn : 5 = m) (hd : d + 1 ≤ dd) (hdc : decode cc pc = .ok (.invokestatic idx, 3)) (hst : st.length ≤ 8) (hcs : cs.1 ≤ mcc ∧ cs.2 ≤ mss) (kk : ∀ (g' : bg_E), P g' → bg_G κ y cs (pc + 3) ls st (bg_O g')) : bg_G κ y cs pc ls (x5 :: x4 :: x3 :: x2 :: x1 :: st) (bg_O g) := by
  refine bg_callS X (As := [x1, x2, x3, x4, x5]) hc hm hl hn hd hcs hdc hst ?_
  rintro _ _ ⟨g', rfl, rfl, hP⟩
  exact kk g' hP
theorem bq_S6i (X : bg_X κ y cc own dd mcc mss) {d idx m : Nat} {μ : bg_P} {x1 x2 x3 x4 x5 x6 : bg_V} {P : Int → bg_E → Prop} (hc : bg_Si y d μ [x1, x2, x3, x4, x5, x6] g P) (hm : bg_mS μ m) (hl : Cond.methodLink own idx μ.1 ∈ bg_T) (hn : 6 = m) (hd : d + 1 ≤ dd) (hdc : decode cc pc = .ok (.invokestatic idx, 3)) (hst : st.length ≤ 8) (hcs : cs.1 ≤ mcc ∧ cs.2 ≤ mss) (kk : ∀ (i : Int) (g' : bg_E), P i g' → bg_G κ y cs (pc + 3) ls (.inl i :: st) (bg_O g')) : bg_G κ y cs pc ls (x6 :: x5 :: x4 :: x3 :: x2 :: x1 :: st) (bg_O g) := by
  refine bg_callS X (As := [x1, x2, x3, x4, x5, x6]) hc hm hl hn hd hcs hdc hst ?_
  rintro _ _ ⟨i, g', rfl, rfl, hP⟩
  exact kk i g' hP
theorem bq_S6v (X : bg_X κ y cc own dd mcc mss) {d idx m : Nat} {μ : bg_P} {x1 x2 x3 x4 x5 x6 : bg_V} {P : bg_E → Prop} (hc : bg_Sv y d μ [x1, x2, x3, x4, x5, x6] g P) (hm : bg_mS μ m) (hl : Cond.methodLink own idx μ.1 ∈ bg_T) (hn : 6 = m) (hd : d + 1 ≤ dd) (hdc : decode cc pc = .ok (.invokestatic idx, 3)) (hst : st.length ≤ 8) (hcs : cs.1 ≤ mcc ∧ cs.2 ≤ mss) (kk : ∀ (g' : bg_E), P g' → bg_G κ y cs (pc + 3) ls st (bg_O g')) : bg_G κ y cs pc ls (x6 :: x5 :: x4 :: x3 :: x2 :: x1 :: st) (bg_O g) := by
  refine bg_callS X (As := [x1, x2, x3, x4, x5, x6]) hc hm hl hn hd hcs hdc hst ?_
  rintro _ _ ⟨g', rfl, rfl, hP⟩
  exact kk g' hP
theorem bq_S7i (X : bg_X κ y cc own dd mcc mss) {d idx m : Nat} {μ : bg_P} {x1 x2 x3 x4 x5 x6 x7 : bg_V} {P : Int → bg_E → Prop} (hc : bg_Si y d μ [x1, x2, x3, x4, x5, x6, x7] g P) (hm : bg_mS μ m) (hl : Cond.methodLink own idx μ.1 ∈ bg_T) (hn : 7 = m) (hd : d + 1 ≤ dd) (hdc : decode cc pc = .ok (.invokestatic idx, 3)) (hst : st.length ≤ 8) (hcs : cs.1 ≤ mcc ∧ cs.2 ≤ mss) (kk : ∀ (i : Int) (g' : bg_E), P i g' → bg_G κ y cs (pc + 3) ls (.inl i :: st) (bg_O g')) : bg_G κ y cs pc ls (x7 :: x6 :: x5 :: x4 :: x3 :: x2 :: x1 :: st) (bg_O g) := by
  refine bg_callS X (As := [x1, x2, x3, x4, x5, x6, x7]) hc hm hl hn hd hcs hdc hst ?_
  rintro _ _ ⟨i, g', rfl, rfl, hP⟩
  exact kk i g' hP
theorem bq_S7v (X : bg_X κ y cc own dd mcc mss) {d idx m : Nat} {μ : bg_P} {x1 x2 x3 x4 x5 x6 x7 : bg_V} {P : bg_E → Prop} (hc : bg_Sv y d μ [x1, x2, x3, x4, x5, x6, x7] g P) (hm : bg_mS μ m) (hl : Cond.methodLink own idx μ.1 ∈ bg_T) (hn : 7 = m) (hd : d + 1 ≤ dd) (hdc : decode cc pc = .ok (.invokestatic idx, 3)) (hst : st.length ≤ 8) (hcs : cs.1 ≤ mcc ∧ cs.2 ≤ mss) (kk : ∀ (g' : bg_E), P g' → bg_G κ y cs (pc + 3) ls st (bg_O g')) : bg_G κ y cs pc ls (x7 :: x6 :: x5 :: x4 :: x3 :: x2 :: x1 :: st) (bg_O g) := by
  refine bg_callS X (As := [x1, x2, x3, x4, x5, x6, x7]) hc hm hl hn hd hcs hdc hst ?_
  rintro _ _ ⟨g', rfl, rfl, hP⟩
  exact kk g' hP
theorem bq_S8i (X : bg_X κ y cc own dd mcc mss) {d idx m : Nat} {μ : bg_P} {x1 x2 x3 x4 x5 x6 x7 x8 : bg_V} {P : Int → bg_E → Prop} (hc : bg_Si y d μ [x1, x2, x3, x4, x5, x6, x7, x8] g P) (hm : bg_mS μ m) (hl : Cond.methodLink own idx μ.1 ∈ bg_T) (hn : 8 = m) (hd : d + 1 ≤ dd) (hdc : decode cc pc = .ok (.invokestatic idx, 3)) (hst : st.length ≤ 8) (hcs : cs.1 ≤ mcc ∧ cs.2 ≤ mss) (kk : ∀ (i : Int) (g' : bg_E), P i g' → bg_G κ y cs (pc + 3) ls (.inl i :: st) (bg_O g')) : bg_G κ y cs pc ls (x8 :: x7 :: x6 :: x5 :: x4 :: x3 :: x2 :: x1 :: st) (bg_O g) := by
  refine bg_callS X (As := [x1, x2, x3, x4, x5, x6, x7, x8]) hc hm hl hn hd hcs hdc hst ?_
  rintro _ _ ⟨i, g', rfl, rfl, hP⟩
  exact kk i g' hP
theorem bq_S8v (X : bg_X κ y cc own dd mcc mss) {d idx m : Nat} {μ : bg_P} {x1 x2 x3 x4 x5 x6 x7 x8 : bg_V} {P : bg_E → Prop} (hc : bg_Sv y d μ [x1, x2, x3, x4, x5, x6, x7, x8] g P) (hm : bg_mS μ m) (hl : Cond.methodLink own idx μ.1 ∈ bg_T) (hn : 8 = m) (hd : d + 1 ≤ dd) (hdc : decode cc pc = .ok (.invokestatic idx, 3)) (hst : st.length ≤ 8) (hcs : cs.1 ≤ mcc ∧ cs.2 ≤ mss) (kk : ∀ (g' : bg_E), P g' → bg_G κ y cs (pc + 3) ls st (bg_O g')) : bg_G κ y cs pc ls (x8 :: x7 :: x6 :: x5 :: x4 :: x3 :: x2 :: x1 :: st) (bg_O g) := by
  refine bg_callS X (As := [x1, x2, x3, x4, x5, x6, x7, x8]) hc hm hl hn hd hcs hdc hst ?_
  rintro _ _ ⟨g', rfl, rfl, hP⟩
  exact kk g' hP
theorem bq_zret {d mc ms : Nat} {μ : bg_P} {P : Int → bg_E → Prop} (X : bg_Xm κ y μ d mc ms (bg_pI P)) (hr : μ.2.2.2 = some .boolean) {i : Int} (h01 : i = 0 ∨ i = 1) (hd : decode μ.2.1 pc = .ok (.ireturn, 1)) (hp : P i g) : bg_G κ y (mc, ms) pc ls [.inl i] (bg_O g) := bg_zret X hr h01 hd ⟨i, g, rfl, rfl, hp⟩
end ORDC
