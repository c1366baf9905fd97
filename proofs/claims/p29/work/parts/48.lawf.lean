/-! the law: its walk -/
/-- how far the state of things has come: at most n turns -/
def lI (g : bg_E) (Z : bm_X) (n : Nat) : Prop := actI g Z (600 * (n : Int)) ∧ 0 ≤ g bg_PZ 0 ∧ g bg_PZ 0 ≤ 2 * (n : Int) + 1
theorem hstk4 {y : bg_Y} (w : Int32) : ([.int w, .ref (y.1 + 199), .ref (y.1 + 198), .ref (y.1 + 0)] : List Value) = (List.map (bg_v y) [.inr 0, .inr 198, .inr 199, .inl w.toInt]).reverse ++ [] := by
  show _ = [Value.int (Int32.ofInt w.toInt), .ref (y.1 + 199), .ref (y.1 + 198), .ref (y.1 + 0)]
  rw [Int32.ofInt_toInt]
theorem hstk6 {y : bg_Y} (w : Int32) : ([.int w, .ref (y.1 + 201), .ref (y.1 + 200), .ref (y.1 + 199), .ref (y.1 + 198), .ref (y.1 + 0)] : List Value) = (List.map (bg_v y) [.inr 0, .inr 198, .inr 199, .inr 200, .inr 201, .inl w.toInt]).reverse ++ [] := by
  show _ = [Value.int (Int32.ofInt w.toInt), .ref (y.1 + 201), .ref (y.1 + 200), .ref (y.1 + 199), .ref (y.1 + 198), .ref (y.1 + 0)]
  rw [Int32.ofInt_toInt]
theorem hstk2 {y : bg_Y} (v : Int32) (st : List Value) : (.int (Int32.ofInt 50) :: .int v :: st : List Value) = (List.map (bg_v y) [.inl v.toInt, .inl 50]).reverse ++ st := by
  show _ = Value.int (Int32.ofInt 50) :: Value.int (Int32.ofInt v.toInt) :: st
  rw [Int32.ofInt_toInt]
theorem bl_end {κ : bg_K} {y : bg_Y} {b L : Nat} {xs : Nat → Int32} {c1 c2 : Nat} {a : Array Slot} {g : bg_E} {Z : bm_X} (C : bl_C κ y b L xs) (hX : clsR g Z) (ok : okX Z) (hl : lv_has a 10 [(6, .int (Int32.ofInt 1)), (1, .ref (y.1 + 0))]) (h1 : c1 ≤ 742713) (h2 : c2 ≤ 6874108) (hend : ∀ (a : Array Slot) (g : bg_E), bl_H κ y (c1, c2) 229 a [.int 1] (bg_O g)) : bl_H κ y (c1, c2) 187 a [] (bg_O g) := by
  obtain ⟨hx, hb, hown, hts, hK, hbs, hlk, r1, r2, r3, r4⟩ := id C.1
  have hsz : a.size = 10 := hl.1
  have q1 : xCount Z 10 = -1000001 := by
    unfold xCount
    rw [if_neg (by decide), if_neg (by decide), if_neg (by decide), if_neg (by decide), if_neg (by decide), if_neg (by decide)]
    rfl
  have q2 : xAccount Z 5 = -1000001 := by
    unfold xAccount
    rw [if_neg (by decide)]
    rfl
  have q3 : xHole Z 4 0 = -1000001 := by
    unfold xHole
    rw [if_neg (by decide)]
    rfl
  intro H locs hD hS
  refine lv_iload hx hb dL_law_187 (lv_at hl 0 rfl) ?_
  refine lv_if_eq (tgt := 228) hx hb dL_law_189 (by decide) (fun h => absurd h (by decide)) (fun _ => ?_)
  refine lv_aload_n hx hb dL_law_192 rfl (lv_at hl 1 rfl) ?_
  refine lv_bipush (v := Int32.ofInt 10) hx hb dL_law_193 rfl ?_
  revert H locs
  refine bl_call (pc := 195) (a0 := 0) (As := [.inl 10]) (st := []) C hsz (c_X6_count hX ok) vX6_count lL_98 rfl (rfl : bg_kd 0 = some (6, 9)) (by decide) dL_law_195 ⟨(by decide : R32 10), trivial⟩ (Nat.le_of_ble_eq_true rfl) rfl h1 h2 ?_
  rintro _ g1 ⟨rfl, x1, f1⟩
  rw [q1]
  intro H locs hD hS
  refine lv_ldc hx hb hown (hts _ kL_56) dL_law_198 ?_
  refine lv_icmp_ne (tgt := 228) hx hb dL_law_200 (by decide) (fun h => absurd rfl h) (fun _ => ?_)
  refine lv_aload_n hx hb dL_law_203 rfl (lv_at hl 1 rfl) ?_
  refine lv_iconst (v := Int32.ofInt 5) hx hb dL_law_204 rfl ?_
  revert H locs
  refine bl_call (pc := 205) (a0 := 0) (As := [.inl 5]) (st := []) C hsz (c_X6_account x1 ok) vX6_account lL_105 rfl (rfl : bg_kd 0 = some (6, 9)) (by decide) dL_law_205 ⟨(by decide : R32 5), trivial⟩ (Nat.le_of_ble_eq_true rfl) rfl h1 h2 ?_
  rintro _ g2 ⟨rfl, x2, f2⟩
  rw [q2]
  intro H locs hD hS
  refine lv_ldc hx hb hown (hts _ kL_56) dL_law_208 ?_
  refine lv_icmp_ne (tgt := 228) hx hb dL_law_210 (by decide) (fun h => absurd rfl h) (fun _ => ?_)
  refine lv_aload_n hx hb dL_law_213 rfl (lv_at hl 1 rfl) ?_
  refine lv_iconst (v := Int32.ofInt 4) hx hb dL_law_214 rfl ?_
  refine lv_iconst (v := Int32.ofInt 0) hx hb dL_law_215 rfl ?_
  revert H locs
  refine bl_call (pc := 216) (a0 := 0) (As := [.inl 4, .inl 0]) (st := []) C hsz (c_X6_hole x2 ok) vX6_hole lL_102 rfl (rfl : bg_kd 0 = some (6, 9)) (by decide) dL_law_216 ⟨(by decide : R32 4), (by decide : R32 0), trivial⟩ (Nat.le_of_ble_eq_true rfl) rfl h1 h2 ?_
  rintro _ g3 ⟨rfl, x3, f3⟩
  rw [q3]
  intro H locs hD hS
  refine lv_ldc hx hb hown (hts _ kL_56) dL_law_219 ?_
  refine lv_icmp_ne (tgt := 228) hx hb dL_law_221 (by decide) (fun h => absurd rfl h) (fun _ => ?_)
  refine lv_iconst (v := 1) hx hb dL_law_224 rfl ?_
  refine lv_goto (tgt := 229) hx hb dL_law_225 (by decide) ?_
  exact hend a g3 H locs hD hS
theorem bl_loop2 {κ : bg_K} {y : bg_Y} {b L : Nat} {xs : Nat → Int32} (C : bl_C κ y b L xs) (hend : ∀ (c1 c2 : Nat) (a : Array Slot) (g : bg_E), c1 ≤ 1000 → c2 ≤ 100000 → bl_H κ y (c1, c2) 229 a [.int 1] (bg_O g)) : ∀ (r k n c1 c2 : Nat) (t : Int) (a : Array Slot) (g : bg_E) (Z : bm_X), (k : Int) + r = t → t ≤ 100 → n + r ≤ 100 → c1 ≤ 300 + 2 * n → c2 ≤ 6000 + 70 * n → lI g Z n → lv_has a 10 [(8, .int (Int32.ofInt (k : Int))), (7, .int (Int32.ofInt t)), (6, .int (Int32.ofInt 1)), (5, .ref (y.1 + 201)), (4, .ref (y.1 + 200)), (3, .ref (y.1 + 199)), (2, .ref (y.1 + 198)), (1, .ref (y.1 + 0)), (0, .ref b)] → bl_H κ y (c1, c2) 116 a [] (bg_O g) := by
  intro r
  induction r with
  | zero =>
    intro k n c1 c2 t a g Z hk hk2 hn h1 h2 hI hl
    obtain ⟨hx, hb, hown, hts, hK, hbs, hlk, r1, r2, r3, r4⟩ := id C.1
    have hk : t = (k : Int) := by omega
    subst hk
    intro H locs hD hS
    refine lv_iload hx hb dL_law_116 (lv_at hl 0 rfl) ?_
    refine lv_iload hx hb dL_law_118 (lv_at hl 1 rfl) ?_
    refine lv_icmp_ge (tgt := 187) hx hb dL_law_120 (by decide) (fun _ => ?_) (fun h => absurd (Int32.le_refl _) h)
    exact bl_end C hI.1.1 hI.1.2.1 (lv_sub hl [2, 7] rfl) (by omega) (by omega) (fun a g => hend c1 c2 a g (by omega) (by omega)) H locs hD hS
  | succ r ih =>
    intro k n c1 c2 t a g Z hk hk2 hn h1 h2 hI hl
    obtain ⟨hx, hb, hown, hts, hK, hbs, hlk, r1, r2, r3, r4⟩ := id C.1
    have hsz : a.size = 10 := hl.1
    have Rk : R32 (k : Int) := ⟨by omega, by omega⟩
    have Rt : R32 t := ⟨by omega, by omega⟩
    have hkt : ¬ Int32.ofInt t ≤ Int32.ofInt (k : Int) := fun h => by have := (bg_le Rt Rk).mp h; omega
    have turn : ∀ w : Int32, bl_H κ y (c1, c2) 144 a [.int w] (bg_O g) := by
      intro w H locs hD hS
      refine lv_istore (lv' := (9, .int w) :: [(8, .int (Int32.ofInt (k : Int))), (7, .int (Int32.ofInt t)), (6, .int (Int32.ofInt 1)), (5, .ref (y.1 + 201)), (4, .ref (y.1 + 200)), (3, .ref (y.1 + 199)), (2, .ref (y.1 + 198)), (1, .ref (y.1 + 0)), (0, .ref b)]) hx hb dL_law_144 hl (by decide) rfl (fun a1 hl => ?_)
      have hsz : a1.size = 10 := hl.1
      refine lv_aload_n hx hb dL_law_146 rfl (lv_at hl 8 rfl) ?_
      refine lv_aload_n hx hb dL_law_147 rfl (lv_at hl 7 rfl) ?_
      refine lv_aload_n hx hb dL_law_148 rfl (lv_at hl 6 rfl) ?_
      refine lv_iload hx hb dL_law_149 (lv_at hl 0 rfl) ?_
      revert H locs
      refine bl_callS (pc := 151) (st := []) C hsz (c_L_acts (z := w.toInt) hI.1 ⟨by omega, by omega⟩ ⟨hI.2.1, by have := hI.2.2; omega⟩) sL_acts lL_130 rfl (by decide) dL_law_151 ⟨trivial, trivial, trivial, bg_R_toInt _, trivial⟩ (Nat.le_of_ble_eq_true rfl) (hstk4 w) (by omega) (by omega) ?_
      rintro _ _ ⟨_, g1, rfl, rfl, rfl, ⟨Z1, hI1⟩, p1, p2⟩
      intro H locs hD hS
      refine lv_if_eq (x := Int32.ofInt 1) (tgt := 178) hx hb dL_law_154 (by decide) (fun h => absurd h (by decide)) (fun _ => ?_)
      refine lv_aload_n hx hb dL_law_157 rfl (lv_at hl 8 rfl) ?_
      refine lv_aload_n hx hb dL_law_158 rfl (lv_at hl 7 rfl) ?_
      refine lv_aload_n hx hb dL_law_159 rfl (lv_at hl 6 rfl) ?_
      refine lv_aload hx hb dL_law_160 (lv_at hl 5 rfl) ?_
      refine lv_aload hx hb dL_law_162 (lv_at hl 4 rfl) ?_
      refine lv_iload hx hb dL_law_164 (lv_at hl 0 rfl) ?_
      refine lv_iconst (v := 4) hx hb dL_law_166 rfl ?_
      refine lv_ishr hx hb dL_law_167 ?_
      have hB1 : accB Z1.1 1000000 := fun q q1 q2 => by have := hI1.2.2.2.2.1 q q1 q2; omega
      have hP2 := hI.2.2
      revert H locs
      refine bl_callS (pc := 168) (st := []) C hsz (c_L_isSo (z := (w >>> ((4 : Int32) &&& 31)).toInt) hI1.1 hI1.2.1 hI1.2.2.1 hI1.2.2.2.1 hB1 hI1.2.2.2.2.2 ⟨p1, by omega⟩) sL_isSo lL_123 rfl (by decide) dL_law_168 ⟨trivial, trivial, trivial, trivial, trivial, bg_R_toInt _, trivial⟩ (Nat.le_of_ble_eq_true rfl) (hstk6 _) (by omega) (by omega) ?_
      rintro _ _ ⟨_, g2, rfl, rfl, rfl, x2, w2, p3⟩
      intro H locs hD hS
      refine lv_if_eq (x := Int32.ofInt 1) (tgt := 178) hx hb dL_law_171 (by decide) (fun h => absurd h (by decide)) (fun _ => ?_)
      refine lv_iconst (v := Int32.ofInt 1) hx hb dL_law_174 rfl ?_
      refine lv_goto (tgt := 179) hx hb dL_law_175 (by decide) ?_
      refine lv_istore (lv' := [(6, .int (Int32.ofInt 1)), (9, .int w), (8, .int (Int32.ofInt (k : Int))), (7, .int (Int32.ofInt t)), (5, .ref (y.1 + 201)), (4, .ref (y.1 + 200)), (3, .ref (y.1 + 199)), (2, .ref (y.1 + 198)), (1, .ref (y.1 + 0)), (0, .ref b)]) hx hb dL_law_179 hl (by decide) rfl (fun a2 hl => ?_)
      have e8 : Int32.ofInt (k : Int) + Int32.ofInt 1 = Int32.ofInt ((k + 1 : Nat) : Int) := by rw [← Int32.ofInt_add]; rfl
      refine lv_iinc (k := 2) (lv' := [(8, .int (Int32.ofInt ((k + 1 : Nat) : Int))), (6, .int (Int32.ofInt 1)), (9, .int w), (7, .int (Int32.ofInt t)), (5, .ref (y.1 + 201)), (4, .ref (y.1 + 200)), (3, .ref (y.1 + 199)), (2, .ref (y.1 + 198)), (1, .ref (y.1 + 0)), (0, .ref b)]) hx hb dL_law_181 hl rfl e8 (by decide) rfl (fun a3 hl => ?_)
      refine lv_goto (tgt := 116) hx hb dL_law_184 (by decide) ?_
      exact ih (k + 1) (n + 1) (c1 + 1 + 1) (c2 + 64 + 6) t a3 g2 Z1 (by omega) (by omega) (by omega) (by omega) (by omega) ⟨⟨x2, hI1.2.1, w2, hI1.2.2.2.1, (fun q q1 q2 => by have := hI1.2.2.2.2.1 q q1 q2; omega), hI1.2.2.2.2.2⟩, by omega, by omega⟩ (lv_sub hl [0, 3, 1, 4, 5, 6, 7, 8, 9] rfl) H locs hD hS
    intro H locs hD hS
    refine lv_iload hx hb dL_law_116 (lv_at hl 0 rfl) ?_
    refine lv_iload hx hb dL_law_118 (lv_at hl 1 rfl) ?_
    refine lv_icmp_ge (tgt := 187) hx hb dL_law_120 (by decide) (fun h => absurd h hkt) (fun _ => ?_)
    refine lv_iload hx hb dL_law_123 (lv_at hl 2 rfl) ?_
    refine lv_if_eq (tgt := 187) hx hb dL_law_125 (by decide) (fun h => absurd h (by decide)) (fun _ => ?_)
    refine lv_aload_n hx hb dL_law_128 rfl (lv_at hl 8 rfl) ?_
    refine lv_bipush (v := Int32.ofInt 13) hx hb dL_law_129 rfl ?_
    refine lv_iload hx hb dL_law_131 (lv_at hl 0 rfl) ?_
    refine lv_iadd hx hb dL_law_133 ?_
    rw [← Int32.ofInt_add]
    revert H locs
    refine bl_cell (pc := 134) (st := []) C hsz ⟨by omega, by omega⟩ dL_law_134 (Nat.le_of_ble_eq_true rfl) (by omega) (by omega) (fun v => ?_)
    intro H locs hD hS
    refine lv_sipush (v := Int32.ofInt 7919) hx hb dL_law_137 rfl ?_
    refine lv_iload hx hb dL_law_140 (lv_at hl 0 rfl) ?_
    refine lv_imul hx hb dL_law_142 ?_
    refine lv_ixor hx hb dL_law_143 ?_
    exact turn _ H locs hD hS
theorem bl_mid {κ : bg_K} {y : bg_Y} {b L : Nat} {xs : Nat → Int32} (C : bl_C κ y b L xs) (hend : ∀ (c1 c2 : Nat) (a : Array Slot) (g : bg_E), c1 ≤ 1000 → c2 ≤ 100000 → bl_H κ y (c1, c2) 229 a [.int 1] (bg_O g)) {n c1 c2 : Nat} {a : Array Slot} {g : bg_E} {Z : bm_X} {k : Int} (hn : n ≤ 12) (h1 : c1 ≤ 300 + 2 * n) (h2 : c2 ≤ 6000 + 70 * n) (hI : lI g Z n) (hl : lv_has a 10 [(7, .int (Int32.ofInt k)), (6, .int (Int32.ofInt 1)), (5, .ref (y.1 + 201)), (4, .ref (y.1 + 200)), (3, .ref (y.1 + 199)), (2, .ref (y.1 + 198)), (1, .ref (y.1 + 0)), (0, .ref b)]) : bl_H κ y (c1, c2) 98 a [] (bg_O g) := by
  obtain ⟨hx, hb, hown, hts, hK, hbs, hlk, r1, r2, r3, r4⟩ := id C.1
  have hsz : a.size = 10 := hl.1
  have aft : ∀ t : Int, 8 ≤ t ∧ t ≤ 57 → bl_H κ y (c1, c2) 111 a [.int (Int32.ofInt t)] (bg_O g) := by
    intro t ht H locs hD hS
    refine lv_istore (lv' := [(7, .int (Int32.ofInt t)), (6, .int (Int32.ofInt 1)), (5, .ref (y.1 + 201)), (4, .ref (y.1 + 200)), (3, .ref (y.1 + 199)), (2, .ref (y.1 + 198)), (1, .ref (y.1 + 0)), (0, .ref b)]) hx hb dL_law_111 hl (by decide) rfl (fun a1 hl => ?_)
    refine lv_iconst (v := Int32.ofInt 0) hx hb dL_law_113 rfl ?_
    refine lv_istore (lv' := [(8, .int (Int32.ofInt 0)), (7, .int (Int32.ofInt t)), (6, .int (Int32.ofInt 1)), (5, .ref (y.1 + 201)), (4, .ref (y.1 + 200)), (3, .ref (y.1 + 199)), (2, .ref (y.1 + 198)), (1, .ref (y.1 + 0)), (0, .ref b)]) hx hb dL_law_114 hl (by decide) rfl (fun a2 hl => ?_)
    exact bl_loop2 C hend t.toNat 0 n c1 c2 t a2 g Z (by omega) (by omega) (by omega) h1 h2 hI hl H locs hD hS
  intro H locs hD hS
  refine lv_bipush (v := Int32.ofInt 8) hx hb dL_law_98 rfl ?_
  refine lv_aload_n hx hb dL_law_100 rfl (lv_at hl 7 rfl) ?_
  refine lv_iconst (v := Int32.ofInt 0) hx hb dL_law_101 rfl ?_
  revert H locs
  refine bl_cell (pc := 102) (st := [.int (Int32.ofInt 8)]) C hsz ⟨by omega, by omega⟩ dL_law_102 (Nat.le_of_ble_eq_true rfl) (by omega) (by omega) (fun v => ?_)
  intro H locs hD hS
  refine lv_bipush (v := Int32.ofInt 50) hx hb dL_law_105 rfl ?_
  revert H locs
  refine bl_callS (pc := 107) (st := [.int (Int32.ofInt 8)]) C hsz (c_L_low (v := v.toInt) (n := 50) (by decide)) sL_low lL_39 rfl (by decide) dL_law_107 ⟨bg_R_toInt _, (by decide : R32 50), trivial⟩ (Nat.le_of_ble_eq_true rfl) (hstk2 v _) (by omega) (by omega) ?_
  rintro _ _ ⟨_, g1, rfl, rfl, rfl, rfl⟩
  have hlo := lo_R (v := v.toInt) (n := 50) (by decide)
  intro H locs hD hS
  refine lv_iadd (x := Int32.ofInt 8) (y := Int32.ofInt (lo v.toInt 50)) hx hb dL_law_110 ?_
  rw [← Int32.ofInt_add]
  exact aft _ ⟨by omega, by omega⟩ H locs hD hS
theorem bl_loop1 {κ : bg_K} {y : bg_Y} {b L : Nat} {xs : Nat → Int32} (C : bl_C κ y b L xs) (hend : ∀ (c1 c2 : Nat) (a : Array Slot) (g : bg_E), c1 ≤ 1000 → c2 ≤ 100000 → bl_H κ y (c1, c2) 229 a [.int 1] (bg_O g)) : ∀ (r k c1 c2 : Nat) (a : Array Slot) (g : bg_E) (Z : bm_X), k + r = 12 → c1 ≤ 300 + 2 * k → c2 ≤ 6000 + 70 * k → lI g Z k → lv_has a 10 [(7, .int (Int32.ofInt (k : Int))), (6, .int (Int32.ofInt 1)), (5, .ref (y.1 + 201)), (4, .ref (y.1 + 200)), (3, .ref (y.1 + 199)), (2, .ref (y.1 + 198)), (1, .ref (y.1 + 0)), (0, .ref b)] → bl_H κ y (c1, c2) 50 a [] (bg_O g) := by
  intro r
  induction r with
  | zero =>
    intro k c1 c2 a g Z hk h1 h2 hI hl
    obtain ⟨hx, hb, hown, hts, hK, hbs, hlk, r1, r2, r3, r4⟩ := id C.1
    obtain rfl : k = 12 := by omega
    intro H locs hD hS
    refine lv_iload hx hb dL_law_50 (lv_at hl 0 rfl) ?_
    refine lv_bipush (v := Int32.ofInt 12) hx hb dL_law_52 rfl ?_
    refine lv_icmp_ge (tgt := 98) hx hb dL_law_54 (by decide) (fun _ => ?_) (fun h => absurd (Int32.le_refl _) h)
    exact bl_mid C hend (by omega) h1 h2 hI hl H locs hD hS
  | succ r ih =>
    intro k c1 c2 a g Z hk h1 h2 hI hl
    obtain ⟨hx, hb, hown, hts, hK, hbs, hlk, r1, r2, r3, r4⟩ := id C.1
    have hsz : a.size = 10 := hl.1
    have Rk : R32 (k : Int) := ⟨by omega, by omega⟩
    have hkt : ¬ Int32.ofInt 12 ≤ Int32.ofInt (k : Int) := fun h => by have := (bg_le (a := 12) (by decide) Rk).mp h; omega
    have act : ∀ w : Int32, bl_H κ y (c1, c2) 87 a [.int w, .ref (y.1 + 199), .ref (y.1 + 198), .ref (y.1 + 0)] (bg_O g) := by
      intro w
      refine bl_callS (pc := 87) (st := []) C hsz (c_L_acts (z := w.toInt) hI.1 ⟨by omega, by omega⟩ ⟨hI.2.1, by have := hI.2.2; omega⟩) sL_acts lL_130 rfl (by decide) dL_law_87 ⟨trivial, trivial, trivial, bg_R_toInt _, trivial⟩ (Nat.le_of_ble_eq_true rfl) (hstk4 w) (by omega) (by omega) ?_
      rintro _ _ ⟨_, g1, rfl, rfl, rfl, ⟨Z1, hI1⟩, p1, p2⟩
      have hP2 := hI.2.2
      intro H locs hD hS
      refine lv_istore (x := Int32.ofInt 1) (lv' := [(6, .int (Int32.ofInt 1)), (7, .int (Int32.ofInt (k : Int))), (5, .ref (y.1 + 201)), (4, .ref (y.1 + 200)), (3, .ref (y.1 + 199)), (2, .ref (y.1 + 198)), (1, .ref (y.1 + 0)), (0, .ref b)]) hx hb dL_law_90 hl (by decide) rfl (fun a2 hl => ?_)
      have e8 : Int32.ofInt (k : Int) + Int32.ofInt 1 = Int32.ofInt ((k + 1 : Nat) : Int) := by rw [← Int32.ofInt_add]; rfl
      refine lv_iinc (k := 1) (lv' := [(7, .int (Int32.ofInt ((k + 1 : Nat) : Int))), (6, .int (Int32.ofInt 1)), (5, .ref (y.1 + 201)), (4, .ref (y.1 + 200)), (3, .ref (y.1 + 199)), (2, .ref (y.1 + 198)), (1, .ref (y.1 + 0)), (0, .ref b)]) hx hb dL_law_92 hl rfl e8 (by decide) rfl (fun a3 hl => ?_)
      refine lv_goto (tgt := 50) hx hb dL_law_95 (by decide) ?_
      exact ih (k + 1) (c1 + 1) (c2 + 64) a3 g1 Z1 (by omega) (by omega) (by omega) ⟨⟨hI1.1, hI1.2.1, hI1.2.2.1, hI1.2.2.2.1, (fun q q1 q2 => by have := hI1.2.2.2.2.1 q q1 q2; omega), hI1.2.2.2.2.2⟩, p1, by omega⟩ hl H locs hD hS
    intro H locs hD hS
    refine lv_iload hx hb dL_law_50 (lv_at hl 0 rfl) ?_
    refine lv_bipush (v := Int32.ofInt 12) hx hb dL_law_52 rfl ?_
    refine lv_icmp_ge (tgt := 98) hx hb dL_law_54 (by decide) (fun h => absurd h hkt) (fun _ => ?_)
    refine lv_iload hx hb dL_law_57 (lv_at hl 1 rfl) ?_
    refine lv_if_eq (tgt := 98) hx hb dL_law_59 (by decide) (fun h => absurd h (by decide)) (fun _ => ?_)
    refine lv_aload_n hx hb dL_law_62 rfl (lv_at hl 6 rfl) ?_
    refine lv_aload_n hx hb dL_law_63 rfl (lv_at hl 5 rfl) ?_
    refine lv_aload_n hx hb dL_law_64 rfl (lv_at hl 4 rfl) ?_
    refine lv_aload_n hx hb dL_law_65 rfl (lv_at hl 7 rfl) ?_
    refine lv_iconst (v := Int32.ofInt 1) hx hb dL_law_66 rfl ?_
    refine lv_iload hx hb dL_law_67 (lv_at hl 0 rfl) ?_
    refine lv_iadd hx hb dL_law_69 ?_
    rw [← Int32.ofInt_add]
    revert H locs
    refine bl_cell (pc := 70) (st := [.ref (y.1 + 199), .ref (y.1 + 198), .ref (y.1 + 0)]) C hsz ⟨by omega, by omega⟩ dL_law_70 (Nat.le_of_ble_eq_true rfl) (by omega) (by omega) (fun v => ?_)
    intro H locs hD hS
    refine lv_ldc hx hb hown (hts _ kL_8) dL_law_73 ?_
    refine lv_iand hx hb dL_law_75 ?_
    refine lv_sipush (v := 640) hx hb dL_law_76 rfl ?_
    refine lv_idiv hx hb dL_law_79 (by decide) ?_
    refine lv_sipush (v := 640) hx hb dL_law_80 rfl ?_
    refine lv_imul hx hb dL_law_83 ?_
    refine lv_bipush (v := 12) hx hb dL_law_84 rfl ?_
    refine lv_iadd hx hb dL_law_86 ?_
    exact act _ H locs hD hS
theorem bl_go {κ : bg_K} {y : bg_Y} {b L : Nat} {xs : Nat → Int32} (C : bl_C κ y b L xs) (hend : ∀ (c1 c2 : Nat) (a : Array Slot) (g : bg_E), c1 ≤ 1000 → c2 ≤ 100000 → bl_H κ y (c1, c2) 229 a [.int 1] (bg_O g)) {a : Array Slot} {g : bg_E} (hX : clsR g bm_X0) (h198 : ∀ k, g 198 k = 0) (hZ : g bg_PZ 0 = 0) (hl : lv_has a 10 [(5, .ref (y.1 + 201)), (4, .ref (y.1 + 200)), (3, .ref (y.1 + 199)), (2, .ref (y.1 + 198)), (1, .ref (y.1 + 0)), (0, .ref b)]) : bl_H κ y (202, 5014) 30 a [] (bg_O g) := by
  obtain ⟨hx, hb, hown, hts, hK, hbs, hlk, r1, r2, r3, r4⟩ := id C.1
  have hsz : a.size = 10 := hl.1
  intro H locs hD hS
  refine lv_aload_n hx hb dL_law_30 rfl (lv_at hl 3 rfl) ?_
  revert H locs
  refine bl_callS (pc := 31) (st := []) (As := [.inr 198]) C hsz c_L_starts sL_starts lL_119 rfl (by decide) dL_law_31 ⟨trivial, trivial⟩ (Nat.le_of_ble_eq_true rfl) rfl (by decide) (by decide) ?_
  rintro _ _ ⟨g1, rfl, rfl, s1, s2, s3⟩
  have z1 : g1 bg_PZ 0 = 0 := by rw [s1 _ PZ8]; exact hZ
  have x1 : clsR g1 bm_X0 := hX.lo (fun x hx => s1 x (by omega))
  have w1 : rwR g1 bm_X0.1 := by
    refine ⟨s2, ?_, fun h hh => ⟨?_, ?_⟩, fun h k hh hk => absurd hk (Nat.not_lt_zero _), fun q q1 q2 => ?_⟩
    · rw [s3 5 (by omega), h198]; rfl
    · rw [s3 _ (by omega), h198]; rfl
    · rw [s3 _ (by omega), h198]; rfl
    · rw [s3 _ (by omega), h198]; rfl
  have l6 : len6 bm_X0.1 := fun h hh => Nat.zero_le _
  have B0 : ∀ n : Int, 0 ≤ n → accB bm_X0.1 n := fun n hn q q1 q2 => ⟨Int.le_refl 0, hn⟩
  have C0 : accC bm_X0.1 := rfl
  intro H locs hD hS
  refine lv_aload_n hx hb dL_law_34 rfl (lv_at hl 4 rfl) ?_
  refine lv_aload_n hx hb dL_law_35 rfl (lv_at hl 3 rfl) ?_
  refine lv_aload_n hx hb dL_law_36 rfl (lv_at hl 2 rfl) ?_
  refine lv_aload hx hb dL_law_37 (lv_at hl 1 rfl) ?_
  refine lv_aload hx hb dL_law_39 (lv_at hl 0 rfl) ?_
  refine lv_iconst (v := 0) hx hb dL_law_41 rfl ?_
  revert H locs
  refine bl_callS (pc := 42) (st := []) C hsz (c_L_isSo (z := (0 : Int32).toInt) x1 bm_X0_ok w1 l6 (B0 _ (by decide)) C0 ⟨by omega, by omega⟩) sL_isSo lL_123 rfl (by decide) dL_law_42 ⟨trivial, trivial, trivial, trivial, trivial, bg_R_toInt _, trivial⟩ (Nat.le_of_ble_eq_true rfl) (hstk6 0) (by decide) (by decide) ?_
  rintro _ _ ⟨_, g2, rfl, rfl, rfl, x2, w2, p2⟩
  intro H locs hD hS
  refine lv_istore (x := Int32.ofInt 1) (lv' := [(6, .int (Int32.ofInt 1)), (5, .ref (y.1 + 201)), (4, .ref (y.1 + 200)), (3, .ref (y.1 + 199)), (2, .ref (y.1 + 198)), (1, .ref (y.1 + 0)), (0, .ref b)]) hx hb dL_law_45 hl (by decide) rfl (fun a1 hl => ?_)
  refine lv_iconst (v := Int32.ofInt 0) hx hb dL_law_47 rfl ?_
  refine lv_istore (lv' := [(7, .int (Int32.ofInt 0)), (6, .int (Int32.ofInt 1)), (5, .ref (y.1 + 201)), (4, .ref (y.1 + 200)), (3, .ref (y.1 + 199)), (2, .ref (y.1 + 198)), (1, .ref (y.1 + 0)), (0, .ref b)]) hx hb dL_law_48 hl (by decide) rfl (fun a2 hl => ?_)
  exact bl_loop1 C hend 12 0 _ _ a2 g2 bm_X0 rfl (by decide) (by decide) ⟨⟨x2, bm_X0_ok, w2, l6, B0 _ (by decide), C0⟩, by omega, by omega⟩ hl H locs hD hS
