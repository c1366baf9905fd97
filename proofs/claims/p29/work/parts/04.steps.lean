section STEPS
variable {κ : bg_K} {y : bg_Y} {cs : Nat × Nat} {cc : ByteArray} {own : String} {dd mcc mss pc : Nat} {ls : List (Option bg_V)} {st : List bg_V} {M : bg_M}

theorem bg_iconst (X : bg_X κ y cc own dd mcc mss) {n : Int} (hd : decode cc pc = .ok (.iconst n, 1)) (hn : R32 n) (kk : bg_G κ y cs (pc + 1) ls (.inl n :: st) M) : bg_G κ y cs pc ls st M := by
  intro H locs a hD hS hL hR
  obtain ⟨hx, hb, hown, hts, hK, hbs, hlk, -⟩ := X
  exact lv_iconst hx hb hd rfl (kk H locs a hD hS hL ⟨hn, hR⟩)

theorem bg_bipush (X : bg_X κ y cc own dd mcc mss) {n : Int} (hd : decode cc pc = .ok (.bipush n, 2)) (hn : (Int8.ofInt n).toInt32 = Int32.ofInt n) (hr : R32 n) (kk : bg_G κ y cs (pc + 2) ls (.inl n :: st) M) : bg_G κ y cs pc ls st M := by
  intro H locs a hD hS hL hR
  obtain ⟨hx, hb, hown, hts, hK, hbs, hlk, -⟩ := X
  exact lv_bipush hx hb hd hn (kk H locs a hD hS hL ⟨hr, hR⟩)

theorem bg_sipush (X : bg_X κ y cc own dd mcc mss) {n : Int} (hd : decode cc pc = .ok (.sipush n, 3)) (hn : (Int16.ofInt n).toInt32 = Int32.ofInt n) (hr : R32 n) (kk : bg_G κ y cs (pc + 3) ls (.inl n :: st) M) : bg_G κ y cs pc ls st M := by
  intro H locs a hD hS hL hR
  obtain ⟨hx, hb, hown, hts, hK, hbs, hlk, -⟩ := X
  exact lv_sipush hx hb hd hn (kk H locs a hD hS hL ⟨hr, hR⟩)

theorem bg_ldc (X : bg_X κ y cc own dd mcc mss) {idx : Nat} {n : Int} (hd : decode cc pc = .ok (.ldc idx, 2)) (hw : Cond.constant own idx (Int32.ofInt n) ∈ bg_T) (hr : R32 n) (kk : bg_G κ y cs (pc + 2) ls (.inl n :: st) M) : bg_G κ y cs pc ls st M := by
  intro H locs a hD hS hL hR
  obtain ⟨hx, hb, hown, hts, hK, hbs, hlk, -⟩ := X
  exact lv_ldc hx hb hown (hts _ hw) hd (kk H locs a hD hS hL ⟨hr, hR⟩)

theorem bg_ldcw (X : bg_X κ y cc own dd mcc mss) {idx : Nat} {n : Int} (hd : decode cc pc = .ok (.ldc_w idx, 3)) (hw : Cond.constant own idx (Int32.ofInt n) ∈ bg_T) (hr : R32 n) (kk : bg_G κ y cs (pc + 3) ls (.inl n :: st) M) : bg_G κ y cs pc ls st M := by
  intro H locs a hD hS hL hR
  obtain ⟨hx, hb, hown, hts, hK, hbs, hlk, -⟩ := X
  exact lv_ldcw hx hb hown (hts _ hw) hd (kk H locs a hD hS hL ⟨hr, hR⟩)

theorem bg_iload_n (X : bg_X κ y cc own dd mcc mss) {k : Fin 4} {i : Nat} {x : Int} (hd : decode cc pc = .ok (.iload_n k, 1)) (hi : (k : Nat) = i) (hl : ls[i]? = some (some (.inl x))) (kk : bg_G κ y cs (pc + 1) ls (.inl x :: st) M) : bg_G κ y cs pc ls st M := by
  intro H locs a hD hS hL hR
  obtain ⟨hx, hb, hown, hts, hK, hbs, hlk, -⟩ := X
  obtain ⟨h1, h2⟩ := hL.2.2.2 i _ hl
  exact lv_iload_n hx hb hd hi h1 (kk H locs a hD hS hL ⟨h2, hR⟩)

theorem bg_iload (X : bg_X κ y cc own dd mcc mss) {i : Nat} {x : Int} (hd : decode cc pc = .ok (.iload i, 2)) (hl : ls[i]? = some (some (.inl x))) (kk : bg_G κ y cs (pc + 2) ls (.inl x :: st) M) : bg_G κ y cs pc ls st M := by
  intro H locs a hD hS hL hR
  obtain ⟨hx, hb, hown, hts, hK, hbs, hlk, -⟩ := X
  obtain ⟨h1, h2⟩ := hL.2.2.2 i _ hl
  exact lv_iload hx hb hd h1 (kk H locs a hD hS hL ⟨h2, hR⟩)

theorem bg_aload_n (X : bg_X κ y cc own dd mcc mss) {k : Fin 4} {i : Nat} {x : Nat} (hd : decode cc pc = .ok (.aload_n k, 1)) (hi : (k : Nat) = i) (hl : ls[i]? = some (some (.inr x))) (kk : bg_G κ y cs (pc + 1) ls (.inr x :: st) M) : bg_G κ y cs pc ls st M := by
  intro H locs a hD hS hL hR
  obtain ⟨hx, hb, hown, hts, hK, hbs, hlk, -⟩ := X
  obtain ⟨h1, h2⟩ := hL.2.2.2 i _ hl
  exact lv_aload_n hx hb hd hi h1 (kk H locs a hD hS hL ⟨h2, hR⟩)

theorem bg_aload (X : bg_X κ y cc own dd mcc mss) {i : Nat} {x : Nat} (hd : decode cc pc = .ok (.aload i, 2)) (hl : ls[i]? = some (some (.inr x))) (kk : bg_G κ y cs (pc + 2) ls (.inr x :: st) M) : bg_G κ y cs pc ls st M := by
  intro H locs a hD hS hL hR
  obtain ⟨hx, hb, hown, hts, hK, hbs, hlk, -⟩ := X
  obtain ⟨h1, h2⟩ := hL.2.2.2 i _ hl
  exact lv_aload hx hb hd h1 (kk H locs a hD hS hL ⟨h2, hR⟩)

theorem bg_istore_n (X : bg_X κ y cc own dd mcc mss) {k : Fin 4} {i : Nat} {x : Int} (hd : decode cc pc = .ok (.istore_n k, 1)) (hi : (k : Nat) = i) (hl : i < ls.length) (kk : bg_G κ y cs (pc + 1) (ls.set i (some (.inl x))) st M) : bg_G κ y cs pc ls (.inl x :: st) M := by
  intro H locs a hD hS hL hR
  obtain ⟨hx, hb, hown, hts, hK, hbs, hlk, -⟩ := X
  exact lv_istore_n hx hb hd hi hL.has hl rfl (fun a' ha' => kk H locs a' hD hS (hL.set (v := .inl x) hl hR.1 ha') hR.2)

theorem bg_istore (X : bg_X κ y cc own dd mcc mss) {i : Nat} {x : Int} (hd : decode cc pc = .ok (.istore i, 2)) (hl : i < ls.length) (kk : bg_G κ y cs (pc + 2) (ls.set i (some (.inl x))) st M) : bg_G κ y cs pc ls (.inl x :: st) M := by
  intro H locs a hD hS hL hR
  obtain ⟨hx, hb, hown, hts, hK, hbs, hlk, -⟩ := X
  exact lv_istore hx hb hd hL.has hl rfl (fun a' ha' => kk H locs a' hD hS (hL.set (v := .inl x) hl hR.1 ha') hR.2)

theorem bg_astore_n (X : bg_X κ y cc own dd mcc mss) {k : Fin 4} {i : Nat} {x : Nat} (hd : decode cc pc = .ok (.astore_n k, 1)) (hi : (k : Nat) = i) (hl : i < ls.length) (kk : bg_G κ y cs (pc + 1) (ls.set i (some (.inr x))) st M) : bg_G κ y cs pc ls (.inr x :: st) M := by
  intro H locs a hD hS hL hR
  obtain ⟨hx, hb, hown, hts, hK, hbs, hlk, -⟩ := X
  exact lv_astore_n hx hb hd hi hL.has hl rfl (fun a' ha' => kk H locs a' hD hS (hL.set (v := .inr x) hl hR.1 ha') hR.2)

theorem bg_astore (X : bg_X κ y cc own dd mcc mss) {i : Nat} {x : Nat} (hd : decode cc pc = .ok (.astore i, 2)) (hl : i < ls.length) (kk : bg_G κ y cs (pc + 2) (ls.set i (some (.inr x))) st M) : bg_G κ y cs pc ls (.inr x :: st) M := by
  intro H locs a hD hS hL hR
  obtain ⟨hx, hb, hown, hts, hK, hbs, hlk, -⟩ := X
  exact lv_astore hx hb hd hL.has hl rfl (fun a' ha' => kk H locs a' hD hS (hL.set (v := .inr x) hl hR.1 ha') hR.2)

theorem bg_iinc (X : bg_X κ y cc own dd mcc mss) {i : Nat} {n x : Int} (hd : decode cc pc = .ok (.iinc i n, 3)) (hl : ls[i]? = some (some (.inl x))) (hr : R32 (x + n)) (kk : bg_G κ y cs (pc + 3) (ls.set i (some (.inl (x + n)))) st M) : bg_G κ y cs pc ls st M := by
  intro H locs a hD hS hL hR
  obtain ⟨hx, hb, hown, hts, hK, hbs, hlk, -⟩ := X
  have hi : i < ls.length := (List.getElem?_eq_some_iff.mp hl).1
  obtain ⟨k, hk⟩ := List.getElem?_of_mem ((bg_al_mem y ls 0 (i, bg_v y (.inl x))).mpr ⟨i, _, by simp, hl⟩)
  exact lv_iinc hx hb hd hL.has hk (by rw [← Int32.ofInt_add]) hi rfl (fun a' ha' => kk H locs a' hD hS (hL.set (v := .inl (x + n)) hi hr ha') hR)

theorem bg_iadd (X : bg_X κ y cc own dd mcc mss) {p q : Int} (hd : decode cc pc = .ok (.iadd, 1)) (hr : R32 (p + q)) (kk : bg_G κ y cs (pc + 1) ls (.inl (p + q) :: st) M) : bg_G κ y cs pc ls (.inl q :: .inl p :: st) M := by
  intro H locs a hD hS hL hR
  obtain ⟨hx, hb, hown, hts, hK, hbs, hlk, -⟩ := X
  refine lv_iadd hx hb hd ?_
  rw [← Int32.ofInt_add]
  exact kk H locs a hD hS hL ⟨hr, hR.2.2⟩

theorem bg_iaddW (X : bg_X κ y cc own dd mcc mss) {p q : Int} (hd : decode cc pc = .ok (.iadd, 1)) (kk : bg_G κ y cs (pc + 1) ls (.inl (bg_wr (p + q)) :: st) M) : bg_G κ y cs pc ls (.inl q :: .inl p :: st) M := by
  intro H locs a hD hS hL hR
  obtain ⟨hx, hb, hown, hts, hK, hbs, hlk, -⟩ := X
  refine lv_iadd hx hb hd ?_
  rw [← Int32.ofInt_add, ← bg_wr_of]
  exact kk H locs a hD hS hL ⟨bg_wr_R _, hR.2.2⟩

theorem bg_isub (X : bg_X κ y cc own dd mcc mss) {p q : Int} (hd : decode cc pc = .ok (.isub, 1)) (hr : R32 (p - q)) (kk : bg_G κ y cs (pc + 1) ls (.inl (p - q) :: st) M) : bg_G κ y cs pc ls (.inl q :: .inl p :: st) M := by
  intro H locs a hD hS hL hR
  obtain ⟨hx, hb, hown, hts, hK, hbs, hlk, -⟩ := X
  refine lv_isub hx hb hd ?_
  rw [← Int32.ofInt_sub]
  exact kk H locs a hD hS hL ⟨hr, hR.2.2⟩

theorem bg_isubW (X : bg_X κ y cc own dd mcc mss) {p q : Int} (hd : decode cc pc = .ok (.isub, 1)) (kk : bg_G κ y cs (pc + 1) ls (.inl (bg_wr (p - q)) :: st) M) : bg_G κ y cs pc ls (.inl q :: .inl p :: st) M := by
  intro H locs a hD hS hL hR
  obtain ⟨hx, hb, hown, hts, hK, hbs, hlk, -⟩ := X
  refine lv_isub hx hb hd ?_
  rw [← Int32.ofInt_sub, ← bg_wr_of]
  exact kk H locs a hD hS hL ⟨bg_wr_R _, hR.2.2⟩

theorem bg_imul (X : bg_X κ y cc own dd mcc mss) {p q : Int} (hd : decode cc pc = .ok (.imul, 1)) (hr : R32 (p * q)) (kk : bg_G κ y cs (pc + 1) ls (.inl (p * q) :: st) M) : bg_G κ y cs pc ls (.inl q :: .inl p :: st) M := by
  intro H locs a hD hS hL hR
  obtain ⟨hx, hb, hown, hts, hK, hbs, hlk, -⟩ := X
  refine lv_imul hx hb hd ?_
  rw [← Int32.ofInt_mul]
  exact kk H locs a hD hS hL ⟨hr, hR.2.2⟩

theorem bg_imulW (X : bg_X κ y cc own dd mcc mss) {p q : Int} (hd : decode cc pc = .ok (.imul, 1)) (kk : bg_G κ y cs (pc + 1) ls (.inl (bg_wr (p * q)) :: st) M) : bg_G κ y cs pc ls (.inl q :: .inl p :: st) M := by
  intro H locs a hD hS hL hR
  obtain ⟨hx, hb, hown, hts, hK, hbs, hlk, -⟩ := X
  refine lv_imul hx hb hd ?_
  rw [← Int32.ofInt_mul, ← bg_wr_of]
  exact kk H locs a hD hS hL ⟨bg_wr_R _, hR.2.2⟩

theorem bg_ineg (X : bg_X κ y cc own dd mcc mss) {p : Int} (hd : decode cc pc = .ok (.ineg, 1)) (hr : R32 (-p)) (kk : bg_G κ y cs (pc + 1) ls (.inl (-p) :: st) M) : bg_G κ y cs pc ls (.inl p :: st) M := by
  intro H locs a hD hS hL hR
  obtain ⟨hx, hb, hown, hts, hK, hbs, hlk, -⟩ := X
  refine lv_ineg hx hb hd ?_
  rw [← Int32.ofInt_neg]
  exact kk H locs a hD hS hL ⟨hr, hR.2⟩

theorem bg_iand (X : bg_X κ y cc own dd mcc mss) {p q : Int} (hd : decode cc pc = .ok (.iand, 1)) (kk : bg_G κ y cs (pc + 1) ls (.inl (bg_band p q) :: st) M) : bg_G κ y cs pc ls (.inl q :: .inl p :: st) M := by
  intro H locs a hD hS hL hR
  obtain ⟨hx, hb, hown, hts, hK, hbs, hlk, -⟩ := X
  refine lv_iand hx hb hd ?_
  have h1 := kk H locs a hD hS hL ⟨bg_R_toInt _, hR.2.2⟩
  simp only [List.map_cons, bg_v, bg_band, Int32.ofInt_toInt] at h1
  exact h1

theorem bg_ior (X : bg_X κ y cc own dd mcc mss) {p q : Int} (hd : decode cc pc = .ok (.ior, 1)) (kk : bg_G κ y cs (pc + 1) ls (.inl (bg_bor p q) :: st) M) : bg_G κ y cs pc ls (.inl q :: .inl p :: st) M := by
  intro H locs a hD hS hL hR
  obtain ⟨hx, hb, hown, hts, hK, hbs, hlk, -⟩ := X
  refine lv_ior hx hb hd ?_
  have h1 := kk H locs a hD hS hL ⟨bg_R_toInt _, hR.2.2⟩
  simp only [List.map_cons, bg_v, bg_bor, Int32.ofInt_toInt] at h1
  exact h1

theorem bg_ixor (X : bg_X κ y cc own dd mcc mss) {p q : Int} (hd : decode cc pc = .ok (.ixor, 1)) (kk : bg_G κ y cs (pc + 1) ls (.inl (bg_bxor p q) :: st) M) : bg_G κ y cs pc ls (.inl q :: .inl p :: st) M := by
  intro H locs a hD hS hL hR
  obtain ⟨hx, hb, hown, hts, hK, hbs, hlk, -⟩ := X
  refine lv_ixor hx hb hd ?_
  have h1 := kk H locs a hD hS hL ⟨bg_R_toInt _, hR.2.2⟩
  simp only [List.map_cons, bg_v, bg_bxor, Int32.ofInt_toInt] at h1
  exact h1

theorem bg_ishl (X : bg_X κ y cc own dd mcc mss) {p q : Int} (hd : decode cc pc = .ok (.ishl, 1)) (kk : bg_G κ y cs (pc + 1) ls (.inl (bg_shl p q) :: st) M) : bg_G κ y cs pc ls (.inl q :: .inl p :: st) M := by
  intro H locs a hD hS hL hR
  obtain ⟨hx, hb, hown, hts, hK, hbs, hlk, -⟩ := X
  refine lv_ishl hx hb hd ?_
  have h1 := kk H locs a hD hS hL ⟨bg_R_toInt _, hR.2.2⟩
  simp only [List.map_cons, bg_v, bg_shl, Int32.ofInt_toInt] at h1
  exact h1

theorem bg_ishr (X : bg_X κ y cc own dd mcc mss) {p q : Int} (hd : decode cc pc = .ok (.ishr, 1)) (kk : bg_G κ y cs (pc + 1) ls (.inl (bg_shr p q) :: st) M) : bg_G κ y cs pc ls (.inl q :: .inl p :: st) M := by
  intro H locs a hD hS hL hR
  obtain ⟨hx, hb, hown, hts, hK, hbs, hlk, -⟩ := X
  refine lv_ishr hx hb hd ?_
  have h1 := kk H locs a hD hS hL ⟨bg_R_toInt _, hR.2.2⟩
  simp only [List.map_cons, bg_v, bg_shr, Int32.ofInt_toInt] at h1
  exact h1

theorem bg_iushr (X : bg_X κ y cc own dd mcc mss) {p q : Int} (hd : decode cc pc = .ok (.iushr, 1)) (kk : bg_G κ y cs (pc + 1) ls (.inl (bg_ushr p q) :: st) M) : bg_G κ y cs pc ls (.inl q :: .inl p :: st) M := by
  intro H locs a hD hS hL hR
  obtain ⟨hx, hb, hown, hts, hK, hbs, hlk, -⟩ := X
  refine lv_iushr hx hb hd (Int32.ofInt_toInt _).symm ?_
  exact kk H locs a hD hS hL ⟨bg_R_toInt _, hR.2.2⟩

theorem bg_icmp_lt (X : bg_X κ y cc own dd mcc mss) {p q off : Int} {tgt : Nat} (hd : decode cc pc = .ok (.if_icmp .lt off, 3)) (ht : (pc : Int) + off = (tgt : Int)) (k1 : p < q → bg_G κ y cs tgt ls st M) (k2 : q ≤ p → bg_G κ y cs (pc + 3) ls st M) : bg_G κ y cs pc ls (.inl q :: .inl p :: st) M := by
  intro H locs a hD hS hL hR
  obtain ⟨hx, hb, hown, hts, hK, hbs, hlk, -⟩ := X
  have hq : R32 q := hR.1
  have hp : R32 p := hR.2.1
  exact lv_icmp_lt hx hb hd ht (fun h => k1 ((bg_lt hp hq).mp h) H locs a hD hS hL hR.2.2) (fun h => k2 (by have h9 : ¬ (p < q) := fun e => h ((bg_lt hp hq).mpr e); omega) H locs a hD hS hL hR.2.2)

theorem bg_if_lt (X : bg_X κ y cc own dd mcc mss) {p off : Int} {tgt : Nat} (hd : decode cc pc = .ok (.ifCond .lt off, 3)) (ht : (pc : Int) + off = (tgt : Int)) (k1 : p < 0 → bg_G κ y cs tgt ls st M) (k2 : 0 ≤ p → bg_G κ y cs (pc + 3) ls st M) : bg_G κ y cs pc ls (.inl p :: st) M := by
  intro H locs a hD hS hL hR
  obtain ⟨hx, hb, hown, hts, hK, hbs, hlk, -⟩ := X
  have hq : R32 0 := by decide
  have hp : R32 p := hR.1
  exact lv_if_lt hx hb hd ht (fun h => k1 ((bg_lt hp hq).mp h) H locs a hD hS hL hR.2) (fun h => k2 (by have h9 : ¬ (p < 0) := fun e => h ((bg_lt hp hq).mpr e); omega) H locs a hD hS hL hR.2)

theorem bg_icmp_ge (X : bg_X κ y cc own dd mcc mss) {p q off : Int} {tgt : Nat} (hd : decode cc pc = .ok (.if_icmp .ge off, 3)) (ht : (pc : Int) + off = (tgt : Int)) (k1 : q ≤ p → bg_G κ y cs tgt ls st M) (k2 : p < q → bg_G κ y cs (pc + 3) ls st M) : bg_G κ y cs pc ls (.inl q :: .inl p :: st) M := by
  intro H locs a hD hS hL hR
  obtain ⟨hx, hb, hown, hts, hK, hbs, hlk, -⟩ := X
  have hq : R32 q := hR.1
  have hp : R32 p := hR.2.1
  exact lv_icmp_ge hx hb hd ht (fun h => k1 ((bg_le hq hp).mp h) H locs a hD hS hL hR.2.2) (fun h => k2 (by have h9 : ¬ (q ≤ p) := fun e => h ((bg_le hq hp).mpr e); omega) H locs a hD hS hL hR.2.2)

theorem bg_if_ge (X : bg_X κ y cc own dd mcc mss) {p off : Int} {tgt : Nat} (hd : decode cc pc = .ok (.ifCond .ge off, 3)) (ht : (pc : Int) + off = (tgt : Int)) (k1 : 0 ≤ p → bg_G κ y cs tgt ls st M) (k2 : p < 0 → bg_G κ y cs (pc + 3) ls st M) : bg_G κ y cs pc ls (.inl p :: st) M := by
  intro H locs a hD hS hL hR
  obtain ⟨hx, hb, hown, hts, hK, hbs, hlk, -⟩ := X
  have hq : R32 0 := by decide
  have hp : R32 p := hR.1
  exact lv_if_ge hx hb hd ht (fun h => k1 ((bg_le hq hp).mp h) H locs a hD hS hL hR.2) (fun h => k2 (by have h9 : ¬ (0 ≤ p) := fun e => h ((bg_le hq hp).mpr e); omega) H locs a hD hS hL hR.2)

theorem bg_icmp_gt (X : bg_X κ y cc own dd mcc mss) {p q off : Int} {tgt : Nat} (hd : decode cc pc = .ok (.if_icmp .gt off, 3)) (ht : (pc : Int) + off = (tgt : Int)) (k1 : q < p → bg_G κ y cs tgt ls st M) (k2 : p ≤ q → bg_G κ y cs (pc + 3) ls st M) : bg_G κ y cs pc ls (.inl q :: .inl p :: st) M := by
  intro H locs a hD hS hL hR
  obtain ⟨hx, hb, hown, hts, hK, hbs, hlk, -⟩ := X
  have hq : R32 q := hR.1
  have hp : R32 p := hR.2.1
  exact lv_icmp_gt hx hb hd ht (fun h => k1 ((bg_lt hq hp).mp h) H locs a hD hS hL hR.2.2) (fun h => k2 (by have h9 : ¬ (q < p) := fun e => h ((bg_lt hq hp).mpr e); omega) H locs a hD hS hL hR.2.2)

theorem bg_if_gt (X : bg_X κ y cc own dd mcc mss) {p off : Int} {tgt : Nat} (hd : decode cc pc = .ok (.ifCond .gt off, 3)) (ht : (pc : Int) + off = (tgt : Int)) (k1 : 0 < p → bg_G κ y cs tgt ls st M) (k2 : p ≤ 0 → bg_G κ y cs (pc + 3) ls st M) : bg_G κ y cs pc ls (.inl p :: st) M := by
  intro H locs a hD hS hL hR
  obtain ⟨hx, hb, hown, hts, hK, hbs, hlk, -⟩ := X
  have hq : R32 0 := by decide
  have hp : R32 p := hR.1
  exact lv_if_gt hx hb hd ht (fun h => k1 ((bg_lt hq hp).mp h) H locs a hD hS hL hR.2) (fun h => k2 (by have h9 : ¬ (0 < p) := fun e => h ((bg_lt hq hp).mpr e); omega) H locs a hD hS hL hR.2)

theorem bg_icmp_le (X : bg_X κ y cc own dd mcc mss) {p q off : Int} {tgt : Nat} (hd : decode cc pc = .ok (.if_icmp .le off, 3)) (ht : (pc : Int) + off = (tgt : Int)) (k1 : p ≤ q → bg_G κ y cs tgt ls st M) (k2 : q < p → bg_G κ y cs (pc + 3) ls st M) : bg_G κ y cs pc ls (.inl q :: .inl p :: st) M := by
  intro H locs a hD hS hL hR
  obtain ⟨hx, hb, hown, hts, hK, hbs, hlk, -⟩ := X
  have hq : R32 q := hR.1
  have hp : R32 p := hR.2.1
  exact lv_icmp_le hx hb hd ht (fun h => k1 ((bg_le hp hq).mp h) H locs a hD hS hL hR.2.2) (fun h => k2 (by have h9 : ¬ (p ≤ q) := fun e => h ((bg_le hp hq).mpr e); omega) H locs a hD hS hL hR.2.2)

theorem bg_if_le (X : bg_X κ y cc own dd mcc mss) {p off : Int} {tgt : Nat} (hd : decode cc pc = .ok (.ifCond .le off, 3)) (ht : (pc : Int) + off = (tgt : Int)) (k1 : p ≤ 0 → bg_G κ y cs tgt ls st M) (k2 : 0 < p → bg_G κ y cs (pc + 3) ls st M) : bg_G κ y cs pc ls (.inl p :: st) M := by
  intro H locs a hD hS hL hR
  obtain ⟨hx, hb, hown, hts, hK, hbs, hlk, -⟩ := X
  have hq : R32 0 := by decide
  have hp : R32 p := hR.1
  exact lv_if_le hx hb hd ht (fun h => k1 ((bg_le hp hq).mp h) H locs a hD hS hL hR.2) (fun h => k2 (by have h9 : ¬ (p ≤ 0) := fun e => h ((bg_le hp hq).mpr e); omega) H locs a hD hS hL hR.2)

theorem bg_icmp_eq (X : bg_X κ y cc own dd mcc mss) {p q off : Int} {tgt : Nat} (hd : decode cc pc = .ok (.if_icmp .eq off, 3)) (ht : (pc : Int) + off = (tgt : Int)) (k1 : p = q → bg_G κ y cs tgt ls st M) (k2 : ¬ p = q → bg_G κ y cs (pc + 3) ls st M) : bg_G κ y cs pc ls (.inl q :: .inl p :: st) M := by
  intro H locs a hD hS hL hR
  obtain ⟨hx, hb, hown, hts, hK, hbs, hlk, -⟩ := X
  have hq : R32 q := hR.1
  have hp : R32 p := hR.2.1
  exact lv_icmp_eq hx hb hd ht (fun h => k1 ((bg_eq hp hq).mp h) H locs a hD hS hL hR.2.2) (fun h => k2 (fun e => h ((bg_eq hp hq).mpr e)) H locs a hD hS hL hR.2.2)

theorem bg_if_eq (X : bg_X κ y cc own dd mcc mss) {p off : Int} {tgt : Nat} (hd : decode cc pc = .ok (.ifCond .eq off, 3)) (ht : (pc : Int) + off = (tgt : Int)) (k1 : p = 0 → bg_G κ y cs tgt ls st M) (k2 : ¬ p = 0 → bg_G κ y cs (pc + 3) ls st M) : bg_G κ y cs pc ls (.inl p :: st) M := by
  intro H locs a hD hS hL hR
  obtain ⟨hx, hb, hown, hts, hK, hbs, hlk, -⟩ := X
  have hq : R32 0 := by decide
  have hp : R32 p := hR.1
  exact lv_if_eq hx hb hd ht (fun h => k1 ((bg_eq hp hq).mp h) H locs a hD hS hL hR.2) (fun h => k2 (fun e => h ((bg_eq hp hq).mpr e)) H locs a hD hS hL hR.2)

theorem bg_icmp_ne (X : bg_X κ y cc own dd mcc mss) {p q off : Int} {tgt : Nat} (hd : decode cc pc = .ok (.if_icmp .ne off, 3)) (ht : (pc : Int) + off = (tgt : Int)) (k1 : ¬ p = q → bg_G κ y cs tgt ls st M) (k2 : p = q → bg_G κ y cs (pc + 3) ls st M) : bg_G κ y cs pc ls (.inl q :: .inl p :: st) M := by
  intro H locs a hD hS hL hR
  obtain ⟨hx, hb, hown, hts, hK, hbs, hlk, -⟩ := X
  have hq : R32 q := hR.1
  have hp : R32 p := hR.2.1
  exact lv_icmp_ne hx hb hd ht (fun h => k1 (fun e => h ((bg_eq hp hq).mpr e)) H locs a hD hS hL hR.2.2) (fun h => k2 ((bg_eq hp hq).mp h) H locs a hD hS hL hR.2.2)

theorem bg_if_ne (X : bg_X κ y cc own dd mcc mss) {p off : Int} {tgt : Nat} (hd : decode cc pc = .ok (.ifCond .ne off, 3)) (ht : (pc : Int) + off = (tgt : Int)) (k1 : ¬ p = 0 → bg_G κ y cs tgt ls st M) (k2 : p = 0 → bg_G κ y cs (pc + 3) ls st M) : bg_G κ y cs pc ls (.inl p :: st) M := by
  intro H locs a hD hS hL hR
  obtain ⟨hx, hb, hown, hts, hK, hbs, hlk, -⟩ := X
  have hq : R32 0 := by decide
  have hp : R32 p := hR.1
  exact lv_if_ne hx hb hd ht (fun h => k1 (fun e => h ((bg_eq hp hq).mpr e)) H locs a hD hS hL hR.2) (fun h => k2 ((bg_eq hp hq).mp h) H locs a hD hS hL hR.2)

theorem bg_goto (X : bg_X κ y cc own dd mcc mss) {off : Int} {tgt : Nat} (hd : decode cc pc = .ok (.goto off, 3)) (ht : (pc : Int) + off = (tgt : Int)) (kk : bg_G κ y cs tgt ls st M) : bg_G κ y cs pc ls st M := by
  intro H locs a hD hS hL hR
  obtain ⟨hx, hb, hown, hts, hK, hbs, hlk, -⟩ := X
  exact lv_goto hx hb hd ht (kk H locs a hD hS hL hR)

theorem bg_tableIn (X : bg_X κ y cc own dd mcc mss) {dflt lo hi p off : Int} {offs : Array Int} {len tgt : Nat} (hd : decode cc pc = .ok (.tableswitch dflt lo hi offs, len)) (h1 : lo ≤ p) (h2 : p ≤ hi) (ho : offs[(p - lo).toNat]? = some off) (ht : (pc : Int) + off = (tgt : Int)) (kk : bg_G κ y cs tgt ls st M) : bg_G κ y cs pc ls (.inl p :: st) M := by
  intro H locs a hD hS hL hR
  obtain ⟨hx, hb, hown, hts, hK, hbs, hlk, -⟩ := X
  have e := bg_toInt hR.1
  exact lv_tableIn hx hb hd (by rw [e]; omega) (by rw [e]; omega) (by rw [e]; exact ho) ht (kk H locs a hD hS hL hR.2)

theorem bg_tableOut (X : bg_X κ y cc own dd mcc mss) {dflt lo hi p : Int} {offs : Array Int} {len tgt : Nat} (hd : decode cc pc = .ok (.tableswitch dflt lo hi offs, len)) (h : p < lo ∨ hi < p) (ht : (pc : Int) + dflt = (tgt : Int)) (kk : bg_G κ y cs tgt ls st M) : bg_G κ y cs pc ls (.inl p :: st) M := by
  intro H locs a hD hS hL hR
  obtain ⟨hx, hb, hown, hts, hK, hbs, hlk, -⟩ := X
  have e := bg_toInt hR.1
  exact lv_tableOut hx hb hd (by rw [e]; exact h) ht (kk H locs a hD hS hL hR.2)

theorem bg_lookup (X : bg_X κ y cc own dd mcc mss) {dflt p off : Int} {ps : Array (Int × Int)} {len tgt : Nat} (hd : decode cc pc = .ok (.lookupswitch dflt ps, len)) (hp : (ps.toList.zip (ps.toList.drop 1)).all (fun (a, next) => a.1 < next.1) = true) (ho : Op.lookupswitch.offset ps.toList dflt p = off) (ht : (pc : Int) + off = (tgt : Int)) (kk : bg_G κ y cs tgt ls st M) : bg_G κ y cs pc ls (.inl p :: st) M := by
  intro H locs a hD hS hL hR
  obtain ⟨hx, hb, hown, hts, hK, hbs, hlk, -⟩ := X
  have e := bg_toInt hR.1
  exact lv_lookup hx hb hd hp (by rw [e]; exact ho) ht (kk H locs a hD hS hL hR.2)

theorem bg_dup (X : bg_X κ y cc own dd mcc mss) {v : bg_V} (hd : decode cc pc = .ok (.dup, 1)) (kk : bg_G κ y cs (pc + 1) ls (v :: v :: st) M) : bg_G κ y cs pc ls (v :: st) M := by
  intro H locs a hD hS hL hR
  obtain ⟨hx, hb, hown, hts, hK, hbs, hlk, -⟩ := X
  exact lv_dup hx hb hd (bg_v_cat y v) (kk H locs a hD hS hL ⟨hR.1, hR⟩)

theorem bg_pop (X : bg_X κ y cc own dd mcc mss) {v : bg_V} (hd : decode cc pc = .ok (.pop, 1)) (kk : bg_G κ y cs (pc + 1) ls st M) : bg_G κ y cs pc ls (v :: st) M := by
  intro H locs a hD hS hL hR
  obtain ⟨hx, hb, hown, hts, hK, hbs, hlk, -⟩ := X
  exact lv_pop hx hb hd (bg_v_cat y v) (kk H locs a hD hS hL hR.2)

theorem bg_dup2 (X : bg_X κ y cc own dd mcc mss) {v w : bg_V} (hd : decode cc pc = .ok (.dup2, 1)) (kk : bg_G κ y cs (pc + 1) ls (v :: w :: v :: w :: st) M) : bg_G κ y cs pc ls (v :: w :: st) M := by
  intro H locs a hD hS hL hR
  obtain ⟨hx, hb, hown, hts, hK, hbs, hlk, -⟩ := X
  exact lv_dup2_11 hx hb hd (bg_v_cat y v) (bg_v_cat y w) (kk H locs a hD hS hL ⟨hR.1, hR.2.1, hR⟩)

theorem bg_mem (kk : (∀ a k, R32 (M.2.2 a k)) → bg_G κ y cs pc ls st M) : bg_G κ y cs pc ls st M := fun H locs a hD hS hL hR => kk hD.2.2 H locs a hD hS hL hR
theorem bg_top {v : bg_V} (kk : bg_R v → bg_G κ y cs pc ls (v :: st) M) : bg_G κ y cs pc ls (v :: st) M := fun H locs a hD hS hL hR => kk hR.1 H locs a hD hS hL hR
theorem bg_loc {ls' : List (Option bg_V)} (hl : ls'.length = ls.length) (hs : ∀ (k : Nat) (v : bg_V), ls'[k]? = some (some v) → ls[k]? = some (some v)) (kk : bg_G κ y cs pc ls' st M) : bg_G κ y cs pc ls st M := fun H locs a hD hS hL hR => kk H locs a hD hS (hL.sub hl hs) hR
theorem bg_widen {k n : Nat} (h1 : cs.1 ≤ k) (h2 : cs.2 ≤ n) (kk : bg_G κ y (k, n) pc ls st M) : bg_G κ y cs pc ls st M := fun H locs a hD hS hL hR => W.widen h1 h2 (kk H locs a hD hS hL hR)

theorem bg_iload0 (X : bg_X κ y cc own dd mcc mss) {x : Int} {t : List (Option bg_V)} (hd : decode cc pc = .ok (.iload_n 0, 1)) (kk : bg_G κ y cs (pc + 1) (some (.inl x) :: t) (.inl x :: st) M) : bg_G κ y cs pc (some (.inl x) :: t) st M := bg_iload_n X hd rfl rfl kk

theorem bg_aload0 (X : bg_X κ y cc own dd mcc mss) {x : Nat} {t : List (Option bg_V)} (hd : decode cc pc = .ok (.aload_n 0, 1)) (kk : bg_G κ y cs (pc + 1) (some (.inr x) :: t) (.inr x :: st) M) : bg_G κ y cs pc (some (.inr x) :: t) st M := bg_aload_n X hd rfl rfl kk

theorem bg_istore0 (X : bg_X κ y cc own dd mcc mss) {o : Option bg_V} {x : Int} {t : List (Option bg_V)} (hd : decode cc pc = .ok (.istore_n 0, 1)) (kk : bg_G κ y cs (pc + 1) (some (.inl x) :: t) st M) : bg_G κ y cs pc (o :: t) (.inl x :: st) M := bg_istore_n (i := 0) X hd rfl (by simp only [List.length_cons]; omega) kk

theorem bg_astore0 (X : bg_X κ y cc own dd mcc mss) {o : Option bg_V} {x : Nat} {t : List (Option bg_V)} (hd : decode cc pc = .ok (.astore_n 0, 1)) (kk : bg_G κ y cs (pc + 1) (some (.inr x) :: t) st M) : bg_G κ y cs pc (o :: t) (.inr x :: st) M := bg_astore_n (i := 0) X hd rfl (by simp only [List.length_cons]; omega) kk

theorem bg_iinc0 (X : bg_X κ y cc own dd mcc mss) {n x : Int} {t : List (Option bg_V)} (hd : decode cc pc = .ok (.iinc 0 n, 3)) (hr : R32 (x + n)) (kk : bg_G κ y cs (pc + 3) (some (.inl (x + n)) :: t) st M) : bg_G κ y cs pc (some (.inl x) :: t) st M := bg_iinc X hd rfl hr kk

theorem bg_iload1 (X : bg_X κ y cc own dd mcc mss) {a0 : Option bg_V} {x : Int} {t : List (Option bg_V)} (hd : decode cc pc = .ok (.iload_n 1, 1)) (kk : bg_G κ y cs (pc + 1) (a0 :: some (.inl x) :: t) (.inl x :: st) M) : bg_G κ y cs pc (a0 :: some (.inl x) :: t) st M := bg_iload_n X hd rfl rfl kk

theorem bg_aload1 (X : bg_X κ y cc own dd mcc mss) {a0 : Option bg_V} {x : Nat} {t : List (Option bg_V)} (hd : decode cc pc = .ok (.aload_n 1, 1)) (kk : bg_G κ y cs (pc + 1) (a0 :: some (.inr x) :: t) (.inr x :: st) M) : bg_G κ y cs pc (a0 :: some (.inr x) :: t) st M := bg_aload_n X hd rfl rfl kk

theorem bg_istore1 (X : bg_X κ y cc own dd mcc mss) {a0 : Option bg_V} {o : Option bg_V} {x : Int} {t : List (Option bg_V)} (hd : decode cc pc = .ok (.istore_n 1, 1)) (kk : bg_G κ y cs (pc + 1) (a0 :: some (.inl x) :: t) st M) : bg_G κ y cs pc (a0 :: o :: t) (.inl x :: st) M := bg_istore_n (i := 1) X hd rfl (by simp only [List.length_cons]; omega) kk

theorem bg_astore1 (X : bg_X κ y cc own dd mcc mss) {a0 : Option bg_V} {o : Option bg_V} {x : Nat} {t : List (Option bg_V)} (hd : decode cc pc = .ok (.astore_n 1, 1)) (kk : bg_G κ y cs (pc + 1) (a0 :: some (.inr x) :: t) st M) : bg_G κ y cs pc (a0 :: o :: t) (.inr x :: st) M := bg_astore_n (i := 1) X hd rfl (by simp only [List.length_cons]; omega) kk

theorem bg_iinc1 (X : bg_X κ y cc own dd mcc mss) {a0 : Option bg_V} {n x : Int} {t : List (Option bg_V)} (hd : decode cc pc = .ok (.iinc 1 n, 3)) (hr : R32 (x + n)) (kk : bg_G κ y cs (pc + 3) (a0 :: some (.inl (x + n)) :: t) st M) : bg_G κ y cs pc (a0 :: some (.inl x) :: t) st M := bg_iinc X hd rfl hr kk

theorem bg_iload2 (X : bg_X κ y cc own dd mcc mss) {a0 a1 : Option bg_V} {x : Int} {t : List (Option bg_V)} (hd : decode cc pc = .ok (.iload_n 2, 1)) (kk : bg_G κ y cs (pc + 1) (a0 :: a1 :: some (.inl x) :: t) (.inl x :: st) M) : bg_G κ y cs pc (a0 :: a1 :: some (.inl x) :: t) st M := bg_iload_n X hd rfl rfl kk

theorem bg_aload2 (X : bg_X κ y cc own dd mcc mss) {a0 a1 : Option bg_V} {x : Nat} {t : List (Option bg_V)} (hd : decode cc pc = .ok (.aload_n 2, 1)) (kk : bg_G κ y cs (pc + 1) (a0 :: a1 :: some (.inr x) :: t) (.inr x :: st) M) : bg_G κ y cs pc (a0 :: a1 :: some (.inr x) :: t) st M := bg_aload_n X hd rfl rfl kk

theorem bg_istore2 (X : bg_X κ y cc own dd mcc mss) {a0 a1 : Option bg_V} {o : Option bg_V} {x : Int} {t : List (Option bg_V)} (hd : decode cc pc = .ok (.istore_n 2, 1)) (kk : bg_G κ y cs (pc + 1) (a0 :: a1 :: some (.inl x) :: t) st M) : bg_G κ y cs pc (a0 :: a1 :: o :: t) (.inl x :: st) M := bg_istore_n (i := 2) X hd rfl (by simp only [List.length_cons]; omega) kk

theorem bg_astore2 (X : bg_X κ y cc own dd mcc mss) {a0 a1 : Option bg_V} {o : Option bg_V} {x : Nat} {t : List (Option bg_V)} (hd : decode cc pc = .ok (.astore_n 2, 1)) (kk : bg_G κ y cs (pc + 1) (a0 :: a1 :: some (.inr x) :: t) st M) : bg_G κ y cs pc (a0 :: a1 :: o :: t) (.inr x :: st) M := bg_astore_n (i := 2) X hd rfl (by simp only [List.length_cons]; omega) kk

theorem bg_iinc2 (X : bg_X κ y cc own dd mcc mss) {a0 a1 : Option bg_V} {n x : Int} {t : List (Option bg_V)} (hd : decode cc pc = .ok (.iinc 2 n, 3)) (hr : R32 (x + n)) (kk : bg_G κ y cs (pc + 3) (a0 :: a1 :: some (.inl (x + n)) :: t) st M) : bg_G κ y cs pc (a0 :: a1 :: some (.inl x) :: t) st M := bg_iinc X hd rfl hr kk

theorem bg_iload3 (X : bg_X κ y cc own dd mcc mss) {a0 a1 a2 : Option bg_V} {x : Int} {t : List (Option bg_V)} (hd : decode cc pc = .ok (.iload_n 3, 1)) (kk : bg_G κ y cs (pc + 1) (a0 :: a1 :: a2 :: some (.inl x) :: t) (.inl x :: st) M) : bg_G κ y cs pc (a0 :: a1 :: a2 :: some (.inl x) :: t) st M := bg_iload_n X hd rfl rfl kk

theorem bg_aload3 (X : bg_X κ y cc own dd mcc mss) {a0 a1 a2 : Option bg_V} {x : Nat} {t : List (Option bg_V)} (hd : decode cc pc = .ok (.aload_n 3, 1)) (kk : bg_G κ y cs (pc + 1) (a0 :: a1 :: a2 :: some (.inr x) :: t) (.inr x :: st) M) : bg_G κ y cs pc (a0 :: a1 :: a2 :: some (.inr x) :: t) st M := bg_aload_n X hd rfl rfl kk

theorem bg_istore3 (X : bg_X κ y cc own dd mcc mss) {a0 a1 a2 : Option bg_V} {o : Option bg_V} {x : Int} {t : List (Option bg_V)} (hd : decode cc pc = .ok (.istore_n 3, 1)) (kk : bg_G κ y cs (pc + 1) (a0 :: a1 :: a2 :: some (.inl x) :: t) st M) : bg_G κ y cs pc (a0 :: a1 :: a2 :: o :: t) (.inl x :: st) M := bg_istore_n (i := 3) X hd rfl (by simp only [List.length_cons]; omega) kk

theorem bg_astore3 (X : bg_X κ y cc own dd mcc mss) {a0 a1 a2 : Option bg_V} {o : Option bg_V} {x : Nat} {t : List (Option bg_V)} (hd : decode cc pc = .ok (.astore_n 3, 1)) (kk : bg_G κ y cs (pc + 1) (a0 :: a1 :: a2 :: some (.inr x) :: t) st M) : bg_G κ y cs pc (a0 :: a1 :: a2 :: o :: t) (.inr x :: st) M := bg_astore_n (i := 3) X hd rfl (by simp only [List.length_cons]; omega) kk

theorem bg_iinc3 (X : bg_X κ y cc own dd mcc mss) {a0 a1 a2 : Option bg_V} {n x : Int} {t : List (Option bg_V)} (hd : decode cc pc = .ok (.iinc 3 n, 3)) (hr : R32 (x + n)) (kk : bg_G κ y cs (pc + 3) (a0 :: a1 :: a2 :: some (.inl (x + n)) :: t) st M) : bg_G κ y cs pc (a0 :: a1 :: a2 :: some (.inl x) :: t) st M := bg_iinc X hd rfl hr kk

theorem bg_iload4 (X : bg_X κ y cc own dd mcc mss) {a0 a1 a2 a3 : Option bg_V} {x : Int} {t : List (Option bg_V)} (hd : decode cc pc = .ok (.iload 4, 2)) (kk : bg_G κ y cs (pc + 2) (a0 :: a1 :: a2 :: a3 :: some (.inl x) :: t) (.inl x :: st) M) : bg_G κ y cs pc (a0 :: a1 :: a2 :: a3 :: some (.inl x) :: t) st M := bg_iload X hd rfl kk

theorem bg_aload4 (X : bg_X κ y cc own dd mcc mss) {a0 a1 a2 a3 : Option bg_V} {x : Nat} {t : List (Option bg_V)} (hd : decode cc pc = .ok (.aload 4, 2)) (kk : bg_G κ y cs (pc + 2) (a0 :: a1 :: a2 :: a3 :: some (.inr x) :: t) (.inr x :: st) M) : bg_G κ y cs pc (a0 :: a1 :: a2 :: a3 :: some (.inr x) :: t) st M := bg_aload X hd rfl kk

theorem bg_istore4 (X : bg_X κ y cc own dd mcc mss) {a0 a1 a2 a3 : Option bg_V} {o : Option bg_V} {x : Int} {t : List (Option bg_V)} (hd : decode cc pc = .ok (.istore 4, 2)) (kk : bg_G κ y cs (pc + 2) (a0 :: a1 :: a2 :: a3 :: some (.inl x) :: t) st M) : bg_G κ y cs pc (a0 :: a1 :: a2 :: a3 :: o :: t) (.inl x :: st) M := bg_istore (i := 4) X hd (by simp only [List.length_cons]; omega) kk

theorem bg_astore4 (X : bg_X κ y cc own dd mcc mss) {a0 a1 a2 a3 : Option bg_V} {o : Option bg_V} {x : Nat} {t : List (Option bg_V)} (hd : decode cc pc = .ok (.astore 4, 2)) (kk : bg_G κ y cs (pc + 2) (a0 :: a1 :: a2 :: a3 :: some (.inr x) :: t) st M) : bg_G κ y cs pc (a0 :: a1 :: a2 :: a3 :: o :: t) (.inr x :: st) M := bg_astore (i := 4) X hd (by simp only [List.length_cons]; omega) kk

theorem bg_iinc4 (X : bg_X κ y cc own dd mcc mss) {a0 a1 a2 a3 : Option bg_V} {n x : Int} {t : List (Option bg_V)} (hd : decode cc pc = .ok (.iinc 4 n, 3)) (hr : R32 (x + n)) (kk : bg_G κ y cs (pc + 3) (a0 :: a1 :: a2 :: a3 :: some (.inl (x + n)) :: t) st M) : bg_G κ y cs pc (a0 :: a1 :: a2 :: a3 :: some (.inl x) :: t) st M := bg_iinc X hd rfl hr kk

theorem bg_iload5 (X : bg_X κ y cc own dd mcc mss) {a0 a1 a2 a3 a4 : Option bg_V} {x : Int} {t : List (Option bg_V)} (hd : decode cc pc = .ok (.iload 5, 2)) (kk : bg_G κ y cs (pc + 2) (a0 :: a1 :: a2 :: a3 :: a4 :: some (.inl x) :: t) (.inl x :: st) M) : bg_G κ y cs pc (a0 :: a1 :: a2 :: a3 :: a4 :: some (.inl x) :: t) st M := bg_iload X hd rfl kk

theorem bg_aload5 (X : bg_X κ y cc own dd mcc mss) {a0 a1 a2 a3 a4 : Option bg_V} {x : Nat} {t : List (Option bg_V)} (hd : decode cc pc = .ok (.aload 5, 2)) (kk : bg_G κ y cs (pc + 2) (a0 :: a1 :: a2 :: a3 :: a4 :: some (.inr x) :: t) (.inr x :: st) M) : bg_G κ y cs pc (a0 :: a1 :: a2 :: a3 :: a4 :: some (.inr x) :: t) st M := bg_aload X hd rfl kk

theorem bg_istore5 (X : bg_X κ y cc own dd mcc mss) {a0 a1 a2 a3 a4 : Option bg_V} {o : Option bg_V} {x : Int} {t : List (Option bg_V)} (hd : decode cc pc = .ok (.istore 5, 2)) (kk : bg_G κ y cs (pc + 2) (a0 :: a1 :: a2 :: a3 :: a4 :: some (.inl x) :: t) st M) : bg_G κ y cs pc (a0 :: a1 :: a2 :: a3 :: a4 :: o :: t) (.inl x :: st) M := bg_istore (i := 5) X hd (by simp only [List.length_cons]; omega) kk

theorem bg_astore5 (X : bg_X κ y cc own dd mcc mss) {a0 a1 a2 a3 a4 : Option bg_V} {o : Option bg_V} {x : Nat} {t : List (Option bg_V)} (hd : decode cc pc = .ok (.astore 5, 2)) (kk : bg_G κ y cs (pc + 2) (a0 :: a1 :: a2 :: a3 :: a4 :: some (.inr x) :: t) st M) : bg_G κ y cs pc (a0 :: a1 :: a2 :: a3 :: a4 :: o :: t) (.inr x :: st) M := bg_astore (i := 5) X hd (by simp only [List.length_cons]; omega) kk

theorem bg_iinc5 (X : bg_X κ y cc own dd mcc mss) {a0 a1 a2 a3 a4 : Option bg_V} {n x : Int} {t : List (Option bg_V)} (hd : decode cc pc = .ok (.iinc 5 n, 3)) (hr : R32 (x + n)) (kk : bg_G κ y cs (pc + 3) (a0 :: a1 :: a2 :: a3 :: a4 :: some (.inl (x + n)) :: t) st M) : bg_G κ y cs pc (a0 :: a1 :: a2 :: a3 :: a4 :: some (.inl x) :: t) st M := bg_iinc X hd rfl hr kk

theorem bg_iload6 (X : bg_X κ y cc own dd mcc mss) {a0 a1 a2 a3 a4 a5 : Option bg_V} {x : Int} {t : List (Option bg_V)} (hd : decode cc pc = .ok (.iload 6, 2)) (kk : bg_G κ y cs (pc + 2) (a0 :: a1 :: a2 :: a3 :: a4 :: a5 :: some (.inl x) :: t) (.inl x :: st) M) : bg_G κ y cs pc (a0 :: a1 :: a2 :: a3 :: a4 :: a5 :: some (.inl x) :: t) st M := bg_iload X hd rfl kk

theorem bg_aload6 (X : bg_X κ y cc own dd mcc mss) {a0 a1 a2 a3 a4 a5 : Option bg_V} {x : Nat} {t : List (Option bg_V)} (hd : decode cc pc = .ok (.aload 6, 2)) (kk : bg_G κ y cs (pc + 2) (a0 :: a1 :: a2 :: a3 :: a4 :: a5 :: some (.inr x) :: t) (.inr x :: st) M) : bg_G κ y cs pc (a0 :: a1 :: a2 :: a3 :: a4 :: a5 :: some (.inr x) :: t) st M := bg_aload X hd rfl kk

theorem bg_istore6 (X : bg_X κ y cc own dd mcc mss) {a0 a1 a2 a3 a4 a5 : Option bg_V} {o : Option bg_V} {x : Int} {t : List (Option bg_V)} (hd : decode cc pc = .ok (.istore 6, 2)) (kk : bg_G κ y cs (pc + 2) (a0 :: a1 :: a2 :: a3 :: a4 :: a5 :: some (.inl x) :: t) st M) : bg_G κ y cs pc (a0 :: a1 :: a2 :: a3 :: a4 :: a5 :: o :: t) (.inl x :: st) M := bg_istore (i := 6) X hd (by simp only [List.length_cons]; omega) kk

theorem bg_astore6 (X : bg_X κ y cc own dd mcc mss) {a0 a1 a2 a3 a4 a5 : Option bg_V} {o : Option bg_V} {x : Nat} {t : List (Option bg_V)} (hd : decode cc pc = .ok (.astore 6, 2)) (kk : bg_G κ y cs (pc + 2) (a0 :: a1 :: a2 :: a3 :: a4 :: a5 :: some (.inr x) :: t) st M) : bg_G κ y cs pc (a0 :: a1 :: a2 :: a3 :: a4 :: a5 :: o :: t) (.inr x :: st) M := bg_astore (i := 6) X hd (by simp only [List.length_cons]; omega) kk

theorem bg_iinc6 (X : bg_X κ y cc own dd mcc mss) {a0 a1 a2 a3 a4 a5 : Option bg_V} {n x : Int} {t : List (Option bg_V)} (hd : decode cc pc = .ok (.iinc 6 n, 3)) (hr : R32 (x + n)) (kk : bg_G κ y cs (pc + 3) (a0 :: a1 :: a2 :: a3 :: a4 :: a5 :: some (.inl (x + n)) :: t) st M) : bg_G κ y cs pc (a0 :: a1 :: a2 :: a3 :: a4 :: a5 :: some (.inl x) :: t) st M := bg_iinc X hd rfl hr kk

theorem bg_iload7 (X : bg_X κ y cc own dd mcc mss) {a0 a1 a2 a3 a4 a5 a6 : Option bg_V} {x : Int} {t : List (Option bg_V)} (hd : decode cc pc = .ok (.iload 7, 2)) (kk : bg_G κ y cs (pc + 2) (a0 :: a1 :: a2 :: a3 :: a4 :: a5 :: a6 :: some (.inl x) :: t) (.inl x :: st) M) : bg_G κ y cs pc (a0 :: a1 :: a2 :: a3 :: a4 :: a5 :: a6 :: some (.inl x) :: t) st M := bg_iload X hd rfl kk

theorem bg_aload7 (X : bg_X κ y cc own dd mcc mss) {a0 a1 a2 a3 a4 a5 a6 : Option bg_V} {x : Nat} {t : List (Option bg_V)} (hd : decode cc pc = .ok (.aload 7, 2)) (kk : bg_G κ y cs (pc + 2) (a0 :: a1 :: a2 :: a3 :: a4 :: a5 :: a6 :: some (.inr x) :: t) (.inr x :: st) M) : bg_G κ y cs pc (a0 :: a1 :: a2 :: a3 :: a4 :: a5 :: a6 :: some (.inr x) :: t) st M := bg_aload X hd rfl kk

theorem bg_istore7 (X : bg_X κ y cc own dd mcc mss) {a0 a1 a2 a3 a4 a5 a6 : Option bg_V} {o : Option bg_V} {x : Int} {t : List (Option bg_V)} (hd : decode cc pc = .ok (.istore 7, 2)) (kk : bg_G κ y cs (pc + 2) (a0 :: a1 :: a2 :: a3 :: a4 :: a5 :: a6 :: some (.inl x) :: t) st M) : bg_G κ y cs pc (a0 :: a1 :: a2 :: a3 :: a4 :: a5 :: a6 :: o :: t) (.inl x :: st) M := bg_istore (i := 7) X hd (by simp only [List.length_cons]; omega) kk

theorem bg_astore7 (X : bg_X κ y cc own dd mcc mss) {a0 a1 a2 a3 a4 a5 a6 : Option bg_V} {o : Option bg_V} {x : Nat} {t : List (Option bg_V)} (hd : decode cc pc = .ok (.astore 7, 2)) (kk : bg_G κ y cs (pc + 2) (a0 :: a1 :: a2 :: a3 :: a4 :: a5 :: a6 :: some (.inr x) :: t) st M) : bg_G κ y cs pc (a0 :: a1 :: a2 :: a3 :: a4 :: a5 :: a6 :: o :: t) (.inr x :: st) M := bg_astore (i := 7) X hd (by simp only [List.length_cons]; omega) kk

theorem bg_iinc7 (X : bg_X κ y cc own dd mcc mss) {a0 a1 a2 a3 a4 a5 a6 : Option bg_V} {n x : Int} {t : List (Option bg_V)} (hd : decode cc pc = .ok (.iinc 7 n, 3)) (hr : R32 (x + n)) (kk : bg_G κ y cs (pc + 3) (a0 :: a1 :: a2 :: a3 :: a4 :: a5 :: a6 :: some (.inl (x + n)) :: t) st M) : bg_G κ y cs pc (a0 :: a1 :: a2 :: a3 :: a4 :: a5 :: a6 :: some (.inl x) :: t) st M := bg_iinc X hd rfl hr kk

theorem bg_iload8 (X : bg_X κ y cc own dd mcc mss) {a0 a1 a2 a3 a4 a5 a6 a7 : Option bg_V} {x : Int} {t : List (Option bg_V)} (hd : decode cc pc = .ok (.iload 8, 2)) (kk : bg_G κ y cs (pc + 2) (a0 :: a1 :: a2 :: a3 :: a4 :: a5 :: a6 :: a7 :: some (.inl x) :: t) (.inl x :: st) M) : bg_G κ y cs pc (a0 :: a1 :: a2 :: a3 :: a4 :: a5 :: a6 :: a7 :: some (.inl x) :: t) st M := bg_iload X hd rfl kk

theorem bg_aload8 (X : bg_X κ y cc own dd mcc mss) {a0 a1 a2 a3 a4 a5 a6 a7 : Option bg_V} {x : Nat} {t : List (Option bg_V)} (hd : decode cc pc = .ok (.aload 8, 2)) (kk : bg_G κ y cs (pc + 2) (a0 :: a1 :: a2 :: a3 :: a4 :: a5 :: a6 :: a7 :: some (.inr x) :: t) (.inr x :: st) M) : bg_G κ y cs pc (a0 :: a1 :: a2 :: a3 :: a4 :: a5 :: a6 :: a7 :: some (.inr x) :: t) st M := bg_aload X hd rfl kk

theorem bg_istore8 (X : bg_X κ y cc own dd mcc mss) {a0 a1 a2 a3 a4 a5 a6 a7 : Option bg_V} {o : Option bg_V} {x : Int} {t : List (Option bg_V)} (hd : decode cc pc = .ok (.istore 8, 2)) (kk : bg_G κ y cs (pc + 2) (a0 :: a1 :: a2 :: a3 :: a4 :: a5 :: a6 :: a7 :: some (.inl x) :: t) st M) : bg_G κ y cs pc (a0 :: a1 :: a2 :: a3 :: a4 :: a5 :: a6 :: a7 :: o :: t) (.inl x :: st) M := bg_istore (i := 8) X hd (by simp only [List.length_cons]; omega) kk

theorem bg_astore8 (X : bg_X κ y cc own dd mcc mss) {a0 a1 a2 a3 a4 a5 a6 a7 : Option bg_V} {o : Option bg_V} {x : Nat} {t : List (Option bg_V)} (hd : decode cc pc = .ok (.astore 8, 2)) (kk : bg_G κ y cs (pc + 2) (a0 :: a1 :: a2 :: a3 :: a4 :: a5 :: a6 :: a7 :: some (.inr x) :: t) st M) : bg_G κ y cs pc (a0 :: a1 :: a2 :: a3 :: a4 :: a5 :: a6 :: a7 :: o :: t) (.inr x :: st) M := bg_astore (i := 8) X hd (by simp only [List.length_cons]; omega) kk

theorem bg_iinc8 (X : bg_X κ y cc own dd mcc mss) {a0 a1 a2 a3 a4 a5 a6 a7 : Option bg_V} {n x : Int} {t : List (Option bg_V)} (hd : decode cc pc = .ok (.iinc 8 n, 3)) (hr : R32 (x + n)) (kk : bg_G κ y cs (pc + 3) (a0 :: a1 :: a2 :: a3 :: a4 :: a5 :: a6 :: a7 :: some (.inl (x + n)) :: t) st M) : bg_G κ y cs pc (a0 :: a1 :: a2 :: a3 :: a4 :: a5 :: a6 :: a7 :: some (.inl x) :: t) st M := bg_iinc X hd rfl hr kk

theorem bg_iload9 (X : bg_X κ y cc own dd mcc mss) {a0 a1 a2 a3 a4 a5 a6 a7 a8 : Option bg_V} {x : Int} {t : List (Option bg_V)} (hd : decode cc pc = .ok (.iload 9, 2)) (kk : bg_G κ y cs (pc + 2) (a0 :: a1 :: a2 :: a3 :: a4 :: a5 :: a6 :: a7 :: a8 :: some (.inl x) :: t) (.inl x :: st) M) : bg_G κ y cs pc (a0 :: a1 :: a2 :: a3 :: a4 :: a5 :: a6 :: a7 :: a8 :: some (.inl x) :: t) st M := bg_iload X hd rfl kk

theorem bg_aload9 (X : bg_X κ y cc own dd mcc mss) {a0 a1 a2 a3 a4 a5 a6 a7 a8 : Option bg_V} {x : Nat} {t : List (Option bg_V)} (hd : decode cc pc = .ok (.aload 9, 2)) (kk : bg_G κ y cs (pc + 2) (a0 :: a1 :: a2 :: a3 :: a4 :: a5 :: a6 :: a7 :: a8 :: some (.inr x) :: t) (.inr x :: st) M) : bg_G κ y cs pc (a0 :: a1 :: a2 :: a3 :: a4 :: a5 :: a6 :: a7 :: a8 :: some (.inr x) :: t) st M := bg_aload X hd rfl kk

theorem bg_istore9 (X : bg_X κ y cc own dd mcc mss) {a0 a1 a2 a3 a4 a5 a6 a7 a8 : Option bg_V} {o : Option bg_V} {x : Int} {t : List (Option bg_V)} (hd : decode cc pc = .ok (.istore 9, 2)) (kk : bg_G κ y cs (pc + 2) (a0 :: a1 :: a2 :: a3 :: a4 :: a5 :: a6 :: a7 :: a8 :: some (.inl x) :: t) st M) : bg_G κ y cs pc (a0 :: a1 :: a2 :: a3 :: a4 :: a5 :: a6 :: a7 :: a8 :: o :: t) (.inl x :: st) M := bg_istore (i := 9) X hd (by simp only [List.length_cons]; omega) kk

theorem bg_astore9 (X : bg_X κ y cc own dd mcc mss) {a0 a1 a2 a3 a4 a5 a6 a7 a8 : Option bg_V} {o : Option bg_V} {x : Nat} {t : List (Option bg_V)} (hd : decode cc pc = .ok (.astore 9, 2)) (kk : bg_G κ y cs (pc + 2) (a0 :: a1 :: a2 :: a3 :: a4 :: a5 :: a6 :: a7 :: a8 :: some (.inr x) :: t) st M) : bg_G κ y cs pc (a0 :: a1 :: a2 :: a3 :: a4 :: a5 :: a6 :: a7 :: a8 :: o :: t) (.inr x :: st) M := bg_astore (i := 9) X hd (by simp only [List.length_cons]; omega) kk

theorem bg_iinc9 (X : bg_X κ y cc own dd mcc mss) {a0 a1 a2 a3 a4 a5 a6 a7 a8 : Option bg_V} {n x : Int} {t : List (Option bg_V)} (hd : decode cc pc = .ok (.iinc 9 n, 3)) (hr : R32 (x + n)) (kk : bg_G κ y cs (pc + 3) (a0 :: a1 :: a2 :: a3 :: a4 :: a5 :: a6 :: a7 :: a8 :: some (.inl (x + n)) :: t) st M) : bg_G κ y cs pc (a0 :: a1 :: a2 :: a3 :: a4 :: a5 :: a6 :: a7 :: a8 :: some (.inl x) :: t) st M := bg_iinc X hd rfl hr kk

theorem bg_iload10 (X : bg_X κ y cc own dd mcc mss) {a0 a1 a2 a3 a4 a5 a6 a7 a8 a9 : Option bg_V} {x : Int} {t : List (Option bg_V)} (hd : decode cc pc = .ok (.iload 10, 2)) (kk : bg_G κ y cs (pc + 2) (a0 :: a1 :: a2 :: a3 :: a4 :: a5 :: a6 :: a7 :: a8 :: a9 :: some (.inl x) :: t) (.inl x :: st) M) : bg_G κ y cs pc (a0 :: a1 :: a2 :: a3 :: a4 :: a5 :: a6 :: a7 :: a8 :: a9 :: some (.inl x) :: t) st M := bg_iload X hd rfl kk

theorem bg_aload10 (X : bg_X κ y cc own dd mcc mss) {a0 a1 a2 a3 a4 a5 a6 a7 a8 a9 : Option bg_V} {x : Nat} {t : List (Option bg_V)} (hd : decode cc pc = .ok (.aload 10, 2)) (kk : bg_G κ y cs (pc + 2) (a0 :: a1 :: a2 :: a3 :: a4 :: a5 :: a6 :: a7 :: a8 :: a9 :: some (.inr x) :: t) (.inr x :: st) M) : bg_G κ y cs pc (a0 :: a1 :: a2 :: a3 :: a4 :: a5 :: a6 :: a7 :: a8 :: a9 :: some (.inr x) :: t) st M := bg_aload X hd rfl kk

theorem bg_istore10 (X : bg_X κ y cc own dd mcc mss) {a0 a1 a2 a3 a4 a5 a6 a7 a8 a9 : Option bg_V} {o : Option bg_V} {x : Int} {t : List (Option bg_V)} (hd : decode cc pc = .ok (.istore 10, 2)) (kk : bg_G κ y cs (pc + 2) (a0 :: a1 :: a2 :: a3 :: a4 :: a5 :: a6 :: a7 :: a8 :: a9 :: some (.inl x) :: t) st M) : bg_G κ y cs pc (a0 :: a1 :: a2 :: a3 :: a4 :: a5 :: a6 :: a7 :: a8 :: a9 :: o :: t) (.inl x :: st) M := bg_istore (i := 10) X hd (by simp only [List.length_cons]; omega) kk

theorem bg_astore10 (X : bg_X κ y cc own dd mcc mss) {a0 a1 a2 a3 a4 a5 a6 a7 a8 a9 : Option bg_V} {o : Option bg_V} {x : Nat} {t : List (Option bg_V)} (hd : decode cc pc = .ok (.astore 10, 2)) (kk : bg_G κ y cs (pc + 2) (a0 :: a1 :: a2 :: a3 :: a4 :: a5 :: a6 :: a7 :: a8 :: a9 :: some (.inr x) :: t) st M) : bg_G κ y cs pc (a0 :: a1 :: a2 :: a3 :: a4 :: a5 :: a6 :: a7 :: a8 :: a9 :: o :: t) (.inr x :: st) M := bg_astore (i := 10) X hd (by simp only [List.length_cons]; omega) kk

theorem bg_iinc10 (X : bg_X κ y cc own dd mcc mss) {a0 a1 a2 a3 a4 a5 a6 a7 a8 a9 : Option bg_V} {n x : Int} {t : List (Option bg_V)} (hd : decode cc pc = .ok (.iinc 10 n, 3)) (hr : R32 (x + n)) (kk : bg_G κ y cs (pc + 3) (a0 :: a1 :: a2 :: a3 :: a4 :: a5 :: a6 :: a7 :: a8 :: a9 :: some (.inl (x + n)) :: t) st M) : bg_G κ y cs pc (a0 :: a1 :: a2 :: a3 :: a4 :: a5 :: a6 :: a7 :: a8 :: a9 :: some (.inl x) :: t) st M := bg_iinc X hd rfl hr kk

theorem bg_iload11 (X : bg_X κ y cc own dd mcc mss) {a0 a1 a2 a3 a4 a5 a6 a7 a8 a9 a10 : Option bg_V} {x : Int} {t : List (Option bg_V)} (hd : decode cc pc = .ok (.iload 11, 2)) (kk : bg_G κ y cs (pc + 2) (a0 :: a1 :: a2 :: a3 :: a4 :: a5 :: a6 :: a7 :: a8 :: a9 :: a10 :: some (.inl x) :: t) (.inl x :: st) M) : bg_G κ y cs pc (a0 :: a1 :: a2 :: a3 :: a4 :: a5 :: a6 :: a7 :: a8 :: a9 :: a10 :: some (.inl x) :: t) st M := bg_iload X hd rfl kk

theorem bg_aload11 (X : bg_X κ y cc own dd mcc mss) {a0 a1 a2 a3 a4 a5 a6 a7 a8 a9 a10 : Option bg_V} {x : Nat} {t : List (Option bg_V)} (hd : decode cc pc = .ok (.aload 11, 2)) (kk : bg_G κ y cs (pc + 2) (a0 :: a1 :: a2 :: a3 :: a4 :: a5 :: a6 :: a7 :: a8 :: a9 :: a10 :: some (.inr x) :: t) (.inr x :: st) M) : bg_G κ y cs pc (a0 :: a1 :: a2 :: a3 :: a4 :: a5 :: a6 :: a7 :: a8 :: a9 :: a10 :: some (.inr x) :: t) st M := bg_aload X hd rfl kk

theorem bg_istore11 (X : bg_X κ y cc own dd mcc mss) {a0 a1 a2 a3 a4 a5 a6 a7 a8 a9 a10 : Option bg_V} {o : Option bg_V} {x : Int} {t : List (Option bg_V)} (hd : decode cc pc = .ok (.istore 11, 2)) (kk : bg_G κ y cs (pc + 2) (a0 :: a1 :: a2 :: a3 :: a4 :: a5 :: a6 :: a7 :: a8 :: a9 :: a10 :: some (.inl x) :: t) st M) : bg_G κ y cs pc (a0 :: a1 :: a2 :: a3 :: a4 :: a5 :: a6 :: a7 :: a8 :: a9 :: a10 :: o :: t) (.inl x :: st) M := bg_istore (i := 11) X hd (by simp only [List.length_cons]; omega) kk

theorem bg_astore11 (X : bg_X κ y cc own dd mcc mss) {a0 a1 a2 a3 a4 a5 a6 a7 a8 a9 a10 : Option bg_V} {o : Option bg_V} {x : Nat} {t : List (Option bg_V)} (hd : decode cc pc = .ok (.astore 11, 2)) (kk : bg_G κ y cs (pc + 2) (a0 :: a1 :: a2 :: a3 :: a4 :: a5 :: a6 :: a7 :: a8 :: a9 :: a10 :: some (.inr x) :: t) st M) : bg_G κ y cs pc (a0 :: a1 :: a2 :: a3 :: a4 :: a5 :: a6 :: a7 :: a8 :: a9 :: a10 :: o :: t) (.inr x :: st) M := bg_astore (i := 11) X hd (by simp only [List.length_cons]; omega) kk

theorem bg_iinc11 (X : bg_X κ y cc own dd mcc mss) {a0 a1 a2 a3 a4 a5 a6 a7 a8 a9 a10 : Option bg_V} {n x : Int} {t : List (Option bg_V)} (hd : decode cc pc = .ok (.iinc 11 n, 3)) (hr : R32 (x + n)) (kk : bg_G κ y cs (pc + 3) (a0 :: a1 :: a2 :: a3 :: a4 :: a5 :: a6 :: a7 :: a8 :: a9 :: a10 :: some (.inl (x + n)) :: t) st M) : bg_G κ y cs pc (a0 :: a1 :: a2 :: a3 :: a4 :: a5 :: a6 :: a7 :: a8 :: a9 :: a10 :: some (.inl x) :: t) st M := bg_iinc X hd rfl hr kk

theorem bg_iload12 (X : bg_X κ y cc own dd mcc mss) {a0 a1 a2 a3 a4 a5 a6 a7 a8 a9 a10 a11 : Option bg_V} {x : Int} {t : List (Option bg_V)} (hd : decode cc pc = .ok (.iload 12, 2)) (kk : bg_G κ y cs (pc + 2) (a0 :: a1 :: a2 :: a3 :: a4 :: a5 :: a6 :: a7 :: a8 :: a9 :: a10 :: a11 :: some (.inl x) :: t) (.inl x :: st) M) : bg_G κ y cs pc (a0 :: a1 :: a2 :: a3 :: a4 :: a5 :: a6 :: a7 :: a8 :: a9 :: a10 :: a11 :: some (.inl x) :: t) st M := bg_iload X hd rfl kk

theorem bg_aload12 (X : bg_X κ y cc own dd mcc mss) {a0 a1 a2 a3 a4 a5 a6 a7 a8 a9 a10 a11 : Option bg_V} {x : Nat} {t : List (Option bg_V)} (hd : decode cc pc = .ok (.aload 12, 2)) (kk : bg_G κ y cs (pc + 2) (a0 :: a1 :: a2 :: a3 :: a4 :: a5 :: a6 :: a7 :: a8 :: a9 :: a10 :: a11 :: some (.inr x) :: t) (.inr x :: st) M) : bg_G κ y cs pc (a0 :: a1 :: a2 :: a3 :: a4 :: a5 :: a6 :: a7 :: a8 :: a9 :: a10 :: a11 :: some (.inr x) :: t) st M := bg_aload X hd rfl kk

theorem bg_istore12 (X : bg_X κ y cc own dd mcc mss) {a0 a1 a2 a3 a4 a5 a6 a7 a8 a9 a10 a11 : Option bg_V} {o : Option bg_V} {x : Int} {t : List (Option bg_V)} (hd : decode cc pc = .ok (.istore 12, 2)) (kk : bg_G κ y cs (pc + 2) (a0 :: a1 :: a2 :: a3 :: a4 :: a5 :: a6 :: a7 :: a8 :: a9 :: a10 :: a11 :: some (.inl x) :: t) st M) : bg_G κ y cs pc (a0 :: a1 :: a2 :: a3 :: a4 :: a5 :: a6 :: a7 :: a8 :: a9 :: a10 :: a11 :: o :: t) (.inl x :: st) M := bg_istore (i := 12) X hd (by simp only [List.length_cons]; omega) kk

theorem bg_astore12 (X : bg_X κ y cc own dd mcc mss) {a0 a1 a2 a3 a4 a5 a6 a7 a8 a9 a10 a11 : Option bg_V} {o : Option bg_V} {x : Nat} {t : List (Option bg_V)} (hd : decode cc pc = .ok (.astore 12, 2)) (kk : bg_G κ y cs (pc + 2) (a0 :: a1 :: a2 :: a3 :: a4 :: a5 :: a6 :: a7 :: a8 :: a9 :: a10 :: a11 :: some (.inr x) :: t) st M) : bg_G κ y cs pc (a0 :: a1 :: a2 :: a3 :: a4 :: a5 :: a6 :: a7 :: a8 :: a9 :: a10 :: a11 :: o :: t) (.inr x :: st) M := bg_astore (i := 12) X hd (by simp only [List.length_cons]; omega) kk

theorem bg_iinc12 (X : bg_X κ y cc own dd mcc mss) {a0 a1 a2 a3 a4 a5 a6 a7 a8 a9 a10 a11 : Option bg_V} {n x : Int} {t : List (Option bg_V)} (hd : decode cc pc = .ok (.iinc 12 n, 3)) (hr : R32 (x + n)) (kk : bg_G κ y cs (pc + 3) (a0 :: a1 :: a2 :: a3 :: a4 :: a5 :: a6 :: a7 :: a8 :: a9 :: a10 :: a11 :: some (.inl (x + n)) :: t) st M) : bg_G κ y cs pc (a0 :: a1 :: a2 :: a3 :: a4 :: a5 :: a6 :: a7 :: a8 :: a9 :: a10 :: a11 :: some (.inl x) :: t) st M := bg_iinc X hd rfl hr kk

theorem bg_iload13 (X : bg_X κ y cc own dd mcc mss) {a0 a1 a2 a3 a4 a5 a6 a7 a8 a9 a10 a11 a12 : Option bg_V} {x : Int} {t : List (Option bg_V)} (hd : decode cc pc = .ok (.iload 13, 2)) (kk : bg_G κ y cs (pc + 2) (a0 :: a1 :: a2 :: a3 :: a4 :: a5 :: a6 :: a7 :: a8 :: a9 :: a10 :: a11 :: a12 :: some (.inl x) :: t) (.inl x :: st) M) : bg_G κ y cs pc (a0 :: a1 :: a2 :: a3 :: a4 :: a5 :: a6 :: a7 :: a8 :: a9 :: a10 :: a11 :: a12 :: some (.inl x) :: t) st M := bg_iload X hd rfl kk

theorem bg_aload13 (X : bg_X κ y cc own dd mcc mss) {a0 a1 a2 a3 a4 a5 a6 a7 a8 a9 a10 a11 a12 : Option bg_V} {x : Nat} {t : List (Option bg_V)} (hd : decode cc pc = .ok (.aload 13, 2)) (kk : bg_G κ y cs (pc + 2) (a0 :: a1 :: a2 :: a3 :: a4 :: a5 :: a6 :: a7 :: a8 :: a9 :: a10 :: a11 :: a12 :: some (.inr x) :: t) (.inr x :: st) M) : bg_G κ y cs pc (a0 :: a1 :: a2 :: a3 :: a4 :: a5 :: a6 :: a7 :: a8 :: a9 :: a10 :: a11 :: a12 :: some (.inr x) :: t) st M := bg_aload X hd rfl kk

theorem bg_istore13 (X : bg_X κ y cc own dd mcc mss) {a0 a1 a2 a3 a4 a5 a6 a7 a8 a9 a10 a11 a12 : Option bg_V} {o : Option bg_V} {x : Int} {t : List (Option bg_V)} (hd : decode cc pc = .ok (.istore 13, 2)) (kk : bg_G κ y cs (pc + 2) (a0 :: a1 :: a2 :: a3 :: a4 :: a5 :: a6 :: a7 :: a8 :: a9 :: a10 :: a11 :: a12 :: some (.inl x) :: t) st M) : bg_G κ y cs pc (a0 :: a1 :: a2 :: a3 :: a4 :: a5 :: a6 :: a7 :: a8 :: a9 :: a10 :: a11 :: a12 :: o :: t) (.inl x :: st) M := bg_istore (i := 13) X hd (by simp only [List.length_cons]; omega) kk

theorem bg_astore13 (X : bg_X κ y cc own dd mcc mss) {a0 a1 a2 a3 a4 a5 a6 a7 a8 a9 a10 a11 a12 : Option bg_V} {o : Option bg_V} {x : Nat} {t : List (Option bg_V)} (hd : decode cc pc = .ok (.astore 13, 2)) (kk : bg_G κ y cs (pc + 2) (a0 :: a1 :: a2 :: a3 :: a4 :: a5 :: a6 :: a7 :: a8 :: a9 :: a10 :: a11 :: a12 :: some (.inr x) :: t) st M) : bg_G κ y cs pc (a0 :: a1 :: a2 :: a3 :: a4 :: a5 :: a6 :: a7 :: a8 :: a9 :: a10 :: a11 :: a12 :: o :: t) (.inr x :: st) M := bg_astore (i := 13) X hd (by simp only [List.length_cons]; omega) kk

theorem bg_iinc13 (X : bg_X κ y cc own dd mcc mss) {a0 a1 a2 a3 a4 a5 a6 a7 a8 a9 a10 a11 a12 : Option bg_V} {n x : Int} {t : List (Option bg_V)} (hd : decode cc pc = .ok (.iinc 13 n, 3)) (hr : R32 (x + n)) (kk : bg_G κ y cs (pc + 3) (a0 :: a1 :: a2 :: a3 :: a4 :: a5 :: a6 :: a7 :: a8 :: a9 :: a10 :: a11 :: a12 :: some (.inl (x + n)) :: t) st M) : bg_G κ y cs pc (a0 :: a1 :: a2 :: a3 :: a4 :: a5 :: a6 :: a7 :: a8 :: a9 :: a10 :: a11 :: a12 :: some (.inl x) :: t) st M := bg_iinc X hd rfl hr kk

theorem bg_iload14 (X : bg_X κ y cc own dd mcc mss) {a0 a1 a2 a3 a4 a5 a6 a7 a8 a9 a10 a11 a12 a13 : Option bg_V} {x : Int} {t : List (Option bg_V)} (hd : decode cc pc = .ok (.iload 14, 2)) (kk : bg_G κ y cs (pc + 2) (a0 :: a1 :: a2 :: a3 :: a4 :: a5 :: a6 :: a7 :: a8 :: a9 :: a10 :: a11 :: a12 :: a13 :: some (.inl x) :: t) (.inl x :: st) M) : bg_G κ y cs pc (a0 :: a1 :: a2 :: a3 :: a4 :: a5 :: a6 :: a7 :: a8 :: a9 :: a10 :: a11 :: a12 :: a13 :: some (.inl x) :: t) st M := bg_iload X hd rfl kk

theorem bg_aload14 (X : bg_X κ y cc own dd mcc mss) {a0 a1 a2 a3 a4 a5 a6 a7 a8 a9 a10 a11 a12 a13 : Option bg_V} {x : Nat} {t : List (Option bg_V)} (hd : decode cc pc = .ok (.aload 14, 2)) (kk : bg_G κ y cs (pc + 2) (a0 :: a1 :: a2 :: a3 :: a4 :: a5 :: a6 :: a7 :: a8 :: a9 :: a10 :: a11 :: a12 :: a13 :: some (.inr x) :: t) (.inr x :: st) M) : bg_G κ y cs pc (a0 :: a1 :: a2 :: a3 :: a4 :: a5 :: a6 :: a7 :: a8 :: a9 :: a10 :: a11 :: a12 :: a13 :: some (.inr x) :: t) st M := bg_aload X hd rfl kk

theorem bg_istore14 (X : bg_X κ y cc own dd mcc mss) {a0 a1 a2 a3 a4 a5 a6 a7 a8 a9 a10 a11 a12 a13 : Option bg_V} {o : Option bg_V} {x : Int} {t : List (Option bg_V)} (hd : decode cc pc = .ok (.istore 14, 2)) (kk : bg_G κ y cs (pc + 2) (a0 :: a1 :: a2 :: a3 :: a4 :: a5 :: a6 :: a7 :: a8 :: a9 :: a10 :: a11 :: a12 :: a13 :: some (.inl x) :: t) st M) : bg_G κ y cs pc (a0 :: a1 :: a2 :: a3 :: a4 :: a5 :: a6 :: a7 :: a8 :: a9 :: a10 :: a11 :: a12 :: a13 :: o :: t) (.inl x :: st) M := bg_istore (i := 14) X hd (by simp only [List.length_cons]; omega) kk

theorem bg_astore14 (X : bg_X κ y cc own dd mcc mss) {a0 a1 a2 a3 a4 a5 a6 a7 a8 a9 a10 a11 a12 a13 : Option bg_V} {o : Option bg_V} {x : Nat} {t : List (Option bg_V)} (hd : decode cc pc = .ok (.astore 14, 2)) (kk : bg_G κ y cs (pc + 2) (a0 :: a1 :: a2 :: a3 :: a4 :: a5 :: a6 :: a7 :: a8 :: a9 :: a10 :: a11 :: a12 :: a13 :: some (.inr x) :: t) st M) : bg_G κ y cs pc (a0 :: a1 :: a2 :: a3 :: a4 :: a5 :: a6 :: a7 :: a8 :: a9 :: a10 :: a11 :: a12 :: a13 :: o :: t) (.inr x :: st) M := bg_astore (i := 14) X hd (by simp only [List.length_cons]; omega) kk

theorem bg_iinc14 (X : bg_X κ y cc own dd mcc mss) {a0 a1 a2 a3 a4 a5 a6 a7 a8 a9 a10 a11 a12 a13 : Option bg_V} {n x : Int} {t : List (Option bg_V)} (hd : decode cc pc = .ok (.iinc 14 n, 3)) (hr : R32 (x + n)) (kk : bg_G κ y cs (pc + 3) (a0 :: a1 :: a2 :: a3 :: a4 :: a5 :: a6 :: a7 :: a8 :: a9 :: a10 :: a11 :: a12 :: a13 :: some (.inl (x + n)) :: t) st M) : bg_G κ y cs pc (a0 :: a1 :: a2 :: a3 :: a4 :: a5 :: a6 :: a7 :: a8 :: a9 :: a10 :: a11 :: a12 :: a13 :: some (.inl x) :: t) st M := bg_iinc X hd rfl hr kk

theorem bg_iload15 (X : bg_X κ y cc own dd mcc mss) {a0 a1 a2 a3 a4 a5 a6 a7 a8 a9 a10 a11 a12 a13 a14 : Option bg_V} {x : Int} {t : List (Option bg_V)} (hd : decode cc pc = .ok (.iload 15, 2)) (kk : bg_G κ y cs (pc + 2) (a0 :: a1 :: a2 :: a3 :: a4 :: a5 :: a6 :: a7 :: a8 :: a9 :: a10 :: a11 :: a12 :: a13 :: a14 :: some (.inl x) :: t) (.inl x :: st) M) : bg_G κ y cs pc (a0 :: a1 :: a2 :: a3 :: a4 :: a5 :: a6 :: a7 :: a8 :: a9 :: a10 :: a11 :: a12 :: a13 :: a14 :: some (.inl x) :: t) st M := bg_iload X hd rfl kk

theorem bg_aload15 (X : bg_X κ y cc own dd mcc mss) {a0 a1 a2 a3 a4 a5 a6 a7 a8 a9 a10 a11 a12 a13 a14 : Option bg_V} {x : Nat} {t : List (Option bg_V)} (hd : decode cc pc = .ok (.aload 15, 2)) (kk : bg_G κ y cs (pc + 2) (a0 :: a1 :: a2 :: a3 :: a4 :: a5 :: a6 :: a7 :: a8 :: a9 :: a10 :: a11 :: a12 :: a13 :: a14 :: some (.inr x) :: t) (.inr x :: st) M) : bg_G κ y cs pc (a0 :: a1 :: a2 :: a3 :: a4 :: a5 :: a6 :: a7 :: a8 :: a9 :: a10 :: a11 :: a12 :: a13 :: a14 :: some (.inr x) :: t) st M := bg_aload X hd rfl kk

theorem bg_istore15 (X : bg_X κ y cc own dd mcc mss) {a0 a1 a2 a3 a4 a5 a6 a7 a8 a9 a10 a11 a12 a13 a14 : Option bg_V} {o : Option bg_V} {x : Int} {t : List (Option bg_V)} (hd : decode cc pc = .ok (.istore 15, 2)) (kk : bg_G κ y cs (pc + 2) (a0 :: a1 :: a2 :: a3 :: a4 :: a5 :: a6 :: a7 :: a8 :: a9 :: a10 :: a11 :: a12 :: a13 :: a14 :: some (.inl x) :: t) st M) : bg_G κ y cs pc (a0 :: a1 :: a2 :: a3 :: a4 :: a5 :: a6 :: a7 :: a8 :: a9 :: a10 :: a11 :: a12 :: a13 :: a14 :: o :: t) (.inl x :: st) M := bg_istore (i := 15) X hd (by simp only [List.length_cons]; omega) kk

theorem bg_astore15 (X : bg_X κ y cc own dd mcc mss) {a0 a1 a2 a3 a4 a5 a6 a7 a8 a9 a10 a11 a12 a13 a14 : Option bg_V} {o : Option bg_V} {x : Nat} {t : List (Option bg_V)} (hd : decode cc pc = .ok (.astore 15, 2)) (kk : bg_G κ y cs (pc + 2) (a0 :: a1 :: a2 :: a3 :: a4 :: a5 :: a6 :: a7 :: a8 :: a9 :: a10 :: a11 :: a12 :: a13 :: a14 :: some (.inr x) :: t) st M) : bg_G κ y cs pc (a0 :: a1 :: a2 :: a3 :: a4 :: a5 :: a6 :: a7 :: a8 :: a9 :: a10 :: a11 :: a12 :: a13 :: a14 :: o :: t) (.inr x :: st) M := bg_astore (i := 15) X hd (by simp only [List.length_cons]; omega) kk

theorem bg_iinc15 (X : bg_X κ y cc own dd mcc mss) {a0 a1 a2 a3 a4 a5 a6 a7 a8 a9 a10 a11 a12 a13 a14 : Option bg_V} {n x : Int} {t : List (Option bg_V)} (hd : decode cc pc = .ok (.iinc 15 n, 3)) (hr : R32 (x + n)) (kk : bg_G κ y cs (pc + 3) (a0 :: a1 :: a2 :: a3 :: a4 :: a5 :: a6 :: a7 :: a8 :: a9 :: a10 :: a11 :: a12 :: a13 :: a14 :: some (.inl (x + n)) :: t) st M) : bg_G κ y cs pc (a0 :: a1 :: a2 :: a3 :: a4 :: a5 :: a6 :: a7 :: a8 :: a9 :: a10 :: a11 :: a12 :: a13 :: a14 :: some (.inl x) :: t) st M := bg_iinc X hd rfl hr kk

theorem bg_iload16 (X : bg_X κ y cc own dd mcc mss) {a0 a1 a2 a3 a4 a5 a6 a7 a8 a9 a10 a11 a12 a13 a14 a15 : Option bg_V} {x : Int} {t : List (Option bg_V)} (hd : decode cc pc = .ok (.iload 16, 2)) (kk : bg_G κ y cs (pc + 2) (a0 :: a1 :: a2 :: a3 :: a4 :: a5 :: a6 :: a7 :: a8 :: a9 :: a10 :: a11 :: a12 :: a13 :: a14 :: a15 :: some (.inl x) :: t) (.inl x :: st) M) : bg_G κ y cs pc (a0 :: a1 :: a2 :: a3 :: a4 :: a5 :: a6 :: a7 :: a8 :: a9 :: a10 :: a11 :: a12 :: a13 :: a14 :: a15 :: some (.inl x) :: t) st M := bg_iload X hd rfl kk

theorem bg_aload16 (X : bg_X κ y cc own dd mcc mss) {a0 a1 a2 a3 a4 a5 a6 a7 a8 a9 a10 a11 a12 a13 a14 a15 : Option bg_V} {x : Nat} {t : List (Option bg_V)} (hd : decode cc pc = .ok (.aload 16, 2)) (kk : bg_G κ y cs (pc + 2) (a0 :: a1 :: a2 :: a3 :: a4 :: a5 :: a6 :: a7 :: a8 :: a9 :: a10 :: a11 :: a12 :: a13 :: a14 :: a15 :: some (.inr x) :: t) (.inr x :: st) M) : bg_G κ y cs pc (a0 :: a1 :: a2 :: a3 :: a4 :: a5 :: a6 :: a7 :: a8 :: a9 :: a10 :: a11 :: a12 :: a13 :: a14 :: a15 :: some (.inr x) :: t) st M := bg_aload X hd rfl kk

theorem bg_istore16 (X : bg_X κ y cc own dd mcc mss) {a0 a1 a2 a3 a4 a5 a6 a7 a8 a9 a10 a11 a12 a13 a14 a15 : Option bg_V} {o : Option bg_V} {x : Int} {t : List (Option bg_V)} (hd : decode cc pc = .ok (.istore 16, 2)) (kk : bg_G κ y cs (pc + 2) (a0 :: a1 :: a2 :: a3 :: a4 :: a5 :: a6 :: a7 :: a8 :: a9 :: a10 :: a11 :: a12 :: a13 :: a14 :: a15 :: some (.inl x) :: t) st M) : bg_G κ y cs pc (a0 :: a1 :: a2 :: a3 :: a4 :: a5 :: a6 :: a7 :: a8 :: a9 :: a10 :: a11 :: a12 :: a13 :: a14 :: a15 :: o :: t) (.inl x :: st) M := bg_istore (i := 16) X hd (by simp only [List.length_cons]; omega) kk

theorem bg_astore16 (X : bg_X κ y cc own dd mcc mss) {a0 a1 a2 a3 a4 a5 a6 a7 a8 a9 a10 a11 a12 a13 a14 a15 : Option bg_V} {o : Option bg_V} {x : Nat} {t : List (Option bg_V)} (hd : decode cc pc = .ok (.astore 16, 2)) (kk : bg_G κ y cs (pc + 2) (a0 :: a1 :: a2 :: a3 :: a4 :: a5 :: a6 :: a7 :: a8 :: a9 :: a10 :: a11 :: a12 :: a13 :: a14 :: a15 :: some (.inr x) :: t) st M) : bg_G κ y cs pc (a0 :: a1 :: a2 :: a3 :: a4 :: a5 :: a6 :: a7 :: a8 :: a9 :: a10 :: a11 :: a12 :: a13 :: a14 :: a15 :: o :: t) (.inr x :: st) M := bg_astore (i := 16) X hd (by simp only [List.length_cons]; omega) kk

theorem bg_iinc16 (X : bg_X κ y cc own dd mcc mss) {a0 a1 a2 a3 a4 a5 a6 a7 a8 a9 a10 a11 a12 a13 a14 a15 : Option bg_V} {n x : Int} {t : List (Option bg_V)} (hd : decode cc pc = .ok (.iinc 16 n, 3)) (hr : R32 (x + n)) (kk : bg_G κ y cs (pc + 3) (a0 :: a1 :: a2 :: a3 :: a4 :: a5 :: a6 :: a7 :: a8 :: a9 :: a10 :: a11 :: a12 :: a13 :: a14 :: a15 :: some (.inl (x + n)) :: t) st M) : bg_G κ y cs pc (a0 :: a1 :: a2 :: a3 :: a4 :: a5 :: a6 :: a7 :: a8 :: a9 :: a10 :: a11 :: a12 :: a13 :: a14 :: a15 :: some (.inl x) :: t) st M := bg_iinc X hd rfl hr kk

theorem bg_iload17 (X : bg_X κ y cc own dd mcc mss) {a0 a1 a2 a3 a4 a5 a6 a7 a8 a9 a10 a11 a12 a13 a14 a15 a16 : Option bg_V} {x : Int} {t : List (Option bg_V)} (hd : decode cc pc = .ok (.iload 17, 2)) (kk : bg_G κ y cs (pc + 2) (a0 :: a1 :: a2 :: a3 :: a4 :: a5 :: a6 :: a7 :: a8 :: a9 :: a10 :: a11 :: a12 :: a13 :: a14 :: a15 :: a16 :: some (.inl x) :: t) (.inl x :: st) M) : bg_G κ y cs pc (a0 :: a1 :: a2 :: a3 :: a4 :: a5 :: a6 :: a7 :: a8 :: a9 :: a10 :: a11 :: a12 :: a13 :: a14 :: a15 :: a16 :: some (.inl x) :: t) st M := bg_iload X hd rfl kk

theorem bg_aload17 (X : bg_X κ y cc own dd mcc mss) {a0 a1 a2 a3 a4 a5 a6 a7 a8 a9 a10 a11 a12 a13 a14 a15 a16 : Option bg_V} {x : Nat} {t : List (Option bg_V)} (hd : decode cc pc = .ok (.aload 17, 2)) (kk : bg_G κ y cs (pc + 2) (a0 :: a1 :: a2 :: a3 :: a4 :: a5 :: a6 :: a7 :: a8 :: a9 :: a10 :: a11 :: a12 :: a13 :: a14 :: a15 :: a16 :: some (.inr x) :: t) (.inr x :: st) M) : bg_G κ y cs pc (a0 :: a1 :: a2 :: a3 :: a4 :: a5 :: a6 :: a7 :: a8 :: a9 :: a10 :: a11 :: a12 :: a13 :: a14 :: a15 :: a16 :: some (.inr x) :: t) st M := bg_aload X hd rfl kk

theorem bg_istore17 (X : bg_X κ y cc own dd mcc mss) {a0 a1 a2 a3 a4 a5 a6 a7 a8 a9 a10 a11 a12 a13 a14 a15 a16 : Option bg_V} {o : Option bg_V} {x : Int} {t : List (Option bg_V)} (hd : decode cc pc = .ok (.istore 17, 2)) (kk : bg_G κ y cs (pc + 2) (a0 :: a1 :: a2 :: a3 :: a4 :: a5 :: a6 :: a7 :: a8 :: a9 :: a10 :: a11 :: a12 :: a13 :: a14 :: a15 :: a16 :: some (.inl x) :: t) st M) : bg_G κ y cs pc (a0 :: a1 :: a2 :: a3 :: a4 :: a5 :: a6 :: a7 :: a8 :: a9 :: a10 :: a11 :: a12 :: a13 :: a14 :: a15 :: a16 :: o :: t) (.inl x :: st) M := bg_istore (i := 17) X hd (by simp only [List.length_cons]; omega) kk

theorem bg_astore17 (X : bg_X κ y cc own dd mcc mss) {a0 a1 a2 a3 a4 a5 a6 a7 a8 a9 a10 a11 a12 a13 a14 a15 a16 : Option bg_V} {o : Option bg_V} {x : Nat} {t : List (Option bg_V)} (hd : decode cc pc = .ok (.astore 17, 2)) (kk : bg_G κ y cs (pc + 2) (a0 :: a1 :: a2 :: a3 :: a4 :: a5 :: a6 :: a7 :: a8 :: a9 :: a10 :: a11 :: a12 :: a13 :: a14 :: a15 :: a16 :: some (.inr x) :: t) st M) : bg_G κ y cs pc (a0 :: a1 :: a2 :: a3 :: a4 :: a5 :: a6 :: a7 :: a8 :: a9 :: a10 :: a11 :: a12 :: a13 :: a14 :: a15 :: a16 :: o :: t) (.inr x :: st) M := bg_astore (i := 17) X hd (by simp only [List.length_cons]; omega) kk

theorem bg_iinc17 (X : bg_X κ y cc own dd mcc mss) {a0 a1 a2 a3 a4 a5 a6 a7 a8 a9 a10 a11 a12 a13 a14 a15 a16 : Option bg_V} {n x : Int} {t : List (Option bg_V)} (hd : decode cc pc = .ok (.iinc 17 n, 3)) (hr : R32 (x + n)) (kk : bg_G κ y cs (pc + 3) (a0 :: a1 :: a2 :: a3 :: a4 :: a5 :: a6 :: a7 :: a8 :: a9 :: a10 :: a11 :: a12 :: a13 :: a14 :: a15 :: a16 :: some (.inl (x + n)) :: t) st M) : bg_G κ y cs pc (a0 :: a1 :: a2 :: a3 :: a4 :: a5 :: a6 :: a7 :: a8 :: a9 :: a10 :: a11 :: a12 :: a13 :: a14 :: a15 :: a16 :: some (.inl x) :: t) st M := bg_iinc X hd rfl hr kk

theorem bg_iload18 (X : bg_X κ y cc own dd mcc mss) {a0 a1 a2 a3 a4 a5 a6 a7 a8 a9 a10 a11 a12 a13 a14 a15 a16 a17 : Option bg_V} {x : Int} {t : List (Option bg_V)} (hd : decode cc pc = .ok (.iload 18, 2)) (kk : bg_G κ y cs (pc + 2) (a0 :: a1 :: a2 :: a3 :: a4 :: a5 :: a6 :: a7 :: a8 :: a9 :: a10 :: a11 :: a12 :: a13 :: a14 :: a15 :: a16 :: a17 :: some (.inl x) :: t) (.inl x :: st) M) : bg_G κ y cs pc (a0 :: a1 :: a2 :: a3 :: a4 :: a5 :: a6 :: a7 :: a8 :: a9 :: a10 :: a11 :: a12 :: a13 :: a14 :: a15 :: a16 :: a17 :: some (.inl x) :: t) st M := bg_iload X hd rfl kk

theorem bg_aload18 (X : bg_X κ y cc own dd mcc mss) {a0 a1 a2 a3 a4 a5 a6 a7 a8 a9 a10 a11 a12 a13 a14 a15 a16 a17 : Option bg_V} {x : Nat} {t : List (Option bg_V)} (hd : decode cc pc = .ok (.aload 18, 2)) (kk : bg_G κ y cs (pc + 2) (a0 :: a1 :: a2 :: a3 :: a4 :: a5 :: a6 :: a7 :: a8 :: a9 :: a10 :: a11 :: a12 :: a13 :: a14 :: a15 :: a16 :: a17 :: some (.inr x) :: t) (.inr x :: st) M) : bg_G κ y cs pc (a0 :: a1 :: a2 :: a3 :: a4 :: a5 :: a6 :: a7 :: a8 :: a9 :: a10 :: a11 :: a12 :: a13 :: a14 :: a15 :: a16 :: a17 :: some (.inr x) :: t) st M := bg_aload X hd rfl kk

theorem bg_istore18 (X : bg_X κ y cc own dd mcc mss) {a0 a1 a2 a3 a4 a5 a6 a7 a8 a9 a10 a11 a12 a13 a14 a15 a16 a17 : Option bg_V} {o : Option bg_V} {x : Int} {t : List (Option bg_V)} (hd : decode cc pc = .ok (.istore 18, 2)) (kk : bg_G κ y cs (pc + 2) (a0 :: a1 :: a2 :: a3 :: a4 :: a5 :: a6 :: a7 :: a8 :: a9 :: a10 :: a11 :: a12 :: a13 :: a14 :: a15 :: a16 :: a17 :: some (.inl x) :: t) st M) : bg_G κ y cs pc (a0 :: a1 :: a2 :: a3 :: a4 :: a5 :: a6 :: a7 :: a8 :: a9 :: a10 :: a11 :: a12 :: a13 :: a14 :: a15 :: a16 :: a17 :: o :: t) (.inl x :: st) M := bg_istore (i := 18) X hd (by simp only [List.length_cons]; omega) kk

theorem bg_astore18 (X : bg_X κ y cc own dd mcc mss) {a0 a1 a2 a3 a4 a5 a6 a7 a8 a9 a10 a11 a12 a13 a14 a15 a16 a17 : Option bg_V} {o : Option bg_V} {x : Nat} {t : List (Option bg_V)} (hd : decode cc pc = .ok (.astore 18, 2)) (kk : bg_G κ y cs (pc + 2) (a0 :: a1 :: a2 :: a3 :: a4 :: a5 :: a6 :: a7 :: a8 :: a9 :: a10 :: a11 :: a12 :: a13 :: a14 :: a15 :: a16 :: a17 :: some (.inr x) :: t) st M) : bg_G κ y cs pc (a0 :: a1 :: a2 :: a3 :: a4 :: a5 :: a6 :: a7 :: a8 :: a9 :: a10 :: a11 :: a12 :: a13 :: a14 :: a15 :: a16 :: a17 :: o :: t) (.inr x :: st) M := bg_astore (i := 18) X hd (by simp only [List.length_cons]; omega) kk

theorem bg_iinc18 (X : bg_X κ y cc own dd mcc mss) {a0 a1 a2 a3 a4 a5 a6 a7 a8 a9 a10 a11 a12 a13 a14 a15 a16 a17 : Option bg_V} {n x : Int} {t : List (Option bg_V)} (hd : decode cc pc = .ok (.iinc 18 n, 3)) (hr : R32 (x + n)) (kk : bg_G κ y cs (pc + 3) (a0 :: a1 :: a2 :: a3 :: a4 :: a5 :: a6 :: a7 :: a8 :: a9 :: a10 :: a11 :: a12 :: a13 :: a14 :: a15 :: a16 :: a17 :: some (.inl (x + n)) :: t) st M) : bg_G κ y cs pc (a0 :: a1 :: a2 :: a3 :: a4 :: a5 :: a6 :: a7 :: a8 :: a9 :: a10 :: a11 :: a12 :: a13 :: a14 :: a15 :: a16 :: a17 :: some (.inl x) :: t) st M := bg_iinc X hd rfl hr kk

theorem bg_iload19 (X : bg_X κ y cc own dd mcc mss) {a0 a1 a2 a3 a4 a5 a6 a7 a8 a9 a10 a11 a12 a13 a14 a15 a16 a17 a18 : Option bg_V} {x : Int} {t : List (Option bg_V)} (hd : decode cc pc = .ok (.iload 19, 2)) (kk : bg_G κ y cs (pc + 2) (a0 :: a1 :: a2 :: a3 :: a4 :: a5 :: a6 :: a7 :: a8 :: a9 :: a10 :: a11 :: a12 :: a13 :: a14 :: a15 :: a16 :: a17 :: a18 :: some (.inl x) :: t) (.inl x :: st) M) : bg_G κ y cs pc (a0 :: a1 :: a2 :: a3 :: a4 :: a5 :: a6 :: a7 :: a8 :: a9 :: a10 :: a11 :: a12 :: a13 :: a14 :: a15 :: a16 :: a17 :: a18 :: some (.inl x) :: t) st M := bg_iload X hd rfl kk

theorem bg_aload19 (X : bg_X κ y cc own dd mcc mss) {a0 a1 a2 a3 a4 a5 a6 a7 a8 a9 a10 a11 a12 a13 a14 a15 a16 a17 a18 : Option bg_V} {x : Nat} {t : List (Option bg_V)} (hd : decode cc pc = .ok (.aload 19, 2)) (kk : bg_G κ y cs (pc + 2) (a0 :: a1 :: a2 :: a3 :: a4 :: a5 :: a6 :: a7 :: a8 :: a9 :: a10 :: a11 :: a12 :: a13 :: a14 :: a15 :: a16 :: a17 :: a18 :: some (.inr x) :: t) (.inr x :: st) M) : bg_G κ y cs pc (a0 :: a1 :: a2 :: a3 :: a4 :: a5 :: a6 :: a7 :: a8 :: a9 :: a10 :: a11 :: a12 :: a13 :: a14 :: a15 :: a16 :: a17 :: a18 :: some (.inr x) :: t) st M := bg_aload X hd rfl kk

theorem bg_istore19 (X : bg_X κ y cc own dd mcc mss) {a0 a1 a2 a3 a4 a5 a6 a7 a8 a9 a10 a11 a12 a13 a14 a15 a16 a17 a18 : Option bg_V} {o : Option bg_V} {x : Int} {t : List (Option bg_V)} (hd : decode cc pc = .ok (.istore 19, 2)) (kk : bg_G κ y cs (pc + 2) (a0 :: a1 :: a2 :: a3 :: a4 :: a5 :: a6 :: a7 :: a8 :: a9 :: a10 :: a11 :: a12 :: a13 :: a14 :: a15 :: a16 :: a17 :: a18 :: some (.inl x) :: t) st M) : bg_G κ y cs pc (a0 :: a1 :: a2 :: a3 :: a4 :: a5 :: a6 :: a7 :: a8 :: a9 :: a10 :: a11 :: a12 :: a13 :: a14 :: a15 :: a16 :: a17 :: a18 :: o :: t) (.inl x :: st) M := bg_istore (i := 19) X hd (by simp only [List.length_cons]; omega) kk

theorem bg_astore19 (X : bg_X κ y cc own dd mcc mss) {a0 a1 a2 a3 a4 a5 a6 a7 a8 a9 a10 a11 a12 a13 a14 a15 a16 a17 a18 : Option bg_V} {o : Option bg_V} {x : Nat} {t : List (Option bg_V)} (hd : decode cc pc = .ok (.astore 19, 2)) (kk : bg_G κ y cs (pc + 2) (a0 :: a1 :: a2 :: a3 :: a4 :: a5 :: a6 :: a7 :: a8 :: a9 :: a10 :: a11 :: a12 :: a13 :: a14 :: a15 :: a16 :: a17 :: a18 :: some (.inr x) :: t) st M) : bg_G κ y cs pc (a0 :: a1 :: a2 :: a3 :: a4 :: a5 :: a6 :: a7 :: a8 :: a9 :: a10 :: a11 :: a12 :: a13 :: a14 :: a15 :: a16 :: a17 :: a18 :: o :: t) (.inr x :: st) M := bg_astore (i := 19) X hd (by simp only [List.length_cons]; omega) kk

theorem bg_iinc19 (X : bg_X κ y cc own dd mcc mss) {a0 a1 a2 a3 a4 a5 a6 a7 a8 a9 a10 a11 a12 a13 a14 a15 a16 a17 a18 : Option bg_V} {n x : Int} {t : List (Option bg_V)} (hd : decode cc pc = .ok (.iinc 19 n, 3)) (hr : R32 (x + n)) (kk : bg_G κ y cs (pc + 3) (a0 :: a1 :: a2 :: a3 :: a4 :: a5 :: a6 :: a7 :: a8 :: a9 :: a10 :: a11 :: a12 :: a13 :: a14 :: a15 :: a16 :: a17 :: a18 :: some (.inl (x + n)) :: t) st M) : bg_G κ y cs pc (a0 :: a1 :: a2 :: a3 :: a4 :: a5 :: a6 :: a7 :: a8 :: a9 :: a10 :: a11 :: a12 :: a13 :: a14 :: a15 :: a16 :: a17 :: a18 :: some (.inl x) :: t) st M := bg_iinc X hd rfl hr kk

theorem bg_iload20 (X : bg_X κ y cc own dd mcc mss) {a0 a1 a2 a3 a4 a5 a6 a7 a8 a9 a10 a11 a12 a13 a14 a15 a16 a17 a18 a19 : Option bg_V} {x : Int} {t : List (Option bg_V)} (hd : decode cc pc = .ok (.iload 20, 2)) (kk : bg_G κ y cs (pc + 2) (a0 :: a1 :: a2 :: a3 :: a4 :: a5 :: a6 :: a7 :: a8 :: a9 :: a10 :: a11 :: a12 :: a13 :: a14 :: a15 :: a16 :: a17 :: a18 :: a19 :: some (.inl x) :: t) (.inl x :: st) M) : bg_G κ y cs pc (a0 :: a1 :: a2 :: a3 :: a4 :: a5 :: a6 :: a7 :: a8 :: a9 :: a10 :: a11 :: a12 :: a13 :: a14 :: a15 :: a16 :: a17 :: a18 :: a19 :: some (.inl x) :: t) st M := bg_iload X hd rfl kk

theorem bg_aload20 (X : bg_X κ y cc own dd mcc mss) {a0 a1 a2 a3 a4 a5 a6 a7 a8 a9 a10 a11 a12 a13 a14 a15 a16 a17 a18 a19 : Option bg_V} {x : Nat} {t : List (Option bg_V)} (hd : decode cc pc = .ok (.aload 20, 2)) (kk : bg_G κ y cs (pc + 2) (a0 :: a1 :: a2 :: a3 :: a4 :: a5 :: a6 :: a7 :: a8 :: a9 :: a10 :: a11 :: a12 :: a13 :: a14 :: a15 :: a16 :: a17 :: a18 :: a19 :: some (.inr x) :: t) (.inr x :: st) M) : bg_G κ y cs pc (a0 :: a1 :: a2 :: a3 :: a4 :: a5 :: a6 :: a7 :: a8 :: a9 :: a10 :: a11 :: a12 :: a13 :: a14 :: a15 :: a16 :: a17 :: a18 :: a19 :: some (.inr x) :: t) st M := bg_aload X hd rfl kk

theorem bg_istore20 (X : bg_X κ y cc own dd mcc mss) {a0 a1 a2 a3 a4 a5 a6 a7 a8 a9 a10 a11 a12 a13 a14 a15 a16 a17 a18 a19 : Option bg_V} {o : Option bg_V} {x : Int} {t : List (Option bg_V)} (hd : decode cc pc = .ok (.istore 20, 2)) (kk : bg_G κ y cs (pc + 2) (a0 :: a1 :: a2 :: a3 :: a4 :: a5 :: a6 :: a7 :: a8 :: a9 :: a10 :: a11 :: a12 :: a13 :: a14 :: a15 :: a16 :: a17 :: a18 :: a19 :: some (.inl x) :: t) st M) : bg_G κ y cs pc (a0 :: a1 :: a2 :: a3 :: a4 :: a5 :: a6 :: a7 :: a8 :: a9 :: a10 :: a11 :: a12 :: a13 :: a14 :: a15 :: a16 :: a17 :: a18 :: a19 :: o :: t) (.inl x :: st) M := bg_istore (i := 20) X hd (by simp only [List.length_cons]; omega) kk

theorem bg_astore20 (X : bg_X κ y cc own dd mcc mss) {a0 a1 a2 a3 a4 a5 a6 a7 a8 a9 a10 a11 a12 a13 a14 a15 a16 a17 a18 a19 : Option bg_V} {o : Option bg_V} {x : Nat} {t : List (Option bg_V)} (hd : decode cc pc = .ok (.astore 20, 2)) (kk : bg_G κ y cs (pc + 2) (a0 :: a1 :: a2 :: a3 :: a4 :: a5 :: a6 :: a7 :: a8 :: a9 :: a10 :: a11 :: a12 :: a13 :: a14 :: a15 :: a16 :: a17 :: a18 :: a19 :: some (.inr x) :: t) st M) : bg_G κ y cs pc (a0 :: a1 :: a2 :: a3 :: a4 :: a5 :: a6 :: a7 :: a8 :: a9 :: a10 :: a11 :: a12 :: a13 :: a14 :: a15 :: a16 :: a17 :: a18 :: a19 :: o :: t) (.inr x :: st) M := bg_astore (i := 20) X hd (by simp only [List.length_cons]; omega) kk

theorem bg_iinc20 (X : bg_X κ y cc own dd mcc mss) {a0 a1 a2 a3 a4 a5 a6 a7 a8 a9 a10 a11 a12 a13 a14 a15 a16 a17 a18 a19 : Option bg_V} {n x : Int} {t : List (Option bg_V)} (hd : decode cc pc = .ok (.iinc 20 n, 3)) (hr : R32 (x + n)) (kk : bg_G κ y cs (pc + 3) (a0 :: a1 :: a2 :: a3 :: a4 :: a5 :: a6 :: a7 :: a8 :: a9 :: a10 :: a11 :: a12 :: a13 :: a14 :: a15 :: a16 :: a17 :: a18 :: a19 :: some (.inl (x + n)) :: t) st M) : bg_G κ y cs pc (a0 :: a1 :: a2 :: a3 :: a4 :: a5 :: a6 :: a7 :: a8 :: a9 :: a10 :: a11 :: a12 :: a13 :: a14 :: a15 :: a16 :: a17 :: a18 :: a19 :: some (.inl x) :: t) st M := bg_iinc X hd rfl hr kk

theorem bg_iload21 (X : bg_X κ y cc own dd mcc mss) {a0 a1 a2 a3 a4 a5 a6 a7 a8 a9 a10 a11 a12 a13 a14 a15 a16 a17 a18 a19 a20 : Option bg_V} {x : Int} {t : List (Option bg_V)} (hd : decode cc pc = .ok (.iload 21, 2)) (kk : bg_G κ y cs (pc + 2) (a0 :: a1 :: a2 :: a3 :: a4 :: a5 :: a6 :: a7 :: a8 :: a9 :: a10 :: a11 :: a12 :: a13 :: a14 :: a15 :: a16 :: a17 :: a18 :: a19 :: a20 :: some (.inl x) :: t) (.inl x :: st) M) : bg_G κ y cs pc (a0 :: a1 :: a2 :: a3 :: a4 :: a5 :: a6 :: a7 :: a8 :: a9 :: a10 :: a11 :: a12 :: a13 :: a14 :: a15 :: a16 :: a17 :: a18 :: a19 :: a20 :: some (.inl x) :: t) st M := bg_iload X hd rfl kk

theorem bg_aload21 (X : bg_X κ y cc own dd mcc mss) {a0 a1 a2 a3 a4 a5 a6 a7 a8 a9 a10 a11 a12 a13 a14 a15 a16 a17 a18 a19 a20 : Option bg_V} {x : Nat} {t : List (Option bg_V)} (hd : decode cc pc = .ok (.aload 21, 2)) (kk : bg_G κ y cs (pc + 2) (a0 :: a1 :: a2 :: a3 :: a4 :: a5 :: a6 :: a7 :: a8 :: a9 :: a10 :: a11 :: a12 :: a13 :: a14 :: a15 :: a16 :: a17 :: a18 :: a19 :: a20 :: some (.inr x) :: t) (.inr x :: st) M) : bg_G κ y cs pc (a0 :: a1 :: a2 :: a3 :: a4 :: a5 :: a6 :: a7 :: a8 :: a9 :: a10 :: a11 :: a12 :: a13 :: a14 :: a15 :: a16 :: a17 :: a18 :: a19 :: a20 :: some (.inr x) :: t) st M := bg_aload X hd rfl kk

theorem bg_istore21 (X : bg_X κ y cc own dd mcc mss) {a0 a1 a2 a3 a4 a5 a6 a7 a8 a9 a10 a11 a12 a13 a14 a15 a16 a17 a18 a19 a20 : Option bg_V} {o : Option bg_V} {x : Int} {t : List (Option bg_V)} (hd : decode cc pc = .ok (.istore 21, 2)) (kk : bg_G κ y cs (pc + 2) (a0 :: a1 :: a2 :: a3 :: a4 :: a5 :: a6 :: a7 :: a8 :: a9 :: a10 :: a11 :: a12 :: a13 :: a14 :: a15 :: a16 :: a17 :: a18 :: a19 :: a20 :: some (.inl x) :: t) st M) : bg_G κ y cs pc (a0 :: a1 :: a2 :: a3 :: a4 :: a5 :: a6 :: a7 :: a8 :: a9 :: a10 :: a11 :: a12 :: a13 :: a14 :: a15 :: a16 :: a17 :: a18 :: a19 :: a20 :: o :: t) (.inl x :: st) M := bg_istore (i := 21) X hd (by simp only [List.length_cons]; omega) kk

theorem bg_astore21 (X : bg_X κ y cc own dd mcc mss) {a0 a1 a2 a3 a4 a5 a6 a7 a8 a9 a10 a11 a12 a13 a14 a15 a16 a17 a18 a19 a20 : Option bg_V} {o : Option bg_V} {x : Nat} {t : List (Option bg_V)} (hd : decode cc pc = .ok (.astore 21, 2)) (kk : bg_G κ y cs (pc + 2) (a0 :: a1 :: a2 :: a3 :: a4 :: a5 :: a6 :: a7 :: a8 :: a9 :: a10 :: a11 :: a12 :: a13 :: a14 :: a15 :: a16 :: a17 :: a18 :: a19 :: a20 :: some (.inr x) :: t) st M) : bg_G κ y cs pc (a0 :: a1 :: a2 :: a3 :: a4 :: a5 :: a6 :: a7 :: a8 :: a9 :: a10 :: a11 :: a12 :: a13 :: a14 :: a15 :: a16 :: a17 :: a18 :: a19 :: a20 :: o :: t) (.inr x :: st) M := bg_astore (i := 21) X hd (by simp only [List.length_cons]; omega) kk

theorem bg_iinc21 (X : bg_X κ y cc own dd mcc mss) {a0 a1 a2 a3 a4 a5 a6 a7 a8 a9 a10 a11 a12 a13 a14 a15 a16 a17 a18 a19 a20 : Option bg_V} {n x : Int} {t : List (Option bg_V)} (hd : decode cc pc = .ok (.iinc 21 n, 3)) (hr : R32 (x + n)) (kk : bg_G κ y cs (pc + 3) (a0 :: a1 :: a2 :: a3 :: a4 :: a5 :: a6 :: a7 :: a8 :: a9 :: a10 :: a11 :: a12 :: a13 :: a14 :: a15 :: a16 :: a17 :: a18 :: a19 :: a20 :: some (.inl (x + n)) :: t) st M) : bg_G κ y cs pc (a0 :: a1 :: a2 :: a3 :: a4 :: a5 :: a6 :: a7 :: a8 :: a9 :: a10 :: a11 :: a12 :: a13 :: a14 :: a15 :: a16 :: a17 :: a18 :: a19 :: a20 :: some (.inl x) :: t) st M := bg_iinc X hd rfl hr kk

theorem bg_iload22 (X : bg_X κ y cc own dd mcc mss) {a0 a1 a2 a3 a4 a5 a6 a7 a8 a9 a10 a11 a12 a13 a14 a15 a16 a17 a18 a19 a20 a21 : Option bg_V} {x : Int} {t : List (Option bg_V)} (hd : decode cc pc = .ok (.iload 22, 2)) (kk : bg_G κ y cs (pc + 2) (a0 :: a1 :: a2 :: a3 :: a4 :: a5 :: a6 :: a7 :: a8 :: a9 :: a10 :: a11 :: a12 :: a13 :: a14 :: a15 :: a16 :: a17 :: a18 :: a19 :: a20 :: a21 :: some (.inl x) :: t) (.inl x :: st) M) : bg_G κ y cs pc (a0 :: a1 :: a2 :: a3 :: a4 :: a5 :: a6 :: a7 :: a8 :: a9 :: a10 :: a11 :: a12 :: a13 :: a14 :: a15 :: a16 :: a17 :: a18 :: a19 :: a20 :: a21 :: some (.inl x) :: t) st M := bg_iload X hd rfl kk

theorem bg_aload22 (X : bg_X κ y cc own dd mcc mss) {a0 a1 a2 a3 a4 a5 a6 a7 a8 a9 a10 a11 a12 a13 a14 a15 a16 a17 a18 a19 a20 a21 : Option bg_V} {x : Nat} {t : List (Option bg_V)} (hd : decode cc pc = .ok (.aload 22, 2)) (kk : bg_G κ y cs (pc + 2) (a0 :: a1 :: a2 :: a3 :: a4 :: a5 :: a6 :: a7 :: a8 :: a9 :: a10 :: a11 :: a12 :: a13 :: a14 :: a15 :: a16 :: a17 :: a18 :: a19 :: a20 :: a21 :: some (.inr x) :: t) (.inr x :: st) M) : bg_G κ y cs pc (a0 :: a1 :: a2 :: a3 :: a4 :: a5 :: a6 :: a7 :: a8 :: a9 :: a10 :: a11 :: a12 :: a13 :: a14 :: a15 :: a16 :: a17 :: a18 :: a19 :: a20 :: a21 :: some (.inr x) :: t) st M := bg_aload X hd rfl kk

theorem bg_istore22 (X : bg_X κ y cc own dd mcc mss) {a0 a1 a2 a3 a4 a5 a6 a7 a8 a9 a10 a11 a12 a13 a14 a15 a16 a17 a18 a19 a20 a21 : Option bg_V} {o : Option bg_V} {x : Int} {t : List (Option bg_V)} (hd : decode cc pc = .ok (.istore 22, 2)) (kk : bg_G κ y cs (pc + 2) (a0 :: a1 :: a2 :: a3 :: a4 :: a5 :: a6 :: a7 :: a8 :: a9 :: a10 :: a11 :: a12 :: a13 :: a14 :: a15 :: a16 :: a17 :: a18 :: a19 :: a20 :: a21 :: some (.inl x) :: t) st M) : bg_G κ y cs pc (a0 :: a1 :: a2 :: a3 :: a4 :: a5 :: a6 :: a7 :: a8 :: a9 :: a10 :: a11 :: a12 :: a13 :: a14 :: a15 :: a16 :: a17 :: a18 :: a19 :: a20 :: a21 :: o :: t) (.inl x :: st) M := bg_istore (i := 22) X hd (by simp only [List.length_cons]; omega) kk

theorem bg_astore22 (X : bg_X κ y cc own dd mcc mss) {a0 a1 a2 a3 a4 a5 a6 a7 a8 a9 a10 a11 a12 a13 a14 a15 a16 a17 a18 a19 a20 a21 : Option bg_V} {o : Option bg_V} {x : Nat} {t : List (Option bg_V)} (hd : decode cc pc = .ok (.astore 22, 2)) (kk : bg_G κ y cs (pc + 2) (a0 :: a1 :: a2 :: a3 :: a4 :: a5 :: a6 :: a7 :: a8 :: a9 :: a10 :: a11 :: a12 :: a13 :: a14 :: a15 :: a16 :: a17 :: a18 :: a19 :: a20 :: a21 :: some (.inr x) :: t) st M) : bg_G κ y cs pc (a0 :: a1 :: a2 :: a3 :: a4 :: a5 :: a6 :: a7 :: a8 :: a9 :: a10 :: a11 :: a12 :: a13 :: a14 :: a15 :: a16 :: a17 :: a18 :: a19 :: a20 :: a21 :: o :: t) (.inr x :: st) M := bg_astore (i := 22) X hd (by simp only [List.length_cons]; omega) kk

theorem bg_iinc22 (X : bg_X κ y cc own dd mcc mss) {a0 a1 a2 a3 a4 a5 a6 a7 a8 a9 a10 a11 a12 a13 a14 a15 a16 a17 a18 a19 a20 a21 : Option bg_V} {n x : Int} {t : List (Option bg_V)} (hd : decode cc pc = .ok (.iinc 22 n, 3)) (hr : R32 (x + n)) (kk : bg_G κ y cs (pc + 3) (a0 :: a1 :: a2 :: a3 :: a4 :: a5 :: a6 :: a7 :: a8 :: a9 :: a10 :: a11 :: a12 :: a13 :: a14 :: a15 :: a16 :: a17 :: a18 :: a19 :: a20 :: a21 :: some (.inl (x + n)) :: t) st M) : bg_G κ y cs pc (a0 :: a1 :: a2 :: a3 :: a4 :: a5 :: a6 :: a7 :: a8 :: a9 :: a10 :: a11 :: a12 :: a13 :: a14 :: a15 :: a16 :: a17 :: a18 :: a19 :: a20 :: a21 :: some (.inl x) :: t) st M := bg_iinc X hd rfl hr kk

theorem bg_iload23 (X : bg_X κ y cc own dd mcc mss) {a0 a1 a2 a3 a4 a5 a6 a7 a8 a9 a10 a11 a12 a13 a14 a15 a16 a17 a18 a19 a20 a21 a22 : Option bg_V} {x : Int} {t : List (Option bg_V)} (hd : decode cc pc = .ok (.iload 23, 2)) (kk : bg_G κ y cs (pc + 2) (a0 :: a1 :: a2 :: a3 :: a4 :: a5 :: a6 :: a7 :: a8 :: a9 :: a10 :: a11 :: a12 :: a13 :: a14 :: a15 :: a16 :: a17 :: a18 :: a19 :: a20 :: a21 :: a22 :: some (.inl x) :: t) (.inl x :: st) M) : bg_G κ y cs pc (a0 :: a1 :: a2 :: a3 :: a4 :: a5 :: a6 :: a7 :: a8 :: a9 :: a10 :: a11 :: a12 :: a13 :: a14 :: a15 :: a16 :: a17 :: a18 :: a19 :: a20 :: a21 :: a22 :: some (.inl x) :: t) st M := bg_iload X hd rfl kk

theorem bg_aload23 (X : bg_X κ y cc own dd mcc mss) {a0 a1 a2 a3 a4 a5 a6 a7 a8 a9 a10 a11 a12 a13 a14 a15 a16 a17 a18 a19 a20 a21 a22 : Option bg_V} {x : Nat} {t : List (Option bg_V)} (hd : decode cc pc = .ok (.aload 23, 2)) (kk : bg_G κ y cs (pc + 2) (a0 :: a1 :: a2 :: a3 :: a4 :: a5 :: a6 :: a7 :: a8 :: a9 :: a10 :: a11 :: a12 :: a13 :: a14 :: a15 :: a16 :: a17 :: a18 :: a19 :: a20 :: a21 :: a22 :: some (.inr x) :: t) (.inr x :: st) M) : bg_G κ y cs pc (a0 :: a1 :: a2 :: a3 :: a4 :: a5 :: a6 :: a7 :: a8 :: a9 :: a10 :: a11 :: a12 :: a13 :: a14 :: a15 :: a16 :: a17 :: a18 :: a19 :: a20 :: a21 :: a22 :: some (.inr x) :: t) st M := bg_aload X hd rfl kk

theorem bg_istore23 (X : bg_X κ y cc own dd mcc mss) {a0 a1 a2 a3 a4 a5 a6 a7 a8 a9 a10 a11 a12 a13 a14 a15 a16 a17 a18 a19 a20 a21 a22 : Option bg_V} {o : Option bg_V} {x : Int} {t : List (Option bg_V)} (hd : decode cc pc = .ok (.istore 23, 2)) (kk : bg_G κ y cs (pc + 2) (a0 :: a1 :: a2 :: a3 :: a4 :: a5 :: a6 :: a7 :: a8 :: a9 :: a10 :: a11 :: a12 :: a13 :: a14 :: a15 :: a16 :: a17 :: a18 :: a19 :: a20 :: a21 :: a22 :: some (.inl x) :: t) st M) : bg_G κ y cs pc (a0 :: a1 :: a2 :: a3 :: a4 :: a5 :: a6 :: a7 :: a8 :: a9 :: a10 :: a11 :: a12 :: a13 :: a14 :: a15 :: a16 :: a17 :: a18 :: a19 :: a20 :: a21 :: a22 :: o :: t) (.inl x :: st) M := bg_istore (i := 23) X hd (by simp only [List.length_cons]; omega) kk

theorem bg_astore23 (X : bg_X κ y cc own dd mcc mss) {a0 a1 a2 a3 a4 a5 a6 a7 a8 a9 a10 a11 a12 a13 a14 a15 a16 a17 a18 a19 a20 a21 a22 : Option bg_V} {o : Option bg_V} {x : Nat} {t : List (Option bg_V)} (hd : decode cc pc = .ok (.astore 23, 2)) (kk : bg_G κ y cs (pc + 2) (a0 :: a1 :: a2 :: a3 :: a4 :: a5 :: a6 :: a7 :: a8 :: a9 :: a10 :: a11 :: a12 :: a13 :: a14 :: a15 :: a16 :: a17 :: a18 :: a19 :: a20 :: a21 :: a22 :: some (.inr x) :: t) st M) : bg_G κ y cs pc (a0 :: a1 :: a2 :: a3 :: a4 :: a5 :: a6 :: a7 :: a8 :: a9 :: a10 :: a11 :: a12 :: a13 :: a14 :: a15 :: a16 :: a17 :: a18 :: a19 :: a20 :: a21 :: a22 :: o :: t) (.inr x :: st) M := bg_astore (i := 23) X hd (by simp only [List.length_cons]; omega) kk

theorem bg_iinc23 (X : bg_X κ y cc own dd mcc mss) {a0 a1 a2 a3 a4 a5 a6 a7 a8 a9 a10 a11 a12 a13 a14 a15 a16 a17 a18 a19 a20 a21 a22 : Option bg_V} {n x : Int} {t : List (Option bg_V)} (hd : decode cc pc = .ok (.iinc 23 n, 3)) (hr : R32 (x + n)) (kk : bg_G κ y cs (pc + 3) (a0 :: a1 :: a2 :: a3 :: a4 :: a5 :: a6 :: a7 :: a8 :: a9 :: a10 :: a11 :: a12 :: a13 :: a14 :: a15 :: a16 :: a17 :: a18 :: a19 :: a20 :: a21 :: a22 :: some (.inl (x + n)) :: t) st M) : bg_G κ y cs pc (a0 :: a1 :: a2 :: a3 :: a4 :: a5 :: a6 :: a7 :: a8 :: a9 :: a10 :: a11 :: a12 :: a13 :: a14 :: a15 :: a16 :: a17 :: a18 :: a19 :: a20 :: a21 :: a22 :: some (.inl x) :: t) st M := bg_iinc X hd rfl hr kk

end STEPS
