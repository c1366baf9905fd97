def bg_up (g : Nat → Nat → Int) (a k : Nat) (v : Int) : Nat → Nat → Int := fun x j => if x = a ∧ j = k then v else g x j
def bg_upR (r : Nat → Nat → Option Nat) (a k : Nat) (v : Option Nat) : Nat → Nat → Option Nat := fun x j => if x = a ∧ j = k then v else r x j
theorem bg_up_R {g : Nat → Nat → Int} {a k : Nat} {v : Int} (h : ∀ a k, R32 (g a k)) (hv : R32 v) : ∀ x j, R32 (bg_up g a k v x j) := by
  intro x j
  unfold bg_up
  split
  · exact hv
  · exact h x j
theorem bg_up_ne {g : Nat → Nat → Int} {a k x : Nat} {v : Int} (h : x ≠ a) : bg_up g a k v x = g x := by
  funext j
  unfold bg_up
  rw [if_neg (fun e => h e.1)]
theorem bg_upR_ne {g : Nat → Nat → Option Nat} {a k x : Nat} {v : Option Nat} (h : x ≠ a) : bg_upR g a k v x = g x := by
  funext j
  unfold bg_upR
  rw [if_neg (fun e => h e.1)]
def bg_FL (own : String) (idx ci N k : Nat) : Prop := ∃ (C : String) (T : u_T), vwCl[ci]? = some (C, T, N) ∧ k < N ∧ Cond.fieldLink own idx (T k).1 (T k).2.1 (T k).2.2.1 ∈ bg_T
def bg_CL (C : String) (T : u_T) (N : Nat) (ty0 : Nat → FieldType) : Prop := (∀ w ∈ u_ws C T N, w ∈ bg_T) ∧ (∀ k, k < N → parseFieldDescriptor (T k).2.2.1 = some (ty0 k)) ∧ (∀ a, a < N → ∀ b, b < N → a ≠ b → (T a).2.1 ≠ (T b).2.1) ∧ (∀ k, k < N → (T k).1 = C)
def bg_ok (ci : Nat) (ty0 : Nat → FieldType) (T : u_T) (N : Nat) : Bool := (List.range N).all (fun k => (bg_fi ci k == decide (ty0 k = .int)) && (bg_fi ci k == !(T k).2.2.2) && (bg_fi ci k || (ty0 k).isReference))
theorem bg_in0 : ∀ w ∈ u_ws RX0 TX0 4, w ∈ bg_T := by decide +kernel
theorem bg_in1 : ∀ w ∈ u_ws RX1 TX1 3, w ∈ bg_T := by decide +kernel
theorem bg_in2 : ∀ w ∈ u_ws RX2 TX2 6, w ∈ bg_T := by decide +kernel
theorem bg_in3 : ∀ w ∈ u_ws RX3 TX3 7, w ∈ bg_T := by decide +kernel
theorem bg_in4 : ∀ w ∈ u_ws RX4 TX4 4, w ∈ bg_T := by decide +kernel
theorem bg_in5 : ∀ w ∈ u_ws RX5 TX5 5, w ∈ bg_T := by decide +kernel
theorem bg_in6 : ∀ w ∈ u_ws RX6 TX6 9, w ∈ bg_T := by decide +kernel
theorem bg_cls {ci N : Nat} {C : String} {T : u_T} (h : vwCl[ci]? = some (C, T, N)) : ∃ ty0, bg_CL C T N ty0 ∧ bg_ok ci ty0 T N = true := by
  match ci, h with
  | 0, h => cases h; exact ⟨tyX0, ⟨bg_in0, tyX0_ok, nmX0, by decide +kernel⟩, by decide +kernel⟩
  | 1, h => cases h; exact ⟨tyX1, ⟨bg_in1, tyX1_ok, nmX1, by decide +kernel⟩, by decide +kernel⟩
  | 2, h => cases h; exact ⟨tyX2, ⟨bg_in2, tyX2_ok, nmX2, by decide +kernel⟩, by decide +kernel⟩
  | 3, h => cases h; exact ⟨tyX3, ⟨bg_in3, tyX3_ok, nmX3, by decide +kernel⟩, by decide +kernel⟩
  | 4, h => cases h; exact ⟨tyX4, ⟨bg_in4, tyX4_ok, nmX4, by decide +kernel⟩, by decide +kernel⟩
  | 5, h => cases h; exact ⟨tyX5, ⟨bg_in5, tyX5_ok, nmX5, by decide +kernel⟩, by decide +kernel⟩
  | 6, h => cases h; exact ⟨tyX6, ⟨bg_in6, tyX6_ok, nmX6, by decide +kernel⟩, by decide +kernel⟩
  | n + 7, h => simp at h
theorem bg_ci_lt {ci N : Nat} {C : String} {T : u_T} (h : vwCl[ci]? = some (C, T, N)) : ci < 8 := by
  have h1 : ci < 7 := (List.getElem?_eq_some_iff.mp h).1
  omega
theorem bg_kd_lt {a x : Nat} {q : Nat × Nat} (h : bg_kd a = some q) : a < 202 + x := Nat.lt_of_lt_of_le (bg_kd_202 h) (Nat.le_add_right _ _)
theorem bg_fi_int {ci N k : Nat} {T : u_T} {ty0 : Nat → FieldType} (h : bg_ok ci ty0 T N = true) (hk : k < N) (hi : bg_fi ci k = true) : ty0 k = .int ∧ (T k).2.2.2 = false := by
  have h1 := List.all_eq_true.mp h k (List.mem_range.mpr hk)
  rw [hi] at h1
  simpa using h1
theorem bg_fi_ref {ci N k : Nat} {T : u_T} {ty0 : Nat → FieldType} (h : bg_ok ci ty0 T N = true) (hk : k < N) (hi : bg_fi ci k = false) : (T k).2.2.2 = true ∧ (ty0 k).isReference = true := by
  have h1 := List.all_eq_true.mp h k (List.mem_range.mpr hk)
  rw [hi] at h1
  simp at h1
  exact ⟨h1.1.2, h1.2⟩
section MEM
variable {κ : bg_K} {y : bg_Y} {cs : Nat × Nat} {cc : ByteArray} {own : String} {dd mcc mss pc : Nat} {ls : List (Option bg_V)} {st : List bg_V} {n : Nat} {r : Nat → Nat → Option Nat} {g : Nat → Nat → Int}
theorem bg_get (X : bg_X κ y cc own dd mcc mss) {a ci N k idx : Nat} {v : bg_V} (hd : decode cc pc = .ok (.getfield idx, 3)) (hf : bg_FL own idx ci N k) (hk : bg_kd a = some (ci, N)) (ha : a < n) (hv : bg_fv y r g ci a k = bg_v y v) (hvR : (∀ a k, R32 (g a k)) → bg_R v) (kk : bg_G κ y cs (pc + 3) ls (v :: st) (n, r, g)) : bg_G κ y cs pc ls (.inr a :: st) (n, r, g) := by
  intro H locs ar hD hS hL hR
  obtain ⟨hx, hb, hown, hts, hK, hbs, hlk, -⟩ := X
  obtain ⟨C, T, hc, hkN, hlink⟩ := hf
  obtain ⟨ty0, ⟨hin, hty, hnm, -⟩, -⟩ := bg_cls hc
  obtain ⟨cell, q1, q2, q3, q4⟩ := (hD.2.1 a ha ci N (bg_kdd_of hk)).1 (bg_ci_lt hc)
  obtain ⟨hSl, hfc, kC, hkC, hkind⟩ := hK.1.1 ci _ hc
  obtain ⟨cf, kf, fi, f, hi, hsl⟩ := hSl k hkN
  refine W.getf hx hb hown (hts _ hlink) hi (u_facts hfc hkC (u_lays hts hin hkN) hi).1 q1 (by rw [q3]; exact fun h => by cases h) (v := bg_v y v) ?_ rfl rfl hd (kk H locs ar hD hS hL ⟨hvR hD.2.2, hR.2⟩)
  rw [hsl, q4 k hkN, hv]
theorem bg_getI (X : bg_X κ y cc own dd mcc mss) {a ci N k idx : Nat} (hd : decode cc pc = .ok (.getfield idx, 3)) (hf : bg_FL own idx ci N k) (hk : bg_kd a = some (ci, N)) (hi : bg_fi ci k = true) (ha : a < n) (kk : bg_G κ y cs (pc + 3) ls (.inl (g a k) :: st) (n, r, g)) : bg_G κ y cs pc ls (.inr a :: st) (n, r, g) :=
  bg_get X hd hf hk ha (v := .inl (g a k)) (by unfold bg_fv; rw [if_pos hi]; rfl) (fun h => h a k) kk
theorem bg_getR (X : bg_X κ y cc own dd mcc mss) {a ci N k idx b : Nat} (hd : decode cc pc = .ok (.getfield idx, 3)) (hf : bg_FL own idx ci N k) (hk : bg_kd a = some (ci, N)) (hi : bg_fi ci k = false) (ha : a < n) (hr : r a k = some b) (kk : bg_G κ y cs (pc + 3) ls (.inr b :: st) (n, r, g)) : bg_G κ y cs pc ls (.inr a :: st) (n, r, g) :=
  bg_get X hd hf hk ha (v := .inr b) (by unfold bg_fv; rw [if_neg (by rw [hi]; decide), hr]; rfl) (fun _ => trivial) kk
theorem bg_putI (X : bg_X κ y cc own dd mcc mss) {a ci N k idx : Nat} {v : Int} (hd : decode cc pc = .ok (.putfield idx, 3)) (hf : bg_FL own idx ci N k) (hk : bg_kd a = some (ci, N)) (hi : bg_fi ci k = true) (ha : a < n) (kk : bg_G κ y cs (pc + 3) ls st (n, r, bg_up g a k v)) : bg_G κ y cs pc ls (.inl v :: .inr a :: st) (n, r, g) := by
  intro H locs ar hD hS hL hR
  obtain ⟨hx, hb, hown, hts, hK, hbs, hlk, -⟩ := X
  obtain ⟨C, T, hc, hkN, hlink⟩ := hf
  obtain ⟨ty0, ⟨hin, hty, hnm, -⟩, hok⟩ := bg_cls hc
  obtain ⟨hti, hfin⟩ := bg_fi_int hok hkN hi
  have hap := va_apart (own := own) hts hin ty0 hty hnm hK.1 hc
  obtain ⟨cell, q1, q2, q3, q4⟩ := (hD.2.1 a ha ci N (bg_kdd_of hk)).1 (bg_ci_lt hc)
  obtain ⟨hSl, hfc, kC, hkC, hkind⟩ := hK.1.1 ci _ hc
  obtain ⟨cf, kf, fi, f, hif, hsl⟩ := hSl k hkN
  have hlay := hts _ (hin _ (u_in_lay hkN))
  unfold u_lay at hlay
  rw [if_neg (by rw [hfin]; decide)] at hlay
  have hst := (u_facts hfc hkC (u_lays hts hin hkN) hif).1
  have h6 := u_store hfc hkC hkind hlay hif (ty := .int) (v := .int (Int32.ofInt v)) (by rw [hty k hkN, hti]) rfl rfl
  have hvR : R32 v := hR.1
  refine W.putK hx hb (f := f) ⟨hown, hts _ hlink, ⟨_, _, _, hif⟩, hst⟩ (by rw [q2]; exact h6) q1 q3 (by rw [hsl]; exact k2_hasslot (q4 k hkN)) rfl rfl hd fun H' e1 e2 e3 => ?_
  rw [hsl] at e1 ⊢
  refine kk H' _ ar (hD.set (id := a) e2 e3 ?_ (fun _ _ => rfl) (fun i hne => bg_up_ne hne) (bg_up_R hD.2.2 hvR) (bg_kd_ne hk)) (hS.put e2 e3 (Nat.le_add_right _ _)) hL hR.2.2
  intro ci' N' hk'
  cases (bg_kdd_of hk).symm.trans hk'
  refine ⟨fun _ => ?_, fun h8 => absurd (bg_ci_lt hc) (by omega)⟩
  refine t_OB.to (V := updV (bg_fv y r g ci a) k (.int (Int32.ofInt v))) ⟨_, e1, q2, q3, t_set q4 hap hkN _⟩ (fun j hj => ?_)
  unfold updV bg_fv bg_up
  by_cases hjk : j = k
  · subst hjk; simp [hi]
  · simp [hjk]
theorem bg_ialoadD (X : bg_X κ y cc own dd mcc mss) {a N : Nat} {i : Int} (hd : decode cc pc = .ok (.iaload, 1)) (hk : bg_kdd g a = some (8, N)) (ha : a < n) (h0 : 0 ≤ i ∧ i < N) (kk : bg_G κ y cs (pc + 1) ls (.inl (g a i.toNat) :: st) (n, r, g)) : bg_G κ y cs pc ls (.inl i :: .inr a :: st) (n, r, g) := by
  intro H locs ar hD hS hL hR
  obtain ⟨hx, hb, hown, hts, hK, hbs, hlk, -⟩ := X
  have h1 := (hD.2.1 a ha 8 N hk).2 (Nat.le_refl 8)
  have hi : R32 i := hR.1
  have hlt : i.toNat < N := by omega
  have hix := bg_idx hi
  have hin := bg_vpin hi h0.1 h0.2
  refine W.iald (v := .int (Int32.ofInt (g a i.toNat))) hx hb h1 ((hK.1.2 0 _ rfl).1 N (bg_ae y r g 8 a)) (fun q => by cases q) (by show ¬ (Int32.ofInt i < 0 ∨ (arrV _ _ _).slots.size ≤ _); rw [arrV_size]; exact hin) ?_ rfl rfl hd (kk H locs ar hD hS hL ⟨hD.2.2 _ _, hR.2.2⟩)
  rw [hix, arrV_read _ _ hlt]
  rfl
theorem bg_iastoreD (X : bg_X κ y cc own dd mcc mss) {a N : Nat} {i v : Int} (hd : decode cc pc = .ok (.iastore, 1)) (hk : bg_kdd g a = some (8, N)) (hne : a ≠ bg_PZ) (ha : a < n) (h0 : 0 ≤ i ∧ i < N) (kk : bg_G κ y cs (pc + 1) ls st (n, r, bg_up g a i.toNat v)) : bg_G κ y cs pc ls (.inl v :: .inl i :: .inr a :: st) (n, r, g) := by
  intro H locs ar hD hS hL hR
  obtain ⟨hx, hb, hown, hts, hK, hbs, hlk, -⟩ := X
  have h1 := (hD.2.1 a ha 8 N hk).2 (Nat.le_refl 8)
  have hv : R32 v := hR.1
  have hi : R32 i := hR.2.1
  have hix := bg_idx hi
  have hin := bg_vpin hi h0.1 h0.2
  refine W.iast hx hb h1 ((hK.1.2 0 _ rfl).1 N (bg_ae y r g 8 a)) (fun q => by cases q) (by show ¬ (Int32.ofInt i < 0 ∨ (arrV _ _ _).slots.size ≤ _); rw [arrV_size]; exact hin) rfl rfl hd fun H1 e z oq => ?_
  refine kk H1 _ ar (hD.set (id := a) z oq ?_ (fun _ _ => rfl) (fun i hne => bg_up_ne hne) (bg_up_R hD.2.2 hv) hne) (hS.put z oq (Nat.le_add_right _ _)) hL hR.2.2.2
  intro ci' N' hk'
  cases (hk.symm.trans (bg_kdd_P (bg_up_ne (Ne.symm hne))).symm).trans hk'
  refine ⟨fun h8 => absurd h8 (by omega), fun _ => ?_⟩
  rw [e, arrV_store]
  congr 2
  funext j
  unfold updV bg_ae bg_up
  rw [hix]
  by_cases hj : j = i.toNat
  · subst hj; simp
  · simp [hj]
theorem bg_iaload (X : bg_X κ y cc own dd mcc mss) {a N : Nat} {i : Int} (hd : decode cc pc = .ok (.iaload, 1)) (hk : bg_kd a = some (8, N)) (ha : a < n) (h0 : 0 ≤ i ∧ i < N) (kk : bg_G κ y cs (pc + 1) ls (.inl (g a i.toNat) :: st) (n, r, g)) : bg_G κ y cs pc ls (.inl i :: .inr a :: st) (n, r, g) := bg_ialoadD X hd (bg_kdd_of hk) ha h0 kk
theorem bg_iastore (X : bg_X κ y cc own dd mcc mss) {a N : Nat} {i v : Int} (hd : decode cc pc = .ok (.iastore, 1)) (hk : bg_kd a = some (8, N)) (ha : a < n) (h0 : 0 ≤ i ∧ i < N) (kk : bg_G κ y cs (pc + 1) ls st (n, r, bg_up g a i.toNat v)) : bg_G κ y cs pc ls (.inl v :: .inl i :: .inr a :: st) (n, r, g) := bg_iastoreD X hd (bg_kdd_of hk) (bg_kd_ne hk) ha h0 kk
theorem bg_aaload (X : bg_X κ y cc own dd mcc mss) {a ci N b : Nat} {i : Int} (hd : decode cc pc = .ok (.aaload, 1)) (hk : bg_kd a = some (ci, N)) (hc : ci = 9 ∨ ci = 10) (ha : a < n) (h0 : 0 ≤ i ∧ i < N) (hr : r a i.toNat = some b) (kk : bg_G κ y cs (pc + 1) ls (.inr b :: st) (n, r, g)) : bg_G κ y cs pc ls (.inl i :: .inr a :: st) (n, r, g) := by
  intro H locs ar hD hS hL hR
  obtain ⟨hx, hb, hown, hts, hK, hbs, hlk, -⟩ := X
  have h1 := (hD.2.1 a ha ci N (bg_kdd_of hk)).2 (by omega)
  have hi : R32 i := hR.1
  have hlt : i.toNat < N := by omega
  have hix := bg_idx hi
  have hin := bg_vpin hi h0.1 h0.2
  have harr : ∃ ty : FieldType, ArrOfT (bg_s κ) (bg_cA y ci) ty ∧ ty.isReference = true := by
    rcases hc with rfl | rfl
    · exact ⟨_, (hK.1.2 1 _ rfl).1, rfl⟩
    · exact ⟨_, (hK.1.2 2 _ rfl).1, rfl⟩
  obtain ⟨ty, har, href⟩ := harr
  refine W.aald (v := .ref (y.1 + b)) hx hb h1 (har N (bg_ae y r g ci a)) href (fun q => by cases q) (by show ¬ (Int32.ofInt i < 0 ∨ (arrV _ _ _).slots.size ≤ _); rw [arrV_size]; exact hin) ?_ rfl rfl hd (kk H locs ar hD hS hL ⟨trivial, hR.2.2⟩)
  rw [hix, arrV_read _ _ hlt]
  unfold bg_ae
  rw [if_neg (by omega)]
  show some (bg_rv y (r a i.toNat)) = _
  rw [hr]
  rfl
/-- a number out of one of the class's three tables: getstatic, iload_1, iaload -/
theorem bg_stat (X : bg_X κ y cc own dd mcc mss) {idx : Nat} {nm : String} {f : Nat → Int} {i : Int} {o : Option bg_V} {t : List (Option bg_V)} (hd : decode cc pc = .ok (.getstatic idx, 3)) (hd2 : decode cc (pc + 3) = .ok (.iload_n 1, 1)) (hd3 : decode cc (pc + 4) = .ok (.iaload, 1)) (hl : Cond.fieldLink own idx "BoreholeColumns" nm "[I" ∈ bg_T) (hst : bg_KK y (bg_s κ) → bg_ST y nm f (bg_s κ) (bg_s κ).heap) (h0 : 0 ≤ i ∧ i < 5) (hf : R32 (f i.toNat)) (kk : bg_G κ y cs (pc + 5) (o :: some (.inl i) :: t) (.inl (f i.toNat) :: st) (n, r, g)) : bg_G κ y cs pc (o :: some (.inl i) :: t) st (n, r, g) := by
  intro H locs ar hD hS hL hR
  obtain ⟨hx, hb, hown, hts, hK, hbs, hlk, -⟩ := X
  obtain ⟨t1, hZ, hT⟩ := hst hK
  obtain ⟨hl1, hi⟩ := hL.2.2.2 1 (.inl i) rfl
  have hi : R32 i := hi
  have hix := bg_idx hi
  refine va_gets (A := bg_A y) hx hb hZ hS hown (hts _ hl) (fun _ h => h) hd ?_
  refine lv_iload_n hx hb hd2 rfl hl1 ?_
  obtain ⟨cell, c1, c2, c3, c4, c5, c6, c7⟩ := hT
  have hlt : i.toNat < 5 := by omega
  refine W.iald (v := .int (Int32.ofInt (f i.toNat))) hx hb (by rw [hS.2.1 t1 (Array.getElem?_eq_some_iff.mp c1).1 c7]; exact c1) c2 c3 ?_ ?_ rfl rfl hd3 (kk H locs ar hD hS hL ⟨hf, hR⟩)
  · rw [hix]
    rintro (h | h)
    · have := (bg_lt (b := 0) hi (by decide)).mp h; omega
    · omega
  · rw [hix]; exact c6 _ hlt
end MEM
