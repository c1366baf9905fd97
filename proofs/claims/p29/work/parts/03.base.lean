abbrev bg_V : Type := Int ⊕ Nat
abbrev bg_M : Type := Nat × (Nat → Nat → Option Nat) × (Nat → Nat → Int)
abbrev bg_Y : Type := Nat × va_G × ClassId × ClassId × ClassId
abbrev bg_K : Type := Program × Launch × Env × Room × State × MethodId × Array Value × List Frame × Method × Code × (State → Prop)
abbrev bg_P : Type := MethodName × ByteArray × Nat × Option FieldType
def bg_A (y : bg_Y) : Nat → Prop := fun q => y.1 ≤ q
abbrev R32 (i : Int) : Prop := -2147483648 ≤ i ∧ i ≤ 2147483647
def bg_R : bg_V → Prop
  | .inl i => R32 i
  | .inr _ => True
def bg_RS : List bg_V → Prop
  | [] => True
  | v :: t => bg_R v ∧ bg_RS t
def bg_v (y : bg_Y) : bg_V → Value
  | .inl i => .int (Int32.ofInt i)
  | .inr a => .ref (y.1 + a)
theorem bg_v_cat (y : bg_Y) (v : bg_V) : (bg_v y v).category = 1 := by cases v <;> rfl
/-- the kinds of the cells in the order in which they are made: code below 8: an object of that class with so many fields; 8: ints; 9: states; 10: columns -/
def bg_kC : List (Nat × Nat) := [(0, 4), (8, 24), (8, 24)]
def bg_kS : List (Nat × Nat) := [(4, 4), (8, 5), (10, 4)] ++ bg_kC ++ bg_kC ++ bg_kC ++ bg_kC ++ [(8, 5)]
def bg_kM : List (Nat × Nat) := [(2, 6), (3, 7)] ++ bg_kC ++ bg_kC ++ [(8, 26), (8, 625), (8, 24), (8, 24), (8, 24), (8, 24)]
def bg_KD : List (Nat × Nat) := [(6, 9)] ++ bg_kS ++ [(1, 3), (9, 6)] ++ bg_kS ++ bg_kS ++ bg_kS ++ bg_kS ++ bg_kS ++ bg_kS ++ [(9, 2)] ++ bg_kS ++ bg_kS ++ [(5, 5), (8, 100)] ++ bg_kC ++ bg_kC ++ bg_kM ++ bg_kM ++ bg_kM ++ [(8, 18), (8, 48), (8, 49), (8, 44)]
def bg_kd (id : Nat) : Option (Nat × Nat) := bg_KD[id]?
/-- where the numbers of what is made on the way are kept: no cell; place 0: how many; place id: how long -/
def bg_PZ : Nat := 1000000000000
def bg_kdd (g : Nat → Nat → Int) (id : Nat) : Option (Nat × Nat) := match bg_kd id with
  | some p => some p
  | none => if 202 ≤ id then some (8, (g bg_PZ id).toNat) else none
theorem bg_kdd_of {g : Nat → Nat → Int} {id : Nat} {p : Nat × Nat} (h : bg_kd id = some p) : bg_kdd g id = some p := by
  unfold bg_kdd
  rw [h]
theorem bg_kd_202 {a : Nat} {q : Nat × Nat} (h : bg_kd a = some q) : a < 202 := (List.getElem?_eq_some_iff.mp h).1
theorem bg_kd_some {a : Nat} (h : a < 202) : ∃ q, bg_kd a = some q := ⟨_, List.getElem?_eq_getElem (show a < bg_KD.length from h)⟩
theorem bg_kd_ne {a : Nat} {q : Nat × Nat} (h : bg_kd a = some q) : a ≠ bg_PZ := by
  have := bg_kd_202 h
  unfold bg_PZ
  omega
theorem bg_kdd_lo {g g' : Nat → Nat → Int} {a : Nat} (h : a < 202) : bg_kdd g' a = bg_kdd g a := by
  obtain ⟨q, hq⟩ := bg_kd_some h
  rw [bg_kdd_of hq, bg_kdd_of hq]
theorem bg_kdd_P {g g' : Nat → Nat → Int} {a : Nat} (h : g' bg_PZ = g bg_PZ) : bg_kdd g' a = bg_kdd g a := by
  unfold bg_kdd
  rw [h]
theorem bg_kdD {g : Nat → Nat → Int} {a N : Nat} (h : 202 ≤ a) (hN : g bg_PZ a = (N : Int)) : bg_kdd g a = some (8, N) := by
  have hn : bg_kd a = none := List.getElem?_eq_none (show bg_KD.length ≤ a from h)
  unfold bg_kdd
  rw [hn, hN]
  simp [h]
def bg_fi : Nat → Nat → Bool
  | 0, 0 => true
  | 0, 1 => true
  | 1, 1 => true
  | 1, 2 => true
  | 2, 5 => true
  | 3, 3 => true
  | 3, 4 => true
  | 3, 5 => true
  | 4, 1 => true
  | 5, 1 => true
  | 5, 2 => true
  | 5, 3 => true
  | 6, 3 => true
  | 7, 4 => true
  | 7, 5 => true
  | 7, 7 => true
  | 7, 9 => true
  | 7, 10 => true
  | 7, 11 => true
  | 7, 19 => true
  | 7, 20 => true
  | _, _ => false
def bg_rv (y : bg_Y) (r : Option Nat) : Value := va_rf (r.map fun a => y.1 + a)
def bg_fv (y : bg_Y) (r : Nat → Nat → Option Nat) (g : Nat → Nat → Int) (ci id k : Nat) : Value := if bg_fi ci k = true then .int (Int32.ofInt (g id k)) else bg_rv y (r id k)
def bg_cA (y : bg_Y) (code : Nat) : ClassId := if code = 8 then y.2.2.1 else if code = 9 then y.2.2.2.1 else y.2.2.2.2
def bg_ae (y : bg_Y) (r : Nat → Nat → Option Nat) (g : Nat → Nat → Int) (code id : Nat) : Nat → Value := fun j => if code = 8 then .int (Int32.ofInt (g id j)) else bg_rv y (r id j)
def bg_at (y : bg_Y) (r : Nat → Nat → Option Nat) (g : Nat → Nat → Int) (id : Nat) (H : Heap) : Prop := ∀ ci N, bg_kdd g id = some (ci, N) → (ci < 8 → t_OB (y.1 + id) (y.2.1.1 ci) N (y.2.1.2 ci) H (bg_fv y r g ci id)) ∧ (8 ≤ ci → H[y.1 + id]? = some (arrV (bg_cA y ci) N (bg_ae y r g ci id)))
def bg_D (y : bg_Y) (M : bg_M) (H : Heap) : Prop := H.size = y.1 + M.1 ∧ (∀ id, id < M.1 → bg_at y M.2.1 M.2.2 id H) ∧ ∀ a k, R32 (M.2.2 a k)
theorem bg_at.kept {y : bg_Y} {r r' : Nat → Nat → Option Nat} {g g' : Nat → Nat → Int} {id : Nat} {H H1 : Heap} (h : bg_at y r g id H) (hq : H1[y.1 + id]? = H[y.1 + id]?) (hr : r' id = r id) (hg : g' id = g id) (hkd : bg_kdd g' id = bg_kdd g id) : bg_at y r' g' id H1 := by
  intro ci N hk
  obtain ⟨h1, h2⟩ := h ci N (hkd ▸ hk)
  refine ⟨fun hc => ?_, fun hc => ?_⟩
  · refine ((h1 hc).kept hq).to (fun k _ => ?_)
    unfold bg_fv
    rw [hr, hg]
  · rw [hq, h2 hc]
    unfold bg_ae
    rw [hr, hg]
theorem bg_D.set {y : bg_Y} {n : Nat} {r r' : Nat → Nat → Option Nat} {g g' : Nat → Nat → Int} {id : Nat} {H H1 : Heap} (h : bg_D y (n, r, g) H) (hs : H1.size = H.size) (oq : ∀ q : Nat, q ≠ y.1 + id → H1[q]? = H[q]?) (ha : bg_at y r' g' id H1) (hr : ∀ i, i ≠ id → r' i = r i) (hg : ∀ i, i ≠ id → g' i = g i) (hR : ∀ a k, R32 (g' a k)) (hne : id ≠ bg_PZ) : bg_D y (n, r', g') H1 := by
  obtain ⟨h1, h2, h3⟩ := h
  refine ⟨by rw [hs]; exact h1, fun i hi => ?_, hR⟩
  by_cases hid : i = id
  · subst hid; exact ha
  · exact (h2 i hi).kept (oq _ (by omega)) (hr i hid) (hg i hid) (bg_kdd_P (hg bg_PZ (Ne.symm hne)))
def bg_NW : List Cond := tables_1.filter (fun w => match w with
  | .methodLinkNest .. => true
  | .fieldLinkNest .. => true
  | _ => false)
theorem bg_NW_onTables : ∀ w ∈ bg_NW, w.onTables = true := by decide +kernel
theorem bg_NW_warm {w : Cond} (h : w ∈ bg_NW) {s U : State} (hW : s.WarmedH U.vm) (hZ : va_Nw w s) : va_Nw w U := by
  have h2 := (List.mem_filter.mp h).2
  cases w <;> first | (simp at h2; done) | exact va_Nw.warmM hW hZ | exact va_Nw.warmF hW hZ
def bg_first : Nat → Int
  | 0 => 10
  | 1 => 6
  | 2 => 1
  | 3 => 3
  | _ => 5
def bg_least : Nat → Int
  | 0 => 1
  | 1 => 1
  | 2 => 0
  | 3 => 1
  | _ => 1
def bg_most : Nat → Int
  | 0 => 99
  | 1 => 99
  | 2 => 9
  | 3 => 8
  | _ => 999
def bg_ST (y : bg_Y) (n : String) (f : Nat → Int) (U : State) (H : Heap) : Prop := ∃ t : Nat, va_Z "BoreholeColumns" n "[I" (.ref t) (bg_A y) U H ∧ va_T .int t 5 (fun j => .int (Int32.ofInt (f j))) (bg_A y) U H
def bg_tys (y : bg_Y) : List (ClassId × FieldType) := [(y.2.2.1, .int), (y.2.2.2.1, .object "BoreholeColumns$State"), (y.2.2.2.2, .object "BoreholeColumns$Column")]
def bg_KK (y : bg_Y) (U : State) : Prop := va_K y.2.1 vwCl (bg_tys y) U ∧ (∀ w ∈ bg_NW, va_Nw w U) ∧ (va_AO "BoreholeColumns$State" U ∧ va_AO "BoreholeColumns$Column" U) ∧ bg_ST y "FIRST_NUMBERS" bg_first U U.heap ∧ bg_ST y "LEAST_NUMBERS" bg_least U U.heap ∧ bg_ST y "GREATEST_NUMBERS" bg_most U U.heap
theorem bg_ST.moved {y : bg_Y} {n : String} {f : Nat → Int} {s U : State} {H H1 : Heap} (h : bg_ST y n f s H) (hvm : s.vm.Alike U.vm) (hq : ∀ a : Nat, a < H.size → ¬ bg_A y a → H1[a]? = H[a]?) : bg_ST y n f U H1 := by
  obtain ⟨t, h1, h2⟩ := h
  exact ⟨t, (h1.kept hq).moved hvm, (h2.kept hq).moved hvm⟩
theorem bg_KK.moved {y : bg_Y} {s U : State} (h : bg_KK y s) (hW : s.WarmedH U.vm) (hq : ∀ a : Nat, a < s.heap.size → ¬ bg_A y a → U.heap[a]? = s.heap[a]?) : bg_KK y U := by
  obtain ⟨h1, h2, ⟨h3, h4⟩, h5, h6, h7⟩ := h
  exact ⟨va_K.moved hW.alike h1, fun w hw => bg_NW_warm hw hW (h2 w hw), ⟨va_AO.moved hW.alike h3, va_AO.moved hW.alike h4⟩, h5.moved hW.alike hq, h6.moved hW.alike hq, h7.moved hW.alike hq⟩
theorem bg_KK.blind {y : bg_Y} {a : Array Value} {U : State} {g : JFrame} {mk : MethodId} (h : bg_KK y U) : bg_KK y (U.calling g mk a) := by
  obtain ⟨h1, h2, ⟨h3, h4⟩, h5, h6, h7⟩ := h
  have hvm : U.vm.Alike (U.calling g mk a).vm := Vm.Alike.refl U.vm
  exact ⟨va_K.moved hvm h1, fun w hw => va_Nw.same (bg_NW_onTables w hw) (rfl : U.vm = (U.calling g mk a).vm) (h2 w hw), ⟨va_AO.moved hvm h3, va_AO.moved hvm h4⟩, h5.moved hvm (fun _ _ _ => rfl), h6.moved hvm (fun _ _ _ => rfl), h7.moved hvm (fun _ _ _ => rfl)⟩
abbrev bg_W (κ : bg_K) (cs : Nat × Nat) (H : Heap) (locs : List Loc) (g : JFrame) : Prop := W κ.1 κ.2.1 κ.2.2.1 κ.2.2.2.1 κ.2.2.2.2.1 κ.2.2.2.2.2.1 κ.2.2.2.2.2.2.1 κ.2.2.2.2.2.2.2.1 κ.2.2.2.2.2.2.2.2.1 κ.2.2.2.2.2.2.2.2.2.1 H locs cs.1 cs.2 κ.2.2.2.2.2.2.2.2.2.2 g
abbrev bg_s (κ : bg_K) : State := κ.2.2.2.2.1
abbrev bg_m (κ : bg_K) : MethodId := κ.2.2.2.2.2.1
abbrev bg_c (κ : bg_K) : Code := κ.2.2.2.2.2.2.2.2.2.1
abbrev bg_Rm (κ : bg_K) : Room := κ.2.2.2.1
def bg_X (κ : bg_K) (y : bg_Y) (cc : ByteArray) (own : String) (dd mcc mss : Nat) : Prop :=
  κ.1.tables.exec = Jvm.exec ∧ (bg_c κ).code = cc ∧ (bg_s κ).vm.findClass own = some (bg_m κ).cls ∧ (∀ w ∈ bg_T, w.before κ.2.2.2.2.2.2.1 (bg_s κ) = true) ∧ bg_KK y (bg_s κ) ∧ y.1 ≤ (bg_s κ).heap.size ∧ κ.2.2.2.2.2.2.2.2.1.locks = false ∧
  dd ≤ (bg_Rm κ).frames ∧ 44 * dd ≤ (bg_Rm κ).locals ∧ mcc ≤ (bg_Rm κ).cells ∧ mss ≤ (bg_Rm κ).slots
/-- the locals -/
def bg_L (y : bg_Y) (c : Code) (ls : List (Option bg_V)) (a : Array Slot) : Prop := a.size = ls.length ∧ a.size = c.maxLocals ∧ lv_wf a ∧ ∀ (k : Nat) (v : bg_V), ls[k]? = some (some v) → a[k]? = some (Slot.val (bg_v y v)) ∧ bg_R v
def bg_G (κ : bg_K) (y : bg_Y) (cs : Nat × Nat) (pc : Nat) (ls : List (Option bg_V)) (st : List bg_V) (M : bg_M) : Prop :=
  ∀ (H : Heap) (locs : List Loc) (a : Array Slot), bg_D y M H → va_S (bg_A y) (bg_s κ).heap H locs → bg_L y (bg_c κ) ls a → bg_RS st → bg_W κ cs H locs (F0 (bg_m κ) pc a (st.map (bg_v y)))
def bg_al (y : bg_Y) : Nat → List (Option bg_V) → List (Nat × Value)
  | _, [] => []
  | i, none :: t => bg_al y (i + 1) t
  | i, some v :: t => (i, bg_v y v) :: bg_al y (i + 1) t
theorem bg_al_mem (y : bg_Y) : ∀ (ls : List (Option bg_V)) (i : Nat) (q : Nat × Value), q ∈ bg_al y i ls ↔ ∃ j v, q = (i + j, bg_v y v) ∧ ls[j]? = some (some v)
  | [], i, q => by simp [bg_al]
  | none :: t, i, q => by
    rw [bg_al, bg_al_mem y t]
    constructor
    · rintro ⟨j, v, rfl, h⟩
      exact ⟨j + 1, v, by rw [show i + 1 + j = i + (j + 1) by omega], by simpa using h⟩
    · rintro ⟨j, v, rfl, h⟩
      cases j with
      | zero => simp at h
      | succ j => exact ⟨j, v, by rw [show i + 1 + j = i + (j + 1) by omega], by simpa using h⟩
  | some w :: t, i, q => by
    rw [bg_al, List.mem_cons, bg_al_mem y t]
    constructor
    · rintro (rfl | ⟨j, v, rfl, h⟩)
      · exact ⟨0, w, rfl, by simp⟩
      · exact ⟨j + 1, v, by rw [show i + 1 + j = i + (j + 1) by omega], by simpa using h⟩
    · rintro ⟨j, v, rfl, h⟩
      cases j with
      | zero => simp at h; subst h; exact Or.inl rfl
      | succ j => exact Or.inr ⟨j, v, by rw [show i + 1 + j = i + (j + 1) by omega], by simpa using h⟩
theorem bg_L.has {y : bg_Y} {c : Code} {ls : List (Option bg_V)} {a : Array Slot} (h : bg_L y c ls a) : lv_has a ls.length (bg_al y 0 ls) := by
  obtain ⟨h1, h2, h3, h4⟩ := h
  refine ⟨h1, h3, fun q hq => ?_⟩
  obtain ⟨j, v, rfl, hj⟩ := (bg_al_mem y ls 0 q).mp hq
  simp only [Nat.zero_add]
  exact (h4 j v hj).1
theorem bg_L.set {y : bg_Y} {c : Code} {ls : List (Option bg_V)} {a a' : Array Slot} {i : Nat} {v : bg_V} (h : bg_L y c ls a) (hi : i < ls.length) (hv : bg_R v)
    (h' : lv_has a' ls.length ((i, bg_v y v) :: (bg_al y 0 ls).filter (fun q => !(q.1 == i) && !(q.1 + 1 == i && q.2.category == 2)))) : bg_L y c (ls.set i (some v)) a' := by
  obtain ⟨h1, h2, h3, h4⟩ := h
  obtain ⟨g1, g2, g3⟩ := h'
  refine ⟨by rw [g1, List.length_set], by rw [g1, ← h1, h2], g2, fun k w hk => ?_⟩
  by_cases hki : k = i
  · subst hki
    rw [List.getElem?_set_self hi] at hk
    cases hk
    exact ⟨g3 _ List.mem_cons_self, hv⟩
  · rw [List.getElem?_set_ne (Ne.symm hki)] at hk
    refine ⟨g3 (k, bg_v y w) (List.mem_cons_of_mem _ (List.mem_filter.mpr ⟨(bg_al_mem y ls 0 _).mpr ⟨k, w, by simp, hk⟩, ?_⟩)), (h4 k w hk).2⟩
    simp [hki, bg_v_cat]
theorem bg_L.sub {y : bg_Y} {c : Code} {ls ls' : List (Option bg_V)} {a : Array Slot} (h : bg_L y c ls a) (hl : ls'.length = ls.length) (hs : ∀ (k : Nat) (v : bg_V), ls'[k]? = some (some v) → ls[k]? = some (some v)) : bg_L y c ls' a :=
  ⟨by rw [hl]; exact h.1, h.2.1, h.2.2.1, fun k v hk => h.2.2.2 k v (hs k v hk)⟩
/-- int arithmetic with the machine's wrap-around -/
def bg_wr (i : Int) : Int := (Int32.ofInt i).toInt
theorem bg_wr_id {i : Int} (h : R32 i) : bg_wr i = i := Int32.toInt_ofInt_of_le (by omega) (by omega)
theorem bg_toInt {i : Int} (h : R32 i) : (Int32.ofInt i).toInt = i := bg_wr_id h
theorem bg_R_toInt (x : Int32) : R32 x.toInt := ⟨by have := x.le_toInt; omega, by have := x.toInt_lt; omega⟩
theorem bg_wr_R (i : Int) : R32 (bg_wr i) := bg_R_toInt _
theorem bg_wr_of (i : Int) : Int32.ofInt (bg_wr i) = Int32.ofInt i := Int32.ofInt_toInt _
theorem bg_lt {a b : Int} (ha : R32 a) (hb : R32 b) : Int32.ofInt a < Int32.ofInt b ↔ a < b := by rw [Int32.lt_iff_toInt_lt, bg_toInt ha, bg_toInt hb]
theorem bg_le {a b : Int} (ha : R32 a) (hb : R32 b) : Int32.ofInt a ≤ Int32.ofInt b ↔ a ≤ b := by rw [Int32.le_iff_toInt_le, bg_toInt ha, bg_toInt hb]
theorem bg_eq {a b : Int} (ha : R32 a) (hb : R32 b) : Int32.ofInt a = Int32.ofInt b ↔ a = b := by rw [← Int32.toInt_inj, bg_toInt ha, bg_toInt hb]
theorem bg_idx {a : Int} (ha : R32 a) : (Int32.ofInt a).toNatClampNeg = a.toNat := by
  rw [← Int32.toNat_toInt, bg_toInt ha]
theorem bg_vpin {a : Int} {n : Nat} (ha : R32 a) (h0 : 0 ≤ a) (hn : a < n) : vp_in (Int32.ofInt a) n := by
  unfold vp_in
  rw [bg_idx ha]
  rintro (h | h)
  · have := (bg_lt (b := 0) ha (by decide)).mp h; omega
  · omega
def bg_band (a b : Int) : Int := (Int32.ofInt a &&& Int32.ofInt b).toInt
def bg_bor (a b : Int) : Int := (Int32.ofInt a ||| Int32.ofInt b).toInt
def bg_bxor (a b : Int) : Int := (Int32.ofInt a ^^^ Int32.ofInt b).toInt
def bg_shl (a b : Int) : Int := (Int32.ofInt a <<< (Int32.ofInt b &&& 31)).toInt
def bg_shr (a b : Int) : Int := (Int32.ofInt a >>> (Int32.ofInt b &&& 31)).toInt
def bg_ushr (a b : Int) : Int := ((Int32.ofInt a).toUInt32 >>> ((Int32.ofInt b).toUInt32 &&& Int32.toUInt32 31)).toInt32.toInt
