/-! the making of objects -/
def bg_z (g : Nat → Nat → Int) (n : Nat) : Nat → Nat → Int := fun x j => if x = n then 0 else g x j
def bg_zR (r : Nat → Nat → Option Nat) (n : Nat) : Nat → Nat → Option Nat := fun x j => if x = n then none else r x j
theorem bg_z_at {g : Nat → Nat → Int} {n : Nat} : bg_z g n n = fun _ => 0 := by funext j; simp [bg_z]
theorem bg_zR_at {r : Nat → Nat → Option Nat} {n : Nat} : bg_zR r n n = fun _ => none := by funext j; simp [bg_zR]
theorem bg_z_ne {g : Nat → Nat → Int} {n x : Nat} (h : x ≠ n) : bg_z g n x = g x := by funext j; simp [bg_z, h]
theorem bg_zR_ne {r : Nat → Nat → Option Nat} {n x : Nat} (h : x ≠ n) : bg_zR r n x = r x := by funext j; simp [bg_zR, h]
theorem bg_z_R {g : Nat → Nat → Int} {n : Nat} (h : ∀ a k, R32 (g a k)) : ∀ a k, R32 (bg_z g n a k) := by
  intro a k
  unfold bg_z
  split
  · decide
  · exact h a k
/-- one more cell -/
theorem bg_D.push {y : bg_Y} {n : Nat} {r : Nat → Nat → Option Nat} {g : Nat → Nat → Int} {H H1 : Heap} (h : bg_D y (n, r, g) H) (hs : H1.size = H.size + 1) (oq : ∀ q : Nat, q < H.size → H1[q]? = H[q]?) (ha : bg_at y (bg_zR r n) (bg_z g n) n H1) (hn : n < 202) : bg_D y (n + 1, bg_zR r n, bg_z g n) H1 := by
  obtain ⟨h1, h2, h3⟩ := h
  have h1 : H.size = y.1 + n := h1
  refine ⟨by rw [hs, h1]; rfl, fun i hi => ?_, bg_z_R h3⟩
  have hi : i < n + 1 := hi
  by_cases hid : i = n
  · subst hid; exact ha
  · exact (h2 i (show i < n by omega)).kept (oq _ (by omega)) (bg_zR_ne hid) (bg_z_ne hid) (bg_kdd_lo (by omega))
theorem va_S.new {A : Nat → Prop} {H0 H H1 : Heap} {locs : List Loc} (hS : va_S A H0 H locs) (z : H1.size = H.size + 1) (o : ∀ q : Nat, q < H.size → H1[q]? = H[q]?) : va_S A H0 H1 locs :=
  ⟨Nat.le_trans hS.1 (by omega), fun x h1 h2 => (o x (Nat.lt_of_lt_of_le h1 hS.1)).trans (hS.2.1 x h1 h2), hS.2.2⟩
section NEW
variable {κ : bg_K} {y : bg_Y} {c1 c2 : Nat} {cc : ByteArray} {own : String} {dd mcc mss pc : Nat} {ls : List (Option bg_V)} {st : List bg_V} {n : Nat} {r : Nat → Nat → Option Nat} {g : Nat → Nat → Int}
theorem bg_to {n' d1 d2 : Nat} (h1 : c1 = d1) (h2 : c2 = d2) (h3 : n = n') (kk : bg_G κ y (d1, d2) pc ls st (n', r, g)) : bg_G κ y (c1, c2) pc ls st (n, r, g) := by
  subst h1 h2 h3
  exact kk
theorem bg_new (X : bg_X κ y cc own dd mcc mss) {idx ci N : Nat} {C : String} {T : u_T} (hd : decode cc pc = .ok (.new idx, 3)) (hc : vwCl[ci]? = some (C, T, N)) (hl : Cond.classLink own idx C ∈ bg_T) (hi : Cond.instantiable C N ∈ bg_T) (hini : Cond.initialized C ∈ bg_T) (hk : bg_kd n = some (ci, N)) (h1 : c1 + 1 ≤ mcc) (h2 : c2 + N ≤ mss) (kk : bg_G κ y (c1 + 1, c2 + N) (pc + 3) ls (.inr n :: st) (n + 1, bg_zR r n, bg_z g n)) : bg_G κ y (c1, c2) pc ls st (n, r, g) := by
  intro H locs a hD hS hL hR
  obtain ⟨hx, hb, hown, hts, hK, hbs, hlk, r1, r2, r3, r4⟩ := X
  obtain ⟨ty0, ⟨hin, hty, hnm, -⟩, hok⟩ := bg_cls hc
  have hKn := hK.1.1 ci _ hc
  have hz : H.size = y.1 + n := hD.1
  refine W.newcK hx hb hown (hts _ hl) (hts _ hi) (hts _ hini) rfl hd (Nat.le_trans h1 r3) (Nat.le_trans h2 r4) hKn.2.1 rfl fun H1 kC hkC e1 z1 o1 => ?_
  have hgoal := kk H1 locs a (hD.push z1 o1 ?_ (bg_kd_202 hk)) (hS.new z1 o1) hL ⟨trivial, hR⟩
  · rw [hz]
    exact hgoal
  · intro ci' N' hk'
    cases (bg_kdd_of hk).symm.trans hk'
    refine ⟨fun _ => ?_, fun h8 => absurd (bg_ci_lt hc) (by omega)⟩
    rw [← hz]
    refine (u_born ty0 hts hin hKn hkC e1 hty).to (fun j hj => ?_)
    unfold bg_fv
    rw [bg_z_at, bg_zR_at]
    cases hf : bg_fi ci j with
    | true =>
      rw [if_pos rfl, (bg_fi_int hok hj hf).1]
      rfl
    | false =>
      rw [if_neg (by decide)]
      have hr := (bg_fi_ref hok hj hf).2
      cases hty0 : ty0 j with
      | object C => rfl
      | array t => rfl
      | _ => rw [hty0] at hr; exact absurd hr (by decide)
theorem bg_newI (X : bg_X κ y cc own dd mcc mss) {i : Int} {N : Nat} (hd : decode cc pc = .ok (.newarray .int, 2)) (hi : i = (N : Int)) (hk : bg_kd n = some (8, N)) (hN : N ≤ 100000) (h1 : c1 + 1 ≤ mcc) (h2 : c2 + N ≤ mss) (kk : bg_G κ y (c1 + 1, c2 + N) (pc + 2) ls (.inr n :: st) (n + 1, bg_zR r n, bg_z g n)) : bg_G κ y (c1, c2) pc ls (.inl i :: st) (n, r, g) := by
  intro H locs a hD hS hL hR
  obtain ⟨hx, hb, hown, hts, hK, hbs, hlk, r1, r2, r3, r4⟩ := X
  have hz : H.size = y.1 + n := hD.1
  have hiR : R32 i := hR.1
  have hix := bg_idx hiR
  refine va_newaK (atype := .int) (N := N) hx hb (hts _ qA_int) rfl hd rfl (fun z => by have := (bg_lt (b := 0) hiR (by decide)).mp z; omega) (by rw [hix]; omega) (by show N * 4 ≤ _; omega) (Nat.le_trans h1 r3) (Nat.le_trans h2 r4) rfl fun H1 cA e1 z1 o1 hAr hNm => ?_
  have hcA : cA = bg_cA y 8 := Option.some.inj (hNm.symm.trans (hK.1.2 0 _ rfl).2)
  subst hcA
  have hgoal := kk H1 locs a (hD.push z1 o1 ?_ (bg_kd_202 hk)) (hS.new z1 o1) hL ⟨trivial, hR.2⟩
  · rw [hz]
    exact hgoal
  · intro ci' N' hk'
    cases (bg_kdd_of hk).symm.trans hk'
    refine ⟨fun h8 => absurd h8 (by omega), fun _ => ?_⟩
    rw [← hz, e1]
    congr 2
    funext j
    unfold bg_ae
    rw [bg_z_at, if_pos rfl]
    rfl
theorem bg_newQ (X : bg_X κ y cc own dd mcc mss) {i : Int} {N ci idx : Nat} {C : String} (hd : decode cc pc = .ok (.anewarray idx, 3)) (hl : Cond.classLink own idx C ∈ bg_T) (hc : (ci = 9 ∧ C = "BoreholeColumns$State") ∨ (ci = 10 ∧ C = "BoreholeColumns$Column")) (hi : i = (N : Int)) (hk : bg_kd n = some (ci, N)) (hN : N ≤ 100000) (h1 : c1 + 1 ≤ mcc) (h2 : c2 + N ≤ mss) (kk : bg_G κ y (c1 + 1, c2 + N) (pc + 3) ls (.inr n :: st) (n + 1, bg_zR r n, bg_z g n)) : bg_G κ y (c1, c2) pc ls (.inl i :: st) (n, r, g) := by
  intro H locs a hD hS hL hR
  obtain ⟨hx, hb, hown, hts, hK, hbs, hlk, r1, r2, r3, r4⟩ := X
  have hz : H.size = y.1 + n := hD.1
  have hiR : R32 i := hR.1
  have hix : (Int32.ofInt i).toNatClampNeg = N := by rw [bg_idx hiR]; omega
  have hover : va_AO C (bg_s κ) := by
    rcases hc with ⟨-, rfl⟩ | ⟨-, rfl⟩
    · exact hK.2.2.1.1
    · exact hK.2.2.1.2
  have hnm : ∃ (kA : Class) (comp : ClassId), (bg_s κ).vm.classes[bg_cA y ci]? = some kA ∧ kA.kind = .array comp (.object C) ∧ (bg_s κ).vm.findClass C = some comp ∧ (bg_s κ).vm.findClass ("[" ++ (FieldType.object C).toString) = some (bg_cA y ci) := by
    rcases hc with ⟨rfl, rfl⟩ | ⟨rfl, rfl⟩
    · exact (hK.1.2 1 _ rfl).2
    · exact (hK.1.2 2 _ rfl).2
  refine W.anew hx hb hown (hts _ hl) (va_AO.use hover) rfl hd rfl (fun z => by have := (bg_lt (b := 0) hiR (by decide)).mp z; omega) (by rw [hix]; omega) (Nat.le_trans h1 r3) (by rw [hix]; exact Nat.le_trans h2 r4) fun cA kA comp f1 f2 f3 f4 => ?_
  obtain ⟨-, -, -, -, -, hq⟩ := hnm
  have hcA : cA = bg_cA y ci := Option.some.inj (f1.symm.trans hq)
  subst hcA
  rw [hix]
  generalize hH1 : H.push ({ cls := bg_cA y ci, slots := Array.replicate N .null, vm := .none } : Cell) = H1
  have z1 : H1.size = H.size + 1 := by rw [← hH1, Array.size_push]
  have e1 : H1[H.size]? = some (arrV (bg_cA y ci) N (fun _ => .null)) := by rw [← hH1, Array.getElem?_push_size, ← arrV_new]
  have o1 : ∀ q : Nat, q < H.size → H1[q]? = H[q]? := fun q hq => by rw [← hH1, Array.getElem?_push, if_neg (Nat.ne_of_lt hq)]
  have hgoal := kk H1 locs a (hD.push z1 o1 ?_ (bg_kd_202 hk)) (hS.new z1 o1) hL ⟨trivial, hR.2⟩
  · rw [hz]
    exact hgoal
  · intro ci' N' hk'
    cases (bg_kdd_of hk).symm.trans hk'
    refine ⟨fun h8 => absurd h8 (by omega), fun _ => ?_⟩
    rw [← hz, e1]
    congr 2
    funext j
    unfold bg_ae
    rw [bg_zR_at, if_neg (by omega)]
    rfl
theorem bg_putR (X : bg_X κ y cc own dd mcc mss) {a ci N k idx b : Nat} (hd : decode cc pc = .ok (.putfield idx, 3)) (hf : bg_FL own idx ci N k) (hk : bg_kd a = some (ci, N)) (hi : bg_fi ci k = false) (ha : a < n) (hin2 : κ.2.2.2.2.2.2.2.2.1.name = "<init>") (hC : (vwCl[ci]?).map (fun q => q.1) = some own) (kk : bg_G κ y (c1, c2) (pc + 3) ls st (n, bg_upR r a k (some b), g)) : bg_G κ y (c1, c2) pc ls (.inr b :: .inr a :: st) (n, r, g) := by
  intro H locs ar hD hS hL hR
  obtain ⟨hx, hb, hown, hts, hK, hbs, hlk, -⟩ := X
  obtain ⟨C, T, hc, hkN, hlink⟩ := hf
  have hCo : C = own := by rw [hc] at hC; exact Option.some.inj hC
  subst hCo
  obtain ⟨ty0, ⟨hin, hty, hnm, hdc⟩, hok⟩ := bg_cls hc
  obtain ⟨hfin, href⟩ := bg_fi_ref hok hkN hi
  have hap := va_apart (own := C) hts hin ty0 hty hnm hK.1 hc
  obtain ⟨cell, q1, q2, q3, q4⟩ := (hD.2.1 a ha ci N (bg_kdd_of hk)).1 (bg_ci_lt hc)
  obtain ⟨hSl, hfc, kC, hkC, hkind⟩ := hK.1.1 ci _ hc
  obtain ⟨cf, kf, fi, f, hif, hsl⟩ := hSl k hkN
  have hlay := hts _ (hin _ (u_in_lay hkN))
  unfold u_lay at hlay
  rw [if_pos hfin] at hlay
  have hst := (u_facts hfc hkC (u_lays hts hin hkN) hif).1
  have hcf : (bg_m κ).cls = cf := by
    obtain ⟨_, _, c', _, _, _, -, -, hf', -, -, -, hown2, -⟩ := Cond.laysFinal_spec hlay
    have e1 : c' = cf := by have := hif.symm.trans hf'; simp at this; exact this.1.symm
    have hd0 : (T k).1 = C := hdc k hkN
    rw [hd0] at hown2
    rw [← e1]; exact Option.some.inj (hown.symm.trans hown2)
  have hnf : narrow (ty0 k) (.ref (y.1 + b)) = .ref (y.1 + b) ∧ fits (ty0 k) (.ref (y.1 + b)) = true := by
    cases hty0 : ty0 k with
    | object C => exact ⟨rfl, rfl⟩
    | array t => exact ⟨rfl, rfl⟩
    | _ => rw [hty0] at href; exact absurd href (by decide)
  have h6 := u_fits hfc hkC hkind (Or.inr hlay) hif (hty k hkN) hnf.1 hnf.2
  refine W.putFinK hx hb hown (hts _ hlink) hif hst hcf hin2 (by rw [q2]; exact h6) q1 q3 (by rw [hsl]; exact k2_hasslot (q4 k hkN)) rfl rfl hd fun H' e1 e2 e3 => ?_
  rw [hsl] at e1 ⊢
  refine kk H' _ ar (hD.set (id := a) e2 e3 ?_ (fun i hne => bg_upR_ne hne) (fun _ _ => rfl) hD.2.2 (bg_kd_ne hk)) (hS.put e2 e3 (Nat.le_add_right _ _)) hL hR.2.2
  intro ci' N' hk'
  cases (bg_kdd_of hk).symm.trans hk'
  refine ⟨fun _ => ?_, fun h8 => absurd (bg_ci_lt hc) (by omega)⟩
  refine t_OB.to (V := updV (bg_fv y r g ci a) k (.ref (y.1 + b))) ⟨_, e1, q2, q3, t_set q4 hap hkN _⟩ (fun j hj => ?_)
  unfold updV bg_fv bg_upR
  by_cases hjk : j = k
  · subst hjk; simp [hi, bg_rv, va_rf]
  · simp [hjk]
theorem bg_aast (X : bg_X κ y cc own dd mcc mss) {a ci cb N Nb b : Nat} {i : Int} (hd : decode cc pc = .ok (.aastore, 1)) (hk : bg_kd a = some (ci, N)) (hkb : bg_kd b = some (cb, Nb)) (hc : (ci = 9 ∧ cb = 4) ∨ (ci = 10 ∧ cb = 0)) (ha : a < n) (hbn : b < n) (h0 : 0 ≤ i ∧ i < N) (kk : bg_G κ y (c1, c2) (pc + 1) ls st (n, bg_upR r a i.toNat (some b), g)) : bg_G κ y (c1, c2) pc ls (.inr b :: .inl i :: .inr a :: st) (n, r, g) := by
  intro H locs ar hD hS hL hR
  obtain ⟨hx, hb, hown, hts, hK, hbs, hlk, -⟩ := X
  have g1 := (hD.2.1 a ha ci N (bg_kdd_of hk)).2 (by omega)
  have hi : R32 i := hR.2.1
  have hlt : i.toNat < N := by omega
  have hix := bg_idx hi
  have hin := bg_vpin hi h0.1 h0.2
  have hcell := (hD.2.1 b hbn cb Nb (bg_kdd_of hkb)).1 (by omega)
  have hh : ∃ (q : vw_C) (kA : Class) (comp : ClassId), vwCl[cb]? = some q ∧ (bg_s κ).vm.classes[bg_cA y ci]? = some kA ∧ kA.kind = .array comp (.object q.1) ∧ (bg_s κ).vm.findClass q.1 = some comp := by
    rcases hc with ⟨rfl, rfl⟩ | ⟨rfl, rfl⟩
    · obtain ⟨kA, comp, k1, k2, k3, -⟩ := (hK.1.2 1 _ rfl).2
      exact ⟨_, kA, comp, rfl, k1, k2, k3⟩
    · obtain ⟨kA, comp, k1, k2, k3, -⟩ := (hK.1.2 2 _ rfl).2
      exact ⟨_, kA, comp, rfl, k1, k2, k3⟩
  obtain ⟨q, kA, comp, hq, k1, k2, k3⟩ := hh
  obtain ⟨cellV, v1, v2, v3, -⟩ := hcell
  have hcls := (hK.1.1 cb q hq).2
  have hcomp : comp = y.2.1.1 cb := Option.some.inj (k3.symm.trans hcls.1)
  subst hcomp
  obtain ⟨kC, hkC, -⟩ := hcls.2
  refine W.aast hx hb g1 (fun q h => by cases h) (fun h => by cases h) k1 k2 rfl hkC ⟨fun z => by have := (bg_lt (b := 0) hi (by decide)).mp z; omega, by show _ < (arrV _ _ _).slots.size; rw [arrV_size, hix]; exact hlt⟩ v1 (fun q h => by rw [v3] at h; cases h) (by rw [v2]; exact hkC) (by rw [v2]; exact va_assign hcls) rfl rfl hd fun H1 e z oq => ?_
  refine kk H1 _ ar (hD.set (id := a) z oq ?_ (fun i hne => bg_upR_ne hne) (fun _ _ => rfl) hD.2.2 (bg_kd_ne hk)) (hS.put z oq (Nat.le_add_right _ _)) hL hR.2.2.2
  intro ci' N' hk'
  cases (bg_kdd_of hk).symm.trans hk'
  refine ⟨fun h8 => absurd h8 (by omega), fun _ => ?_⟩
  rw [e, arrV_store]
  congr 2
  funext j
  unfold updV bg_ae bg_upR
  rw [hix]
  by_cases hj : j = i.toNat
  · subst hj
    simp [show ¬ ci = 8 by omega, bg_rv, va_rf]
  · simp [hj, show ¬ ci = 8 by omega]
theorem bg_objI (X : bg_X κ y cc own dd mcc mss) {a idx : Nat} {M : bg_M} (hl : Cond.methodLink own idx Lib.objectInit ∈ bg_T) (hd : decode cc pc = .ok (.invokespecial idx, 3)) (h1 : 1 ≤ dd) (hst : st.length ≤ 8) (kk : bg_G κ y (c1, c2) (pc + 3) ls st M) : bg_G κ y (c1, c2) pc ls (.inr a :: st) M := by
  intro H locs ar hD hS hL hR
  obtain ⟨hx, hb, hown, hts, hK, hbs, hlk, r1, r2, r3, r4⟩ := X
  refine W.objInit hx hb hown (hts _ hl) (hts _ jO_inst) (hts _ jO_code) rfl hL.2.1 rfl hd (Nat.le_trans h1 r1) ?_ (kk H locs ar hD hS hL hR.2)
  have r2 : 44 * dd ≤ κ.2.2.2.1.locals := r2
  show 2 * 0 + ((st.map (bg_v y)).map fun v => v.category).sum + 12 ≤ κ.2.2.2.1.locals
  rw [bg_RS_R]
  omega
theorem bg_callI (X : bg_X κ y cc own dd mcc mss) {d mc ms idx a : Nat} {μ : bg_P} {M : bg_M} {Post : Option bg_V → bg_M → Prop} (hc : bg_S y d mc ms μ [.inr a] M Post) (hm : bg_mB μ 0) (hni : Cond.instanceMethod μ.1 ∈ bg_T) (hnm : μ.1.name = "<init>") (hret : μ.2.2.2 = none) (hl : Cond.methodLink own idx μ.1 ∈ bg_T) (hd : d + 1 ≤ dd) (h1 : c1 + mc ≤ mcc) (h2 : c2 + ms ≤ mss) (hdc : decode cc pc = .ok (.invokespecial idx, 3)) (hst : st.length ≤ 8)
    (kk : ∀ r M', Post r M' → bg_G κ y (c1 + mc, c2 + ms) (pc + 3) ls (r.toList ++ st) M') : bg_G κ y (c1, c2) pc ls (.inr a :: st) M := by
  intro H locs ar hD hS hL hR
  have hB := bg_callB X (d := d) (mc := mc) (ms := ms) hm hl hd
  obtain ⟨hx, hb, hown, hts, hK, hbs, hlk, r1, r2, r3, r4⟩ := X
  have hPre := bg_prePre (κ := κ) (args := [.inr a]) hK hD hS ⟨trivial, trivial⟩
  rw [hret] at hB
  refine bg_after (cs := (c1, c2)) (d := d) (μ := μ) (args := [.inr a]) (Post := Post) hS rfl hL hR.2 (va_runI (As := []) (rest := st.map (bg_v y)) ⟨hx, hb, rfl, hown, hts⟩ (hc _) ⟨hB, hnm, hts _ hni⟩ hPre rfl rfl hL.2.1 rfl ?_ hdc ⟨Nat.le_trans h1 r3, Nat.le_trans h2 r4⟩) kk
  exact lv_room (by rw [bg_RS_R]; exact hst)
end NEW
/-- from a walk of a constructor's body to its contract -/
theorem bg_enterI {y : bg_Y} {d mc ms : Nat} {μ : bg_P} {args : List bg_V} {M : bg_M} {Post : Option bg_V → bg_M → Prop} (hy : plainName μ.1.cls = true) (hlen : args.length ≤ μ.2.2.1)
    (body : ∀ κ : bg_K, bg_Xm κ y μ d mc ms Post → κ.2.2.2.2.2.2.2.2.1.name = μ.1.name → bg_RS args → (∀ a k, R32 (M.2.2 a k)) → bg_G κ y (0, 0) 0 (args.map some ++ List.replicate (μ.2.2.1 - args.length) none) [] M) : bg_S y d mc ms μ args M Post := by
  intro l
  refine Met.ofW (cc := μ.2.1) (maxL := μ.2.2.1) (ret := μ.2.2.2) hy rfl ?_
  intro p e s m args' below meth c s₁ B hml hv
  obtain ⟨rfl, hD, hK, hRS⟩ := hv
  have hts := atoms_spec (ws := bg_ws μ) B.pre
  have hsl : ∀ vs : List bg_V, lg_sl (vs.map (bg_v y)) = vs.map (fun v => Slot.val (bg_v y v)) := by
    intro vs
    induction vs with
    | nil => rfl
    | cons v t ih =>
      show (if (bg_v y v).category = 2 then _ else _) ++ lg_sl (t.map (bg_v y)) = _
      rw [ih, bg_v_cat]
      rfl
  have hlenS : (lg_sl (args.map (bg_v y))).length = args.length := by rw [hsl, List.length_map]
  have hl := lv_entry (args.map (bg_v y)) (n := μ.2.2.1) (by rw [hlenS]; exact hlen)
  have hX : bg_Xm (p, l, e, (headSpec (bg_ws μ) (bg_rm d mc ms)).room, s, m, (args.map (bg_v y)).toArray, below, meth, c, MQ below (bg_post y Post) (args.map (bg_v y)).toArray s mc ms (bg_A y)) y μ d mc ms Post := by
    refine ⟨⟨B.exec, B.bytes, findClass_of_methodNamed B.named, fun w hw => hts w (List.mem_cons_of_mem _ hw), hK, by rw [hD.1]; exact Nat.le_add_right _ _, B.notSynchronized, Nat.le_refl _, Nat.le_refl _, Nat.le_refl _, Nat.le_refl _⟩, B.returns, rfl, fun _ => trivial⟩
  have h0 := body _ hX (name_of_methodNamed B.named B.method).1 hRS hD.2.2
  have ha : bg_L y c (args.map some ++ List.replicate (μ.2.2.1 - args.length) none) ((lg_sl (args.map (bg_v y)) ++ List.replicate (μ.2.2.1 - (lg_sl (args.map (bg_v y))).length) Slot.unset).toArray) := by
    refine ⟨by simp [hlenS], by rw [hml]; simp [hlenS]; omega, hl.2.1, ?_⟩
    intro k v hk
    have hk1 : k < args.length := by
      rcases Nat.lt_or_ge k args.length with h | h
      · exact h
      · rw [List.getElem?_append_right (by simpa using h)] at hk
        have := List.mem_of_getElem? hk
        simp at this
    rw [List.getElem?_append_left (by simpa using hk1), List.getElem?_map] at hk
    have hk2 : args[k]? = some v := by
      cases h : args[k]? with
      | none => rw [h] at hk; simp at hk
      | some w => rw [h] at hk; simp at hk; rw [hk]
    refine ⟨?_, ?_⟩
    · rw [List.getElem?_toArray, List.getElem?_append_left (by rw [hlenS]; exact hk1), hsl, List.getElem?_map, hk2]
      rfl
    · have : ∀ (l : List bg_V) (k : Nat), bg_RS l → l[k]? = some v → bg_R v := by
        intro l
        induction l with
        | nil => intro k _ h; simp at h
        | cons w t ih =>
          intro k hr h
          cases k with
          | zero => simp at h; rw [← h]; exact hr.1
          | succ k => exact ih k hr.2 (by simpa using h)
      exact this args k hRS hk2
  rw [lg_entry_eq]
  exact h0 s.heap [] _ hD va_S.rf ha trivial
