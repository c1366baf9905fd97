/-! the law: a column behind a cut; how thick a column is in all -/
theorem app_get {L : bm_Q} {p : Int × Int} (k : Nat) : (L ++ [p]).getD k (0, 0) = if k < L.length then L.getD k (0, 0) else if k = L.length then p else (0, 0) := by
  rw [List.getD_eq_getElem?_getD]
  by_cases h1 : k < L.length
  · rw [if_pos h1, List.getElem?_append_left h1, List.getD_eq_getElem?_getD]
  · rw [if_neg h1, List.getElem?_append_right (by omega)]
    by_cases h2 : k = L.length
    · rw [if_pos h2, h2, Nat.sub_self]; rfl
    · rw [if_neg h2, show k - L.length = (k - L.length - 1) + 1 by omega]; rfl
theorem prt_le (q : bm_Q) (fr to : Int) : ∀ n, (prt q fr to n).length ≤ n
  | 0 => Nat.le_refl _
  | n + 1 => by
    have := prt_le q fr to n
    rw [prt, List.length_append]
    split
    · rw [List.length_singleton]; omega
    · rw [List.length_nil]; omega
theorem prt_nil {q : bm_Q} {fr to : Int} (h : to ≤ fr) : ∀ n, prt q fr to n = []
  | 0 => rfl
  | n + 1 => by rw [prt, prt_nil h n, if_neg (by omega)]; rfl
theorem cutL_p {q : bm_Q} {d b : Int} (hb : 0 < b) : cutL q d b = [] ++ prt q 0 d q.length ++ prt q (d + b) (dep q q.length) q.length := by
  unfold cutL
  rw [List.nil_append, prt_nil (show d ≤ min d (d + b) by omega), List.append_nil]
  congr 1
  rcases Int.le_total (d + b) (dep q q.length) with h | h
  · rw [show min (dep q q.length) (max d (d + b)) = d + b by omega]
  · rw [prt_nil (by omega), prt_nil (by omega)]
theorem cutL_n {q : bm_Q} {d b : Int} (hb : b < 0) (hd : d ≤ dep q q.length) : cutL q d b = [] ++ prt q 0 d q.length ++ prt q (d + b) d q.length ++ prt q d (dep q q.length) q.length := by
  unfold cutL
  rw [List.nil_append, show min d (d + b) = d + b by omega, show min (dep q q.length) (max d (d + b)) = d by omega]
theorem dep_mono {q : bm_Q} (h : colOK q) {n : Nat} : ∀ k : Nat, n + k ≤ q.length → dep q n ≤ dep q (n + k)
  | 0, _ => Int.le_refl _
  | k + 1, hk => by
    have h1 := dep_mono h k (n := n) (by omega)
    have h2 := thOK h (k := n + k) (by omega)
    show dep q n ≤ dep q (n + k) + th q (n + k)
    omega
theorem prt_top {q : bm_Q} (h : colOK q) {fr T : Int} (hT : dep q q.length ≤ T) : ∀ n, n ≤ q.length → prt q fr T n = prt q fr (dep q q.length) n
  | 0, _ => rfl
  | n + 1, hn => by
    have h1 := dep_mono h (n := n + 1) (q.length - (n + 1)) (by omega)
    rw [show n + 1 + (q.length - (n + 1)) = q.length by omega] at h1
    rw [prt, prt, prt_top h hT n (by omega), Int.min_eq_left (show dep q (n + 1) ≤ T by omega), Int.min_eq_left h1]
/-- how thick in all -/
abbrev tot (q : bm_Q) : Int := dep q q.length
theorem th_app_l {q r : bm_Q} {k : Nat} (h : k < q.length) : th (q ++ r) k = th q k := by
  unfold th
  rw [List.getD_eq_getElem?_getD, List.getElem?_append_left h, ← List.getD_eq_getElem?_getD]
theorem th_app_r {q r : bm_Q} {k : Nat} : th (q ++ r) (q.length + k) = th r k := by
  unfold th
  rw [List.getD_eq_getElem?_getD, List.getElem?_append_right (by omega), show q.length + k - q.length = k by omega, ← List.getD_eq_getElem?_getD]
theorem dep_app_l {q r : bm_Q} : ∀ n, n ≤ q.length → dep (q ++ r) n = dep q n
  | 0, _ => rfl
  | n + 1, h => by rw [dep, dep, dep_app_l n (by omega), th_app_l (by omega)]
theorem dep_app_r {q r : bm_Q} : ∀ n, dep (q ++ r) (q.length + n) = tot q + dep r n
  | 0 => by
    show dep (q ++ r) q.length = tot q + 0
    rw [dep_app_l _ (Nat.le_refl _)]; show dep q q.length = dep q q.length + 0; omega
  | n + 1 => by
    show dep (q ++ r) (q.length + n) + th (q ++ r) (q.length + n) = tot q + (dep r n + th r n)
    rw [dep_app_r n, th_app_r]; omega
theorem tot_app (q r : bm_Q) : tot (q ++ r) = tot q + tot r := by
  show dep (q ++ r) (q ++ r).length = _
  rw [List.length_append, dep_app_r]
theorem tot_one (p : Int × Int) : tot [p] = p.2 := by
  show (0 : Int) + p.2 = p.2
  omega
theorem tot_cons (p : Int × Int) (r : bm_Q) : tot (p :: r) = p.2 + tot r := by
  have h := tot_app [p] r
  rw [tot_one] at h
  exact h
theorem tot_ins {q : bm_Q} {i : Nat} {p : Int × Int} : tot (insB q i p) = tot q + p.2 := by
  have h := tot_app (q.take i) (q.drop i)
  rw [List.take_append_drop] at h
  show tot (q.take i ++ p :: q.drop i) = _
  rw [tot_app, tot_cons, h]; omega
theorem tot_del {q : bm_Q} {i : Nat} (hi : i < q.length) : tot (delB q i) = tot q - th q i := by
  have h := tot_app (q.take i) (q.drop i)
  rw [List.take_append_drop, List.drop_eq_getElem_cons hi, tot_cons] at h
  have e : th q i = q[i].2 := by
    unfold th
    rw [List.getD_eq_getElem?_getD, List.getElem?_eq_getElem hi]; rfl
  show tot (q.take i ++ q.drop (i + 1)) = _
  rw [tot_app, h, e]; omega
theorem tot_set {q : bm_Q} {i : Nat} {p : Int × Int} (hi : i < q.length) : tot (q.set i p) = tot q - th q i + p.2 := by
  have h := tot_app (q.take i) (q.drop i)
  rw [List.take_append_drop, List.drop_eq_getElem_cons hi, tot_cons] at h
  have e : th q i = q[i].2 := by
    unfold th
    rw [List.getD_eq_getElem?_getD, List.getElem?_eq_getElem hi]; rfl
  rw [List.set_eq_take_append_cons_drop, if_pos hi, tot_app, tot_cons, h, e]; omega
theorem tot_prt {q : bm_Q} (hq : colOK q) {fr to : Int} (h0 : 0 ≤ fr) : ∀ n, n ≤ q.length → tot (prt q fr to n) = max 0 (min (dep q n) to - fr)
  | 0, _ => by
    show (0 : Int) = max 0 (min 0 to - fr)
    omega
  | n + 1, hn => by
    have h1 := tot_prt hq (to := to) h0 n (by omega)
    have h2 := thOK hq (k := n) (by omega)
    have h3 := dep_le hq (n := n) (by omega)
    have h4 : dep q (n + 1) = dep q n + th q n := rfl
    rw [prt, tot_app, h1]
    split
    · rename_i hc
      rw [tot_one]
      show _ + (min (dep q (n + 1)) to - max (dep q n) fr) = _
      omega
    · rename_i hc
      show _ + (0 : Int) = _
      omega
/-- a list of beds in a row of ints -/
def cR (g : bg_E) (c : Nat) (L : bm_Q) : Prop := ∀ k, k < L.length → g c (2 * k) = mrk L k ∧ g c (2 * k + 1) = th L k
theorem cR.cg {g g' : bg_E} {c : Nat} {L : bm_Q} (h : cR g c L) (hc : g' c = g c) : cR g' c L := fun k hk => by rw [hc]; exact h k hk
theorem cR.add {g : bg_E} {c : Nat} {L : bm_Q} {m t : Int} (h : cR g c L) : cR (bg_up (bg_up g c (2 * L.length) m) c (2 * L.length + 1) t) c (L ++ [(m, t)]) := by
  intro k hk
  rw [List.length_append, List.length_singleton] at hk
  unfold mrk th
  rw [app_get]
  rcases Nat.lt_or_ge k L.length with h1 | h1
  · rw [if_pos h1, up_k (by omega), up_k (by omega), up_k (by omega), up_k (by omega)]
    exact h k h1
  · obtain rfl : k = L.length := by omega
    rw [if_neg (by omega), if_pos rfl, up_k (by omega), up_eq, up_eq]
    exact ⟨rfl, rfl⟩
/-- what a cut makes: part by part -/
def ctP (q : bm_Q) (p v : Int) : Nat → bm_Q
  | 0 => []
  | n + 1 => ctP q p v n ++ prt q (if n = 0 then 0 else if n = 1 then p + v else if 0 < v then p + v else p) (if n < 2 then p else 100000) q.length
theorem ctP_3 {q : bm_Q} (hq : colOK q) {p v : Int} (hl : q.length ≤ 24) (hp : 1 ≤ p ∧ p ≤ dep q q.length - 1) (hv : ¬ v = 0 ∧ -p ≤ v) : ctP q p v 3 = cutL q p v := by
  have hd := dep_le hq (Nat.le_refl q.length)
  have e : ctP q p v 3 = (([] ++ prt q 0 p q.length) ++ prt q (p + v) p q.length) ++ prt q (if 0 < v then p + v else p) 100000 q.length := rfl
  rw [e, prt_top hq (T := 100000) (by omega) q.length (Nat.le_refl _)]
  by_cases h : 0 < v
  · rw [if_pos h, cutL_p h, prt_nil (fr := p + v) (to := p) (by omega), List.append_nil]
  · rw [if_neg h, cutL_n (by omega) (by omega)]
