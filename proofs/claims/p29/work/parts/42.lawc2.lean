/-! the law: a column behind a cut, into a row of ints -/
theorem c_L_cuts {y : bg_Y} {g : bg_E} {h p v : Int} {c : Nat} {S : bm_S} (hS : rwR g S) (ok : staOK S) (h6 : len6 S) (hh : isHo h) (hp : 0 ≤ p ∧ p ≤ 10000) (hv : -10000 ≤ v ∧ v ≤ 10000) (hc : 202 ≤ c ∧ c ≠ bg_PZ ∧ g bg_PZ c = 64 ∧ c < bg_n g) : bg_Si y 1 mL_cuts [.inr 198, .inr 199, .inl h, .inl p, .inl v, .inr c] g (fun r g' => r = ((ctP (sq S h) p v 3).length : Int) ∧ cR g' c (ctP (sq S h) p v 3) ∧ (∀ x, x ≠ c → g' x = g x) ∧ (ctP (sq S h) p v 3).length ≤ 18) := by
  have hl := sq_6 h6 hh
  have okq := (sq_OK ok hh).1
  obtain ⟨c1, c2, c3, c4⟩ := hc
  have n198 : (198 : Nat) ≠ c := by omega
  have n199 : (199 : Nat) ≠ c := by omega
  have kd : ∀ g1 : bg_E, (∀ x, x ≠ c → g1 x = g x) → bg_kdd g1 c = some (8, 64) ∧ c < bg_n g1 := fun g1 hF => by
    have e := hF bg_PZ (Ne.symm c2)
    exact ⟨bg_kdD c1 (by rw [e]; exact c3), by rw [bg_n_P e]; exact c4⟩
  refine bg_enter pnL (Nat.le_of_ble_eq_true rfl) (fun κ X hR hg => ?_)
  have X1 : bg_X κ y cL_cuts RL 1 0 0 := X.1
  have hg : ∀ a k, R32 (g a k) := hg
  show bg_g κ y 0 [some (.inr 198), some (.inr 199), some (.inl h), some (.inl p), some (.inl v), some (.inr c), none, none, none, none, none, none, none, none, none] [] g
  have inner : ∀ (L0 : bm_Q) (pa fr to : Int), L0.length ≤ 12 → (0 ≤ pa ∧ pa < 3) → (-20000 ≤ fr ∧ fr ≤ 20000) → (0 ≤ to ∧ to ≤ 100000) → (∀ (g1 : bg_E) (w : Int) (l10 l11 l12 l13 l14 : Option bg_V), w = ((L0 ++ prt (sq S h) fr to (sq S h).length).length : Int) → cR g1 c (L0 ++ prt (sq S h) fr to (sq S h).length) → (∀ x, x ≠ c → g1 x = g x) → bg_g κ y 184 [some (.inr 198), some (.inr 199), some (.inl h), some (.inl p), some (.inl v), some (.inr c), some (.inl w), some (.inl pa), some (.inl fr), some (.inl to), l10, l11, l12, l13, l14] [] g1) → ∀ (r k : Nat) (g1 : bg_E) (w : Int) (l11 l12 l13 l14 : Option bg_V), k + r = (sq S h).length → w = ((L0 ++ prt (sq S h) fr to k).length : Int) → cR g1 c (L0 ++ prt (sq S h) fr to k) → (∀ x, x ≠ c → g1 x = g x) → bg_g κ y 66 [some (.inr 198), some (.inr 199), some (.inl h), some (.inl p), some (.inl v), some (.inr c), some (.inl w), some (.inl pa), some (.inl fr), some (.inl to), some (.inl (k : Int)), l11, l12, l13, l14] [] g1 := by
    intro L0 pa fr to hL hpa hfr hto kk r
    induction r with
    | zero =>
      intro k g1 w l11 l12 l13 l14 hk hw hR hF
      have hS1 : rwR g1 S := hS.cg (hF 198 n198) (hF 199 n199)
      obtain rfl : k = (sq S h).length := by omega
      refine bg_iload10 (pc := 66) X1 dL_cuts_66 ?_
      refine bg_aload0 (pc := 68) X1 dL_cuts_68 ?_
      refine bg_bipush (pc := 69) X1 dL_cuts_69 rfl (by decide) ?_
      refine bg_iload2 (pc := 71) X1 dL_cuts_71 ?_
      refine bg_iadd (pc := 72) X1 dL_cuts_72 (by omega) ?_
      refine bq_iaload (pc := 73) X1 dL_cuts_73 (by first | assumption | rfl) (by omega) ?_
      rw [rw_len hS1 hh]
      refine bg_icmp_ge (pc := 74) X1 (tgt := 184) dL_cuts_74 (by decide) (fun u74 => ?_) (fun u74 => ?_)
      · exact kk _ _ _ _ _ _ _ hw hR hF
      · exfalso; omega
    | succ r ih =>
      intro k g1 w l11 l12 l13 l14 hk hw hR hF
      have hS1 : rwR g1 S := hS.cg (hF 198 n198) (hF 199 n199)
      have hd := sq_dep ok hh (n := k) (by omega)
      have ht := thOK okq (k := k) (by omega)
      have ek : ((k : Nat) : Int).toNat = k := Int.toNat_natCast _
      have hd2 : dep (sq S h) (k + 1) = dep (sq S h) k + th (sq S h) k := rfl
      have hpl := prt_le (sq S h) fr to k
      have hpe : prt (sq S h) fr to (k + 1) = prt (sq S h) fr to k ++ (if 0 < min (dep (sq S h) (k + 1)) to - max (dep (sq S h) k) fr then [(mrk (sq S h) k, min (dep (sq S h) (k + 1)) to - max (dep (sq S h) k) fr)] else []) := rfl
      rw [List.length_append] at hw
      obtain ⟨k1, k2⟩ := kd g1 hF
      have mid : ∀ a b : Int, a = max (dep (sq S h) k) fr → b = min (dep (sq S h) (k + 1)) to → bg_g κ y 136 [some (.inr 198), some (.inr 199), some (.inl h), some (.inl p), some (.inl v), some (.inr c), some (.inl w), some (.inl pa), some (.inl fr), some (.inl to), some (.inl (k : Int)), some (.inl (dep (sq S h) k)), some (.inl (dep (sq S h) k + th (sq S h) k)), some (.inl a), some (.inl b)] [] g1 := by
        intro a b ha hb
        by_cases hab : a < b
        · have hpe2 : prt (sq S h) fr to (k + 1) = prt (sq S h) fr to k ++ [(mrk (sq S h) k, b - a)] := by rw [hpe, if_pos (by omega), ← ha, ← hb]
          have hF2 : ∀ (k : Nat) (u : Int) x, x ≠ c → bg_up g1 c k u x = g x := fun k u x hx => by rw [bg_up_ne hx]; exact hF x hx
          have e1 : (2 * w).toNat = 2 * (L0 ++ prt (sq S h) fr to k).length := by rw [List.length_append]; omega
          have e2 : (2 * w + 1).toNat = 2 * (L0 ++ prt (sq S h) fr to k).length + 1 := by rw [List.length_append]; omega
          refine bg_iload14 (pc := 136) X1 dL_cuts_136 ?_
          refine bg_iload13 (pc := 138) X1 dL_cuts_138 ?_
          refine bg_icmp_le (pc := 140) X1 (tgt := 178) dL_cuts_140 (by decide) (fun u140 => ?_) (fun u140 => ?_)
          · exfalso; omega
          · refine bg_aload5 (pc := 143) X1 dL_cuts_143 ?_
            refine bg_iconst (pc := 145) X1 dL_cuts_145 (by decide) ?_
            refine bg_iload6 (pc := 146) X1 dL_cuts_146 ?_
            refine bg_imul (pc := 148) X1 dL_cuts_148 (by omega) ?_
            refine bg_aload1 (pc := 149) X1 dL_cuts_149 ?_
            refine bg_bipush (pc := 150) X1 dL_cuts_150 rfl (by decide) ?_
            refine bg_iload2 (pc := 152) X1 dL_cuts_152 ?_
            refine bg_imul (pc := 153) X1 dL_cuts_153 (by omega) ?_
            refine bg_iconst (pc := 154) X1 dL_cuts_154 (by decide) ?_
            refine bg_iload10 (pc := 155) X1 dL_cuts_155 ?_
            refine bg_imul (pc := 157) X1 dL_cuts_157 (by omega) ?_
            refine bg_iadd (pc := 158) X1 dL_cuts_158 (by omega) ?_
            refine bq_iaload (pc := 159) X1 dL_cuts_159 (by first | assumption | rfl) (by omega) ?_
            rw [rw_mrk hS1 hh ⟨by omega, by omega⟩, ek]
            refine bq_iastoreD (pc := 160) X1 (N := 64) dL_cuts_160 k1 c2 k2 (by omega) ?_
            rw [e1]
            refine bg_aload5 (pc := 161) X1 dL_cuts_161 ?_
            refine bg_iconst (pc := 163) X1 dL_cuts_163 (by decide) ?_
            refine bg_iload6 (pc := 164) X1 dL_cuts_164 ?_
            refine bg_imul (pc := 166) X1 dL_cuts_166 (by omega) ?_
            refine bg_iconst (pc := 167) X1 dL_cuts_167 (by decide) ?_
            refine bg_iadd (pc := 168) X1 dL_cuts_168 (by omega) ?_
            refine bg_iload14 (pc := 169) X1 dL_cuts_169 ?_
            refine bg_iload13 (pc := 171) X1 dL_cuts_171 ?_
            refine bg_isub (pc := 173) X1 dL_cuts_173 (by omega) ?_
            refine bq_iastoreD (pc := 174) X1 (N := 64) dL_cuts_174 (kd _ (hF2 _ _)).1 c2 (kd _ (hF2 _ _)).2 (by omega) ?_
            rw [e2]
            refine bg_iinc6 (pc := 175) X1 dL_cuts_175 (by omega) ?_
            refine bg_iinc10 (pc := 178) X1 dL_cuts_178 (by omega) ?_
            refine bg_goto (pc := 181) X1 (tgt := 66) dL_cuts_181 (by decide) ?_
            refine ih (k + 1) _ _ _ _ _ _ (by omega) ?_ ?_ (fun x hx => by rw [bg_up_ne hx]; exact hF2 _ _ x hx)
            · rw [hpe2, List.length_append, List.length_append, List.length_singleton]; omega
            · rw [hpe2, ← List.append_assoc]
              exact hR.add
        · have hpe2 : prt (sq S h) fr to (k + 1) = prt (sq S h) fr to k := by rw [hpe, if_neg (by omega), List.append_nil]
          refine bg_iload14 (pc := 136) X1 dL_cuts_136 ?_
          refine bg_iload13 (pc := 138) X1 dL_cuts_138 ?_
          refine bg_icmp_le (pc := 140) X1 (tgt := 178) dL_cuts_140 (by decide) (fun u140 => ?_) (fun u140 => ?_)
          · refine bg_iinc10 (pc := 178) X1 dL_cuts_178 (by omega) ?_
            refine bg_goto (pc := 181) X1 (tgt := 66) dL_cuts_181 (by decide) ?_
            exact ih (k + 1) _ _ _ _ _ _ (by omega) (by rw [hpe2, List.length_append]; exact hw) (by rw [hpe2]; exact hR) hF
          · exfalso; omega
      refine bg_iload10 (pc := 66) X1 dL_cuts_66 ?_
      refine bg_aload0 (pc := 68) X1 dL_cuts_68 ?_
      refine bg_bipush (pc := 69) X1 dL_cuts_69 rfl (by decide) ?_
      refine bg_iload2 (pc := 71) X1 dL_cuts_71 ?_
      refine bg_iadd (pc := 72) X1 dL_cuts_72 (by omega) ?_
      refine bq_iaload (pc := 73) X1 dL_cuts_73 (by first | assumption | rfl) (by omega) ?_
      rw [rw_len hS1 hh]
      refine bg_icmp_ge (pc := 74) X1 (tgt := 184) dL_cuts_74 (by decide) (fun u74 => ?_) (fun u74 => ?_)
      · exfalso; omega
      · refine bg_aload1 (pc := 77) X1 dL_cuts_77 ?_
        refine bg_iload2 (pc := 78) X1 dL_cuts_78 ?_
        refine bg_iload10 (pc := 79) X1 dL_cuts_79 ?_
        refine bq_S3i (pc := 81) X1 (c_L_depth hS1 ok h6 hh ⟨by omega, by omega⟩) sL_depth lL_32 rfl (by decide) dL_cuts_81 (by exact Nat.le_of_ble_eq_true rfl) (by decide) ?_
        rintro _ _ ⟨h9, h8⟩
        obtain rfl := h9.symm
        obtain rfl := h8.symm
        clear h9 h8
        rw [ek]
        refine bg_istore11 (pc := 84) X1 dL_cuts_84 ?_
        refine bg_iload11 (pc := 86) X1 dL_cuts_86 ?_
        refine bg_aload1 (pc := 88) X1 dL_cuts_88 ?_
        refine bg_bipush (pc := 89) X1 dL_cuts_89 rfl (by decide) ?_
        refine bg_iload2 (pc := 91) X1 dL_cuts_91 ?_
        refine bg_imul (pc := 92) X1 dL_cuts_92 (by omega) ?_
        refine bg_iconst (pc := 93) X1 dL_cuts_93 (by decide) ?_
        refine bg_iload10 (pc := 94) X1 dL_cuts_94 ?_
        refine bg_imul (pc := 96) X1 dL_cuts_96 (by omega) ?_
        refine bg_iadd (pc := 97) X1 dL_cuts_97 (by omega) ?_
        refine bg_iconst (pc := 98) X1 dL_cuts_98 (by decide) ?_
        refine bg_iadd (pc := 99) X1 dL_cuts_99 (by omega) ?_
        refine bq_iaload (pc := 100) X1 dL_cuts_100 (by first | assumption | rfl) (by omega) ?_
        rw [rw_th hS1 hh ⟨by omega, by omega⟩, ek]
        refine bg_iadd (pc := 101) X1 dL_cuts_101 (by omega) ?_
        refine bg_istore12 (pc := 102) X1 dL_cuts_102 ?_
        refine bg_iload11 (pc := 104) X1 dL_cuts_104 ?_
        refine bg_iload8 (pc := 106) X1 dL_cuts_106 ?_
        refine bg_icmp_le (pc := 108) X1 (tgt := 116) dL_cuts_108 (by decide) (fun u108 => ?_) (fun u108 => ?_)
        · refine bg_iload8 (pc := 116) X1 dL_cuts_116 ?_
          refine bg_istore13 (pc := 118) X1 dL_cuts_118 ?_
          refine bg_iload12 (pc := 120) X1 dL_cuts_120 ?_
          refine bg_iload9 (pc := 122) X1 dL_cuts_122 ?_
          refine bg_icmp_ge (pc := 124) X1 (tgt := 132) dL_cuts_124 (by decide) (fun u124 => ?_) (fun u124 => ?_)
          · refine bg_iload9 (pc := 132) X1 dL_cuts_132 ?_
            refine bg_istore14 (pc := 134) X1 dL_cuts_134 ?_
            exact mid _ _ (by omega) (by omega)
          · refine bg_iload12 (pc := 127) X1 dL_cuts_127 ?_
            refine bg_goto (pc := 129) X1 (tgt := 134) dL_cuts_129 (by decide) ?_
            refine bg_istore14 (pc := 134) X1 dL_cuts_134 ?_
            exact mid _ _ (by omega) (by omega)
        · refine bg_iload11 (pc := 111) X1 dL_cuts_111 ?_
          refine bg_goto (pc := 113) X1 (tgt := 118) dL_cuts_113 (by decide) ?_
          refine bg_istore13 (pc := 118) X1 dL_cuts_118 ?_
          refine bg_iload12 (pc := 120) X1 dL_cuts_120 ?_
          refine bg_iload9 (pc := 122) X1 dL_cuts_122 ?_
          refine bg_icmp_ge (pc := 124) X1 (tgt := 132) dL_cuts_124 (by decide) (fun u124 => ?_) (fun u124 => ?_)
          · refine bg_iload9 (pc := 132) X1 dL_cuts_132 ?_
            refine bg_istore14 (pc := 134) X1 dL_cuts_134 ?_
            exact mid _ _ (by omega) (by omega)
          · refine bg_iload12 (pc := 127) X1 dL_cuts_127 ?_
            refine bg_goto (pc := 129) X1 (tgt := 134) dL_cuts_129 (by decide) ?_
            refine bg_istore14 (pc := 134) X1 dL_cuts_134 ?_
            exact mid _ _ (by omega) (by omega)
  have pl : ∀ k, k ≤ 3 → (ctP (sq S h) p v k).length ≤ 6 * k := by
    intro k
    induction k with
    | zero => intro _; exact Nat.le_refl _
    | succ k ih =>
      intro hk
      have h1 := ih (by omega)
      rw [ctP, List.length_append]
      have h2 := prt_le (sq S h) (if k = 0 then 0 else if k = 1 then p + v else if 0 < v then p + v else p) (if k < 2 then p else 100000) (sq S h).length
      omega
  have outer : ∀ (r k : Nat) (g1 : bg_E) (w : Int) (l8 l9 l10 l11 l12 l13 l14 : Option bg_V), k + r = 3 → w = ((ctP (sq S h) p v k).length : Int) → cR g1 c (ctP (sq S h) p v k) → (∀ x, x ≠ c → g1 x = g x) → bg_g κ y 6 [some (.inr 198), some (.inr 199), some (.inl h), some (.inl p), some (.inl v), some (.inr c), some (.inl w), some (.inl (k : Int)), l8, l9, l10, l11, l12, l13, l14] [] g1 := by
    intro r
    induction r with
    | zero =>
      intro k g1 w l8 l9 l10 l11 l12 l13 l14 hk hw hR hF
      obtain rfl : k = 3 := by omega
      refine bg_iload7 (pc := 6) X1 dL_cuts_6 ?_
      refine bg_iconst (pc := 8) X1 dL_cuts_8 (by decide) ?_
      refine bg_icmp_ge (pc := 9) X1 (tgt := 190) dL_cuts_9 (by decide) (fun u9 => ?_) (fun u9 => ?_)
      · refine bg_iload6 (pc := 190) X1 dL_cuts_190 ?_
        exact bo_iret (pc := 192) X rfl dL_cuts_192 (fun hi => ⟨hw, hR, hF, pl 3 (Nat.le_refl _)⟩)
      · exfalso; omega
    | succ r ih =>
      intro k g1 w l8 l9 l10 l11 l12 l13 l14 hk hw hR hF
      have hpl := pl k (by omega)
      have mid : ∀ (fr to : Int) (l10 l11 l12 l13 l14 : Option bg_V), fr = (if k = 0 then 0 else if k = 1 then p + v else if 0 < v then p + v else p) → to = (if k < 2 then p else 100000) → bg_g κ y 63 [some (.inr 198), some (.inr 199), some (.inl h), some (.inl p), some (.inl v), some (.inr c), some (.inl w), some (.inl (k : Int)), some (.inl fr), some (.inl to), l10, l11, l12, l13, l14] [] g1 := by
        intro fr to l10 l11 l12 l13 l14 hfr hto
        have rfr : -20000 ≤ fr ∧ fr ≤ 20000 := by
          rw [hfr]
          split
          · omega
          · split
            · omega
            · split <;> omega
        have rto : 0 ≤ to ∧ to ≤ 100000 := by
          rw [hto]
          split <;> omega
        have eP : ctP (sq S h) p v (k + 1) = ctP (sq S h) p v k ++ prt (sq S h) fr to (sq S h).length := by rw [ctP, ← hfr, ← hto]
        have inn := inner (ctP (sq S h) p v k) (k : Int) fr to (by omega) ⟨by omega, by omega⟩ rfr rto (fun g2 w2 l10 l11 l12 l13 l14 hw2 hR2 hF2 => by
          rw [← eP] at hw2 hR2
          refine bg_iinc7 (pc := 184) X1 dL_cuts_184 (by omega) ?_
          refine bg_goto (pc := 187) X1 (tgt := 6) dL_cuts_187 (by decide) ?_
          exact ih (k + 1) g2 w2 _ _ _ _ _ _ _ (by omega) hw2 hR2 hF2
          )
        refine bg_iconst (pc := 63) X1 dL_cuts_63 (by decide) ?_
        refine bg_istore10 (pc := 64) X1 dL_cuts_64 ?_
        exact inn (sq S h).length 0 g1 w _ _ _ _ (Nat.zero_add _) (by rw [show prt (sq S h) fr to 0 = [] from rfl, List.append_nil]; exact hw) (by rw [show prt (sq S h) fr to 0 = [] from rfl, List.append_nil]; exact hR) hF
      have hc : k = 0 ∨ k = 1 ∨ k = 2 := by omega
      rcases hc with rfl | rfl | rfl
      · skip
        refine bg_iload7 (pc := 6) X1 dL_cuts_6 ?_
        refine bg_iconst (pc := 8) X1 dL_cuts_8 (by decide) ?_
        refine bg_icmp_ge (pc := 9) X1 (tgt := 190) dL_cuts_9 (by decide) (fun u9 => ?_) (fun u9 => ?_)
        · exfalso; omega
        · refine bg_iload7 (pc := 12) X1 dL_cuts_12 ?_
          refine bg_if_ne (pc := 14) X1 (tgt := 21) dL_cuts_14 (by decide) (fun u14 => ?_) (fun u14 => ?_)
          · omega
          · refine bg_iconst (pc := 17) X1 dL_cuts_17 (by decide) ?_
            refine bg_goto (pc := 18) X1 (tgt := 47) dL_cuts_18 (by decide) ?_
            refine bg_istore8 (pc := 47) X1 dL_cuts_47 ?_
            refine bg_iload7 (pc := 49) X1 dL_cuts_49 ?_
            refine bg_iconst (pc := 51) X1 dL_cuts_51 (by decide) ?_
            refine bg_icmp_ge (pc := 52) X1 (tgt := 59) dL_cuts_52 (by decide) (fun u52 => ?_) (fun u52 => ?_)
            · exfalso; omega
            · refine bg_iload3 (pc := 55) X1 dL_cuts_55 ?_
              refine bg_goto (pc := 56) X1 (tgt := 61) dL_cuts_56 (by decide) ?_
              refine bg_istore9 (pc := 61) X1 dL_cuts_61 ?_
              exact mid _ _ _ _ _ _ _ rfl rfl
      · skip
        refine bg_iload7 (pc := 6) X1 dL_cuts_6 ?_
        refine bg_iconst (pc := 8) X1 dL_cuts_8 (by decide) ?_
        refine bg_icmp_ge (pc := 9) X1 (tgt := 190) dL_cuts_9 (by decide) (fun u9 => ?_) (fun u9 => ?_)
        · exfalso; omega
        · refine bg_iload7 (pc := 12) X1 dL_cuts_12 ?_
          refine bg_if_ne (pc := 14) X1 (tgt := 21) dL_cuts_14 (by decide) (fun u14 => ?_) (fun u14 => ?_)
          · refine bg_iload7 (pc := 21) X1 dL_cuts_21 ?_
            refine bg_iconst (pc := 23) X1 dL_cuts_23 (by decide) ?_
            refine bg_icmp_ne (pc := 24) X1 (tgt := 34) dL_cuts_24 (by decide) (fun u24 => ?_) (fun u24 => ?_)
            · omega
            · refine bg_iload3 (pc := 27) X1 dL_cuts_27 ?_
              refine bg_iload4 (pc := 28) X1 dL_cuts_28 ?_
              refine bg_iadd (pc := 30) X1 dL_cuts_30 (by omega) ?_
              refine bg_goto (pc := 31) X1 (tgt := 47) dL_cuts_31 (by decide) ?_
              refine bg_istore8 (pc := 47) X1 dL_cuts_47 ?_
              refine bg_iload7 (pc := 49) X1 dL_cuts_49 ?_
              refine bg_iconst (pc := 51) X1 dL_cuts_51 (by decide) ?_
              refine bg_icmp_ge (pc := 52) X1 (tgt := 59) dL_cuts_52 (by decide) (fun u52 => ?_) (fun u52 => ?_)
              · exfalso; omega
              · refine bg_iload3 (pc := 55) X1 dL_cuts_55 ?_
                refine bg_goto (pc := 56) X1 (tgt := 61) dL_cuts_56 (by decide) ?_
                refine bg_istore9 (pc := 61) X1 dL_cuts_61 ?_
                exact mid _ _ _ _ _ _ _ rfl rfl
          · omega
      · skip
        refine bg_iload7 (pc := 6) X1 dL_cuts_6 ?_
        refine bg_iconst (pc := 8) X1 dL_cuts_8 (by decide) ?_
        refine bg_icmp_ge (pc := 9) X1 (tgt := 190) dL_cuts_9 (by decide) (fun u9 => ?_) (fun u9 => ?_)
        · exfalso; omega
        · refine bg_iload7 (pc := 12) X1 dL_cuts_12 ?_
          refine bg_if_ne (pc := 14) X1 (tgt := 21) dL_cuts_14 (by decide) (fun u14 => ?_) (fun u14 => ?_)
          · refine bg_iload7 (pc := 21) X1 dL_cuts_21 ?_
            refine bg_iconst (pc := 23) X1 dL_cuts_23 (by decide) ?_
            refine bg_icmp_ne (pc := 24) X1 (tgt := 34) dL_cuts_24 (by decide) (fun u24 => ?_) (fun u24 => ?_)
            · refine bg_iload4 (pc := 34) X1 dL_cuts_34 ?_
              refine bg_if_le (pc := 36) X1 (tgt := 46) dL_cuts_36 (by decide) (fun u36 => ?_) (fun u36 => ?_)
              · refine bg_iload3 (pc := 46) X1 dL_cuts_46 ?_
                refine bg_istore8 (pc := 47) X1 dL_cuts_47 ?_
                refine bg_iload7 (pc := 49) X1 dL_cuts_49 ?_
                refine bg_iconst (pc := 51) X1 dL_cuts_51 (by decide) ?_
                refine bg_icmp_ge (pc := 52) X1 (tgt := 59) dL_cuts_52 (by decide) (fun u52 => ?_) (fun u52 => ?_)
                · refine bg_ldc (pc := 59) X1 dL_cuts_59 kL_37 (by decide) ?_
                  refine bg_istore9 (pc := 61) X1 dL_cuts_61 ?_
                  exact mid _ _ _ _ _ _ _ (by rw [if_neg (by decide), if_neg (by decide)]; first | exact (if_pos (by omega)).symm | exact (if_neg (by omega)).symm) rfl
                · exfalso; omega
              · refine bg_iload3 (pc := 39) X1 dL_cuts_39 ?_
                refine bg_iload4 (pc := 40) X1 dL_cuts_40 ?_
                refine bg_iadd (pc := 42) X1 dL_cuts_42 (by omega) ?_
                refine bg_goto (pc := 43) X1 (tgt := 47) dL_cuts_43 (by decide) ?_
                refine bg_istore8 (pc := 47) X1 dL_cuts_47 ?_
                refine bg_iload7 (pc := 49) X1 dL_cuts_49 ?_
                refine bg_iconst (pc := 51) X1 dL_cuts_51 (by decide) ?_
                refine bg_icmp_ge (pc := 52) X1 (tgt := 59) dL_cuts_52 (by decide) (fun u52 => ?_) (fun u52 => ?_)
                · refine bg_ldc (pc := 59) X1 dL_cuts_59 kL_37 (by decide) ?_
                  refine bg_istore9 (pc := 61) X1 dL_cuts_61 ?_
                  exact mid _ _ _ _ _ _ _ (by rw [if_neg (by decide), if_neg (by decide)]; first | exact (if_pos (by omega)).symm | exact (if_neg (by omega)).symm) rfl
                · exfalso; omega
            · omega
          · omega
  refine bg_iconst (pc := 0) X1 dL_cuts_0 (by decide) ?_
  refine bg_istore6 (pc := 1) X1 dL_cuts_1 ?_
  refine bg_iconst (pc := 3) X1 dL_cuts_3 (by decide) ?_
  refine bg_istore7 (pc := 4) X1 dL_cuts_4 ?_
  exact outer 3 0 g 0 _ _ _ _ _ _ _ rfl rfl (fun k hk => absurd hk (Nat.not_lt_zero _)) (fun _ _ => rfl)
