/-! the law: what a step costs, and the table of least costs -/
def scv (P : bm_P) (s : Int) (i j : Nat) : Int := if sc P s i j < 0 then 1000000 else sc P s i j
theorem scv_no {P : bm_P} {s : Int} {i j : Nat} (h : sc P s i j < 0) : scv P s i j = 1000000 := if_pos h
theorem scv_go {P : bm_P} {s : Int} {i j : Nat} (h : 0 ≤ sc P s i j) : scv P s i j = sc P s i j := if_neg (by omega)
theorem scv_R {P : bm_P} (h : okP P) {s : Int} {i j : Nat} (hi : i ≤ (pA P).length) : 0 ≤ scv P s i j ∧ scv P s i j ≤ 1000000 ∧ (scv P s i j < 1000000 ↔ 0 ≤ sc P s i j) := by
  rcases Int.lt_or_le (sc P s i j) 0 with h1 | h1
  · rw [scv_no h1]; omega
  · have := (sc_go h (j := j) hi h1).2.2.2.2.2.1
    rw [scv_go h1]; omega
theorem c_L_added {y : bg_Y} {g : bg_E} {a b i j s : Int} {S : bm_S} (hS : rwR g S) (ok : staOK S) (h6 : len6 S) (ha : isHo a) (hb : isHo b) (hi : 0 ≤ i ∧ i ≤ ((sq S a).length : Int)) (hj : 0 ≤ j ∧ j ≤ ((sq S b).length : Int)) (hs : 1 ≤ s ∧ s ≤ 4) : bg_Si y 1 mL_added [.inr 198, .inr 199, .inl a, .inl i, .inl b, .inl j, .inl s] g (fun r g' => r = scv (mq S a b) s i.toNat j.toNat ∧ g' = g) := by
  have lA := sq_6 h6 ha
  have lB := sq_6 h6 hb
  have okP1 := mq_ok ok ha hb
  have okA := (sq_OK ok ha).1
  have okB := (sq_OK ok hb).1
  have e1 : g 198 (1 : Int).toNat = S.1 1 := hS.1 1 (by omega)
  have e2 : g 198 (2 : Int).toNat = S.1 2 := hS.1 2 (by omega)
  have hU := ok.2.2.1
  have hR1 := ok.2.1
  have hW := ok.2.2.2.1
  have eA : (pA (mq S a b)) = sq S a := rfl
  have eB : (pB (mq S a b)) = sq S b := rfl
  have hM : ∀ m, isMa m → 1 ≤ pM (mkP S a.toNat b.toNat) m ∧ pM (mkP S a.toNat b.toNat) m ≤ 297 := okP1.2.2.1
  have hm : ∀ d : Int, 0 ≤ d → d ≤ 98 → 0 ≤ S.1 2 * d ∧ S.1 2 * d ≤ 882 := fun d h3 h4 => by
    have h6 : S.1 2 * d ≤ 9 * d := Int.mul_le_mul_of_nonneg_right hU.2 h3
    have h7 : 0 ≤ S.1 2 * d := Int.mul_nonneg hU.1 h3
    constructor <;> omega
  have hdif : ∀ p q : Nat, dif (mq S a b) p q = S.1 2 * ((th (sq S a) p - th (sq S b) q).natAbs : Int) := fun p q => rfl
  refine bg_enter pnL (Nat.le_of_ble_eq_true rfl) (fun κ X hR hg => ?_)
  have X1 : bg_X κ y cL_added RL 1 0 0 := X.1
  have hg : ∀ a k, R32 (g a k) := hg
  show bg_g κ y 0 [some (.inr 198), some (.inr 199), some (.inl a), some (.inl i), some (.inl b), some (.inl j), some (.inl s), none, none, none, none, none, none] [] g
  have mid : ∀ (hA hB mA mB tB : Int) (l12 : Option bg_V), (i < ((sq S a).length : Int) → hA = 1 ∧ mA = mrk (sq S a) i.toNat ∧ 0 ≤ mA ∧ mA ≤ 25) → (¬ i < ((sq S a).length : Int) → hA = 0 ∧ mA = -1) → (j < ((sq S b).length : Int) → hB = 1 ∧ mB = mrk (sq S b) j.toNat ∧ 0 ≤ mB ∧ mB ≤ 25 ∧ tB = th (sq S b) j.toNat ∧ 1 ≤ tB ∧ tB ≤ 99) → (¬ j < ((sq S b).length : Int) → hB = 0 ∧ mB = -2 ∧ tB = 0) → bg_g κ y 106 [some (.inr 198), some (.inr 199), some (.inl a), some (.inl i), some (.inl b), some (.inl j), some (.inl s), some (.inl hA), some (.inl hB), some (.inl mA), some (.inl mB), some (.inl tB), l12] [] g := by
    intro hA hB mA mB tB l12 F1 F1n F2 F2n
    have hc : s = 1 ∨ s = 2 ∨ s = 3 ∨ s = 4 := by omega
    rcases hc with rfl | rfl | rfl | rfl
    · skip
      refine bg_iload6 (pc := 106) X1 dL_added_106 ?_
      refine bg_iconst (pc := 108) X1 dL_added_108 (by decide) ?_
      refine bg_icmp_ne (pc := 109) X1 (tgt := 146) dL_added_109 (by decide) (fun u109 => ?_) (fun u109 => ?_)
      · exfalso; omega
      · refine bg_iload9 (pc := 112) X1 dL_added_112 ?_
        refine bg_iload10 (pc := 114) X1 dL_added_114 ?_
        refine bg_icmp_ne (pc := 116) X1 (tgt := 143) dL_added_116 (by decide) (fun u116 => ?_) (fun u116 => ?_)
        · have hsc : sc (mq S a b) 1 i.toNat j.toNat < 0 := by
            rw [sc_1, if_neg (fun h9 => by
              have h8 := h9.1
              have h7 := h9.2.1
              rw [eA] at h8
              rw [eB] at h7
              have k1 := F1 (by omega)
              have k2 := F2 (by omega)
              exact u116 (by rw [k1.2.1, k2.2.1]; exact h9.2.2))]
            decide
          refine bg_ldc (pc := 143) X1 dL_added_143 kL_15 (by decide) ?_
          exact bo_iret (pc := 145) X rfl dL_added_145 (fun hi => ⟨by first | (rw [scv_no hsc]) | (rw [scv_go (by omega), hsc]), rfl⟩)
        · have hx : i < ((sq S a).length : Int) ∧ j < ((sq S b).length : Int) := by
            by_cases h1 : i < ((sq S a).length : Int) <;> by_cases h2 : j < ((sq S b).length : Int)
            · exact ⟨h1, h2⟩
            · have := F1 h1; have := F2n h2; omega
            · have := F1n h1; have := F2 h2; omega
            · have := F1n h1; have := F2n h2; omega
          obtain ⟨hiA, hjB⟩ := hx
          have k1 := F1 hiA
          have k2 := F2 hjB
          have ht := thOK okA (k := i.toNat) (by omega)
          have hd := hm (((th (sq S a) i.toNat - tB).natAbs : Nat) : Int) (by omega) (by omega)
          have hsc : sc (mq S a b) 1 i.toNat j.toNat = S.1 2 * ((th (sq S a) i.toNat - tB).natAbs : Int) := by
            rw [sc_1, if_pos ⟨show i.toNat < (sq S a).length by omega, show j.toNat < (sq S b).length by omega, show mrk (sq S a) i.toNat = mrk (sq S b) j.toNat by omega⟩, hdif, k2.2.2.2.2.1]
          refine bg_aload0 (pc := 119) X1 dL_added_119 ?_
          refine bg_iconst (pc := 120) X1 dL_added_120 (by decide) ?_
          refine bq_iaload (pc := 121) X1 dL_added_121 (by first | assumption | rfl) (by omega) ?_
          rw [e2]
          refine bg_aload1 (pc := 122) X1 dL_added_122 ?_
          refine bg_bipush (pc := 123) X1 dL_added_123 rfl (by decide) ?_
          refine bg_iload2 (pc := 125) X1 dL_added_125 ?_
          refine bg_imul (pc := 126) X1 dL_added_126 (by omega) ?_
          refine bg_iconst (pc := 127) X1 dL_added_127 (by decide) ?_
          refine bg_iload3 (pc := 128) X1 dL_added_128 ?_
          refine bg_imul (pc := 129) X1 dL_added_129 (by omega) ?_
          refine bg_iadd (pc := 130) X1 dL_added_130 (by omega) ?_
          refine bg_iconst (pc := 131) X1 dL_added_131 (by decide) ?_
          refine bg_iadd (pc := 132) X1 dL_added_132 (by omega) ?_
          refine bq_iaload (pc := 133) X1 dL_added_133 (by first | assumption | rfl) (by omega) ?_
          rw [rw_th hS ha (by omega)]
          refine bg_iload11 (pc := 134) X1 dL_added_134 ?_
          refine bq_S2i (pc := 136) X1 (c_L_off (by omega) (by omega)) sL_off lL_9 rfl (by decide) dL_added_136 (by exact Nat.le_of_ble_eq_true rfl) (by decide) ?_
          rintro _ _ ⟨h9, h8⟩
          obtain rfl := h9.symm
          obtain rfl := h8.symm
          clear h9 h8
          refine bg_imul (pc := 139) X1 dL_added_139 (⟨by omega, by omega⟩) ?_
          refine bg_goto (pc := 140) X1 (tgt := 145) dL_added_140 (by decide) ?_
          exact bo_iret (pc := 145) X rfl dL_added_145 (fun hi => ⟨by first | (rw [scv_no hsc]) | (rw [scv_go (by omega), hsc]), rfl⟩)
    · skip
      refine bg_iload6 (pc := 106) X1 dL_added_106 ?_
      refine bg_iconst (pc := 108) X1 dL_added_108 (by decide) ?_
      refine bg_icmp_ne (pc := 109) X1 (tgt := 146) dL_added_109 (by decide) (fun u109 => ?_) (fun u109 => ?_)
      · refine bg_iload6 (pc := 146) X1 dL_added_146 ?_
        refine bg_iconst (pc := 148) X1 dL_added_148 (by decide) ?_
        refine bg_icmp_ne (pc := 149) X1 (tgt := 169) dL_added_149 (by decide) (fun u149 => ?_) (fun u149 => ?_)
        · exfalso; omega
        · refine bg_iload7 (pc := 152) X1 dL_added_152 ?_
          refine bg_if_eq (pc := 154) X1 (tgt := 166) dL_added_154 (by decide) (fun u154 => ?_) (fun u154 => ?_)
          · have hsc : sc (mq S a b) 2 i.toNat j.toNat < 0 := by
              rw [sc_2n (show ¬ i.toNat < (sq S a).length from fun h => by have := F1 (by omega); omega)]
              decide
            refine bg_ldc (pc := 166) X1 dL_added_166 kL_15 (by decide) ?_
            exact bo_iret (pc := 168) X rfl dL_added_168 (fun hi => ⟨by first | (rw [scv_no hsc]) | (rw [scv_go (by omega), hsc]), rfl⟩)
          · have hiA : i < ((sq S a).length : Int) := Classical.byContradiction (fun h => by have k1 := F1n h; omega)
            have k1 := F1 hiA
            have hsc : sc (mq S a b) 2 i.toNat j.toNat = pM (mkP S a.toNat b.toNat) mA := by rw [sc_2 (show i.toNat < (sq S a).length by omega), k1.2.1]; rfl
            have hm2 := hM mA ⟨by omega, by omega⟩
            refine bg_aload0 (pc := 157) X1 dL_added_157 ?_
            refine bg_iload9 (pc := 158) X1 dL_added_158 ?_
            refine bq_S2i (pc := 160) X1 (c_L_alone (a := a.toNat) (b := b.toNat) hS ok ⟨by omega, by omega⟩) sL_alone lL_16 rfl (by decide) dL_added_160 (by exact Nat.le_of_ble_eq_true rfl) (by decide) ?_
            rintro _ _ ⟨h9, h8⟩
            obtain rfl := h9.symm
            obtain rfl := h8.symm
            clear h9 h8
            refine bg_goto (pc := 163) X1 (tgt := 168) dL_added_163 (by decide) ?_
            exact bo_iret (pc := 168) X rfl dL_added_168 (fun hi => ⟨by first | (rw [scv_no hsc]) | (rw [scv_go (by omega), hsc]), rfl⟩)
      · exfalso; omega
    · have hrl := rep_lt (P := mq S a b) (i := i.toNat) (j := j.toNat)
      have hrep : rep (mq S a b) i.toNat j.toNat = rp (sq S a) (mrk (sq S b) j.toNat) (S.1 3).toNat i.toNat := rfl
      have hrl2 := rp_lt (q := sq S a) (m := mB) (S.1 3).toNat i.toNat
      refine bg_iload6 (pc := 106) X1 dL_added_106 ?_
      refine bg_iconst (pc := 108) X1 dL_added_108 (by decide) ?_
      refine bg_icmp_ne (pc := 109) X1 (tgt := 146) dL_added_109 (by decide) (fun u109 => ?_) (fun u109 => ?_)
      · refine bg_iload6 (pc := 146) X1 dL_added_146 ?_
        refine bg_iconst (pc := 148) X1 dL_added_148 (by decide) ?_
        refine bg_icmp_ne (pc := 149) X1 (tgt := 169) dL_added_149 (by decide) (fun u149 => ?_) (fun u149 => ?_)
        · refine bg_iload6 (pc := 169) X1 dL_added_169 ?_
          refine bg_iconst (pc := 171) X1 dL_added_171 (by decide) ?_
          refine bg_icmp_ne (pc := 172) X1 (tgt := 192) dL_added_172 (by decide) (fun u172 => ?_) (fun u172 => ?_)
          · refine bg_aload0 (pc := 192) X1 dL_added_192 ?_
            refine bg_aload1 (pc := 193) X1 dL_added_193 ?_
            refine bg_iload2 (pc := 194) X1 dL_added_194 ?_
            refine bg_iload3 (pc := 195) X1 dL_added_195 ?_
            refine bg_iload10 (pc := 196) X1 dL_added_196 ?_
            refine bq_S5i (pc := 198) X1 (c_L_twin hS ok h6 ha hi) sL_twin lL_20 rfl (by decide) dL_added_198 (by exact Nat.le_of_ble_eq_true rfl) (by decide) ?_
            rintro _ _ ⟨h9, h8⟩
            obtain rfl := h9.symm
            obtain rfl := h8.symm
            clear h9 h8
            refine bg_istore12 (pc := 201) X1 dL_added_201 ?_
            refine bg_iload12 (pc := 203) X1 dL_added_203 ?_
            refine bg_if_ge (pc := 205) X1 (tgt := 213) dL_added_205 (by decide) (fun u205 => ?_) (fun u205 => ?_)
            · have hjB : j < ((sq S b).length : Int) := Classical.byContradiction (fun h => by
                have k2 := F2n h
                have hx := mkOK okA (k := (rp (sq S a) mB (S.1 3).toNat i.toNat).toNat) (by omega)
                omega)
              have k2 := F2 hjB
              have hsc : sc (mq S a b) 3 i.toNat j.toNat = S.1 1 + S.1 2 * ((th (sq S a) (rp (sq S a) mB (S.1 3).toNat i.toNat).toNat - tB).natAbs : Int) := by
                rw [sc_3, if_pos ⟨show j.toNat < (sq S b).length by omega, by rw [hrep, ← k2.2.1]; exact u205⟩, hrep, hdif, ← k2.2.1, k2.2.2.2.2.1]; rfl
              generalize rp (sq S a) mB (S.1 3).toNat i.toNat = r at *
              have ht := thOK okA (k := r.toNat) (by omega)
              have hd := hm (((th (sq S a) r.toNat - tB).natAbs : Nat) : Int) (by omega) (by omega)
              refine bg_aload0 (pc := 213) X1 dL_added_213 ?_
              refine bg_iconst (pc := 214) X1 dL_added_214 (by decide) ?_
              refine bq_iaload (pc := 215) X1 dL_added_215 (by first | assumption | rfl) (by omega) ?_
              rw [e1]
              refine bg_aload0 (pc := 216) X1 dL_added_216 ?_
              refine bg_iconst (pc := 217) X1 dL_added_217 (by decide) ?_
              refine bq_iaload (pc := 218) X1 dL_added_218 (by first | assumption | rfl) (by omega) ?_
              rw [e2]
              refine bg_aload1 (pc := 219) X1 dL_added_219 ?_
              refine bg_bipush (pc := 220) X1 dL_added_220 rfl (by decide) ?_
              refine bg_iload2 (pc := 222) X1 dL_added_222 ?_
              refine bg_imul (pc := 223) X1 dL_added_223 (by omega) ?_
              refine bg_iconst (pc := 224) X1 dL_added_224 (by decide) ?_
              refine bg_iload12 (pc := 225) X1 dL_added_225 ?_
              refine bg_imul (pc := 227) X1 dL_added_227 (by omega) ?_
              refine bg_iadd (pc := 228) X1 dL_added_228 (by omega) ?_
              refine bg_iconst (pc := 229) X1 dL_added_229 (by decide) ?_
              refine bg_iadd (pc := 230) X1 dL_added_230 (by omega) ?_
              refine bq_iaload (pc := 231) X1 dL_added_231 (by first | assumption | rfl) (by omega) ?_
              rw [rw_th hS ha (by omega)]
              refine bg_iload11 (pc := 232) X1 dL_added_232 ?_
              refine bq_S2i (pc := 234) X1 (c_L_off (by omega) (by omega)) sL_off lL_9 rfl (by decide) dL_added_234 (by exact Nat.le_of_ble_eq_true rfl) (by decide) ?_
              rintro _ _ ⟨h9, h8⟩
              obtain rfl := h9.symm
              obtain rfl := h8.symm
              clear h9 h8
              refine bg_imul (pc := 237) X1 dL_added_237 (⟨by omega, by omega⟩) ?_
              refine bg_iadd (pc := 238) X1 dL_added_238 (by omega) ?_
              exact bo_iret (pc := 239) X rfl dL_added_239 (fun hi => ⟨by first | (rw [scv_no hsc]) | (rw [scv_go (by omega), hsc]), rfl⟩)
            · have hsc : sc (mq S a b) 3 i.toNat j.toNat < 0 := by
                rw [sc_3, if_neg (fun h9 => by
                  have h7 := h9.1
                  have h8 := h9.2
                  rw [eB] at h7
                  have k2 := F2 (by omega)
                  rw [hrep, ← k2.2.1] at h8
                  omega)]
                decide
              refine bg_ldc (pc := 208) X1 dL_added_208 kL_15 (by decide) ?_
              refine bg_goto (pc := 210) X1 (tgt := 239) dL_added_210 (by decide) ?_
              exact bo_iret (pc := 239) X rfl dL_added_239 (fun hi => ⟨by first | (rw [scv_no hsc]) | (rw [scv_go (by omega), hsc]), rfl⟩)
          · exfalso; omega
        · exfalso; omega
      · exfalso; omega
    · skip
      refine bg_iload6 (pc := 106) X1 dL_added_106 ?_
      refine bg_iconst (pc := 108) X1 dL_added_108 (by decide) ?_
      refine bg_icmp_ne (pc := 109) X1 (tgt := 146) dL_added_109 (by decide) (fun u109 => ?_) (fun u109 => ?_)
      · refine bg_iload6 (pc := 146) X1 dL_added_146 ?_
        refine bg_iconst (pc := 148) X1 dL_added_148 (by decide) ?_
        refine bg_icmp_ne (pc := 149) X1 (tgt := 169) dL_added_149 (by decide) (fun u149 => ?_) (fun u149 => ?_)
        · refine bg_iload6 (pc := 169) X1 dL_added_169 ?_
          refine bg_iconst (pc := 171) X1 dL_added_171 (by decide) ?_
          refine bg_icmp_ne (pc := 172) X1 (tgt := 192) dL_added_172 (by decide) (fun u172 => ?_) (fun u172 => ?_)
          · exfalso; omega
          · refine bg_iload8 (pc := 175) X1 dL_added_175 ?_
            refine bg_if_eq (pc := 177) X1 (tgt := 189) dL_added_177 (by decide) (fun u177 => ?_) (fun u177 => ?_)
            · have hsc : sc (mq S a b) 4 i.toNat j.toNat < 0 := by
                rw [sc_4n (show ¬ j.toNat < (sq S b).length from fun h => by have := F2 (by omega); omega)]
                decide
              refine bg_ldc (pc := 189) X1 dL_added_189 kL_15 (by decide) ?_
              exact bo_iret (pc := 191) X rfl dL_added_191 (fun hi => ⟨by first | (rw [scv_no hsc]) | (rw [scv_go (by omega), hsc]), rfl⟩)
            · have hjB : j < ((sq S b).length : Int) := Classical.byContradiction (fun h => by have k1 := F2n h; omega)
              have k2 := F2 hjB
              have hsc : sc (mq S a b) 4 i.toNat j.toNat = pM (mkP S a.toNat b.toNat) mB := by rw [sc_4 (show j.toNat < (sq S b).length by omega), k2.2.1]; rfl
              have hm2 := hM mB ⟨by omega, by omega⟩
              refine bg_aload0 (pc := 180) X1 dL_added_180 ?_
              refine bg_iload10 (pc := 181) X1 dL_added_181 ?_
              refine bq_S2i (pc := 183) X1 (c_L_alone (a := a.toNat) (b := b.toNat) hS ok ⟨by omega, by omega⟩) sL_alone lL_16 rfl (by decide) dL_added_183 (by exact Nat.le_of_ble_eq_true rfl) (by decide) ?_
              rintro _ _ ⟨h9, h8⟩
              obtain rfl := h9.symm
              obtain rfl := h8.symm
              clear h9 h8
              refine bg_goto (pc := 186) X1 (tgt := 191) dL_added_186 (by decide) ?_
              exact bo_iret (pc := 191) X rfl dL_added_191 (fun hi => ⟨by first | (rw [scv_no hsc]) | (rw [scv_go (by omega), hsc]), rfl⟩)
        · exfalso; omega
      · exfalso; omega
  by_cases hiA : i < ((sq S a).length : Int) <;> by_cases hjB : j < ((sq S b).length : Int)
  · have hma := mkOK okA (k := i.toNat) (by omega)
    have hmb := mkOK okB (k := j.toNat) (by omega)
    have htb := thOK okB (k := j.toNat) (by omega)
    refine bg_iload3 (pc := 0) X1 dL_added_0 ?_
    refine bg_aload0 (pc := 1) X1 dL_added_1 ?_
    refine bg_bipush (pc := 2) X1 dL_added_2 rfl (by decide) ?_
    refine bg_iload2 (pc := 4) X1 dL_added_4 ?_
    refine bg_iadd (pc := 5) X1 dL_added_5 (by omega) ?_
    refine bq_iaload (pc := 6) X1 dL_added_6 (by first | assumption | rfl) (by omega) ?_
    rw [rw_len hS ha]
    refine bg_icmp_ge (pc := 7) X1 (tgt := 14) dL_added_7 (by decide) (fun u7 => ?_) (fun u7 => ?_)
    · exfalso; omega
    · refine bg_iconst (pc := 10) X1 dL_added_10 (by decide) ?_
      refine bg_goto (pc := 11) X1 (tgt := 15) dL_added_11 (by decide) ?_
      refine bg_istore7 (pc := 15) X1 dL_added_15 ?_
      refine bg_iload5 (pc := 17) X1 dL_added_17 ?_
      refine bg_aload0 (pc := 19) X1 dL_added_19 ?_
      refine bg_bipush (pc := 20) X1 dL_added_20 rfl (by decide) ?_
      refine bg_iload4 (pc := 22) X1 dL_added_22 ?_
      refine bg_iadd (pc := 24) X1 dL_added_24 (by omega) ?_
      refine bq_iaload (pc := 25) X1 dL_added_25 (by first | assumption | rfl) (by omega) ?_
      rw [rw_len hS hb]
      refine bg_icmp_ge (pc := 26) X1 (tgt := 33) dL_added_26 (by decide) (fun u26 => ?_) (fun u26 => ?_)
      · exfalso; omega
      · refine bg_iconst (pc := 29) X1 dL_added_29 (by decide) ?_
        refine bg_goto (pc := 30) X1 (tgt := 34) dL_added_30 (by decide) ?_
        refine bg_istore8 (pc := 34) X1 dL_added_34 ?_
        refine bg_iload7 (pc := 36) X1 dL_added_36 ?_
        refine bg_if_eq (pc := 38) X1 (tgt := 54) dL_added_38 (by decide) (fun u38 => ?_) (fun u38 => ?_)
        · exfalso; omega
        · refine bg_aload1 (pc := 41) X1 dL_added_41 ?_
          refine bg_bipush (pc := 42) X1 dL_added_42 rfl (by decide) ?_
          refine bg_iload2 (pc := 44) X1 dL_added_44 ?_
          refine bg_imul (pc := 45) X1 dL_added_45 (by omega) ?_
          refine bg_iconst (pc := 46) X1 dL_added_46 (by decide) ?_
          refine bg_iload3 (pc := 47) X1 dL_added_47 ?_
          refine bg_imul (pc := 48) X1 dL_added_48 (by omega) ?_
          refine bg_iadd (pc := 49) X1 dL_added_49 (by omega) ?_
          refine bq_iaload (pc := 50) X1 dL_added_50 (by first | assumption | rfl) (by omega) ?_
          rw [rw_mrk hS ha ⟨by omega, by omega⟩]
          refine bg_goto (pc := 51) X1 (tgt := 55) dL_added_51 (by decide) ?_
          refine bg_istore9 (pc := 55) X1 dL_added_55 ?_
          refine bg_iload8 (pc := 57) X1 dL_added_57 ?_
          refine bg_if_eq (pc := 59) X1 (tgt := 77) dL_added_59 (by decide) (fun u59 => ?_) (fun u59 => ?_)
          · exfalso; omega
          · refine bg_aload1 (pc := 62) X1 dL_added_62 ?_
            refine bg_bipush (pc := 63) X1 dL_added_63 rfl (by decide) ?_
            refine bg_iload4 (pc := 65) X1 dL_added_65 ?_
            refine bg_imul (pc := 67) X1 dL_added_67 (by omega) ?_
            refine bg_iconst (pc := 68) X1 dL_added_68 (by decide) ?_
            refine bg_iload5 (pc := 69) X1 dL_added_69 ?_
            refine bg_imul (pc := 71) X1 dL_added_71 (by omega) ?_
            refine bg_iadd (pc := 72) X1 dL_added_72 (by omega) ?_
            refine bq_iaload (pc := 73) X1 dL_added_73 (by first | assumption | rfl) (by omega) ?_
            rw [rw_mrk hS hb ⟨by omega, by omega⟩]
            refine bg_goto (pc := 74) X1 (tgt := 79) dL_added_74 (by decide) ?_
            refine bg_istore10 (pc := 79) X1 dL_added_79 ?_
            refine bg_iload8 (pc := 81) X1 dL_added_81 ?_
            refine bg_if_eq (pc := 83) X1 (tgt := 103) dL_added_83 (by decide) (fun u83 => ?_) (fun u83 => ?_)
            · exfalso; omega
            · refine bg_aload1 (pc := 86) X1 dL_added_86 ?_
              refine bg_bipush (pc := 87) X1 dL_added_87 rfl (by decide) ?_
              refine bg_iload4 (pc := 89) X1 dL_added_89 ?_
              refine bg_imul (pc := 91) X1 dL_added_91 (by omega) ?_
              refine bg_iconst (pc := 92) X1 dL_added_92 (by decide) ?_
              refine bg_iload5 (pc := 93) X1 dL_added_93 ?_
              refine bg_imul (pc := 95) X1 dL_added_95 (by omega) ?_
              refine bg_iadd (pc := 96) X1 dL_added_96 (by omega) ?_
              refine bg_iconst (pc := 97) X1 dL_added_97 (by decide) ?_
              refine bg_iadd (pc := 98) X1 dL_added_98 (by omega) ?_
              refine bq_iaload (pc := 99) X1 dL_added_99 (by first | assumption | rfl) (by omega) ?_
              rw [rw_th hS hb ⟨by omega, by omega⟩]
              refine bg_goto (pc := 100) X1 (tgt := 104) dL_added_100 (by decide) ?_
              refine bg_istore11 (pc := 104) X1 dL_added_104 ?_
              exact mid _ _ _ _ _ _ (fun _ => ⟨rfl, rfl, hma.1, hma.2⟩) (fun h => absurd hiA h) (fun _ => ⟨rfl, rfl, hmb.1, hmb.2, rfl, htb.1, htb.2⟩) (fun h => absurd hjB h)
  · have hma := mkOK okA (k := i.toNat) (by omega)
    refine bg_iload3 (pc := 0) X1 dL_added_0 ?_
    refine bg_aload0 (pc := 1) X1 dL_added_1 ?_
    refine bg_bipush (pc := 2) X1 dL_added_2 rfl (by decide) ?_
    refine bg_iload2 (pc := 4) X1 dL_added_4 ?_
    refine bg_iadd (pc := 5) X1 dL_added_5 (by omega) ?_
    refine bq_iaload (pc := 6) X1 dL_added_6 (by first | assumption | rfl) (by omega) ?_
    rw [rw_len hS ha]
    refine bg_icmp_ge (pc := 7) X1 (tgt := 14) dL_added_7 (by decide) (fun u7 => ?_) (fun u7 => ?_)
    · exfalso; omega
    · refine bg_iconst (pc := 10) X1 dL_added_10 (by decide) ?_
      refine bg_goto (pc := 11) X1 (tgt := 15) dL_added_11 (by decide) ?_
      refine bg_istore7 (pc := 15) X1 dL_added_15 ?_
      refine bg_iload5 (pc := 17) X1 dL_added_17 ?_
      refine bg_aload0 (pc := 19) X1 dL_added_19 ?_
      refine bg_bipush (pc := 20) X1 dL_added_20 rfl (by decide) ?_
      refine bg_iload4 (pc := 22) X1 dL_added_22 ?_
      refine bg_iadd (pc := 24) X1 dL_added_24 (by omega) ?_
      refine bq_iaload (pc := 25) X1 dL_added_25 (by first | assumption | rfl) (by omega) ?_
      rw [rw_len hS hb]
      refine bg_icmp_ge (pc := 26) X1 (tgt := 33) dL_added_26 (by decide) (fun u26 => ?_) (fun u26 => ?_)
      · refine bg_iconst (pc := 33) X1 dL_added_33 (by decide) ?_
        refine bg_istore8 (pc := 34) X1 dL_added_34 ?_
        refine bg_iload7 (pc := 36) X1 dL_added_36 ?_
        refine bg_if_eq (pc := 38) X1 (tgt := 54) dL_added_38 (by decide) (fun u38 => ?_) (fun u38 => ?_)
        · exfalso; omega
        · refine bg_aload1 (pc := 41) X1 dL_added_41 ?_
          refine bg_bipush (pc := 42) X1 dL_added_42 rfl (by decide) ?_
          refine bg_iload2 (pc := 44) X1 dL_added_44 ?_
          refine bg_imul (pc := 45) X1 dL_added_45 (by omega) ?_
          refine bg_iconst (pc := 46) X1 dL_added_46 (by decide) ?_
          refine bg_iload3 (pc := 47) X1 dL_added_47 ?_
          refine bg_imul (pc := 48) X1 dL_added_48 (by omega) ?_
          refine bg_iadd (pc := 49) X1 dL_added_49 (by omega) ?_
          refine bq_iaload (pc := 50) X1 dL_added_50 (by first | assumption | rfl) (by omega) ?_
          rw [rw_mrk hS ha ⟨by omega, by omega⟩]
          refine bg_goto (pc := 51) X1 (tgt := 55) dL_added_51 (by decide) ?_
          refine bg_istore9 (pc := 55) X1 dL_added_55 ?_
          refine bg_iload8 (pc := 57) X1 dL_added_57 ?_
          refine bg_if_eq (pc := 59) X1 (tgt := 77) dL_added_59 (by decide) (fun u59 => ?_) (fun u59 => ?_)
          · refine bg_bipush (pc := 77) X1 dL_added_77 rfl (by decide) ?_
            refine bg_istore10 (pc := 79) X1 dL_added_79 ?_
            refine bg_iload8 (pc := 81) X1 dL_added_81 ?_
            refine bg_if_eq (pc := 83) X1 (tgt := 103) dL_added_83 (by decide) (fun u83 => ?_) (fun u83 => ?_)
            · refine bg_iconst (pc := 103) X1 dL_added_103 (by decide) ?_
              refine bg_istore11 (pc := 104) X1 dL_added_104 ?_
              exact mid _ _ _ _ _ _ (fun _ => ⟨rfl, rfl, hma.1, hma.2⟩) (fun h => absurd hiA h) (fun h => absurd h hjB) (fun _ => ⟨rfl, rfl, rfl⟩)
            · exfalso; omega
          · exfalso; omega
      · exfalso; omega
  · have hmb := mkOK okB (k := j.toNat) (by omega)
    have htb := thOK okB (k := j.toNat) (by omega)
    refine bg_iload3 (pc := 0) X1 dL_added_0 ?_
    refine bg_aload0 (pc := 1) X1 dL_added_1 ?_
    refine bg_bipush (pc := 2) X1 dL_added_2 rfl (by decide) ?_
    refine bg_iload2 (pc := 4) X1 dL_added_4 ?_
    refine bg_iadd (pc := 5) X1 dL_added_5 (by omega) ?_
    refine bq_iaload (pc := 6) X1 dL_added_6 (by first | assumption | rfl) (by omega) ?_
    rw [rw_len hS ha]
    refine bg_icmp_ge (pc := 7) X1 (tgt := 14) dL_added_7 (by decide) (fun u7 => ?_) (fun u7 => ?_)
    · refine bg_iconst (pc := 14) X1 dL_added_14 (by decide) ?_
      refine bg_istore7 (pc := 15) X1 dL_added_15 ?_
      refine bg_iload5 (pc := 17) X1 dL_added_17 ?_
      refine bg_aload0 (pc := 19) X1 dL_added_19 ?_
      refine bg_bipush (pc := 20) X1 dL_added_20 rfl (by decide) ?_
      refine bg_iload4 (pc := 22) X1 dL_added_22 ?_
      refine bg_iadd (pc := 24) X1 dL_added_24 (by omega) ?_
      refine bq_iaload (pc := 25) X1 dL_added_25 (by first | assumption | rfl) (by omega) ?_
      rw [rw_len hS hb]
      refine bg_icmp_ge (pc := 26) X1 (tgt := 33) dL_added_26 (by decide) (fun u26 => ?_) (fun u26 => ?_)
      · exfalso; omega
      · refine bg_iconst (pc := 29) X1 dL_added_29 (by decide) ?_
        refine bg_goto (pc := 30) X1 (tgt := 34) dL_added_30 (by decide) ?_
        refine bg_istore8 (pc := 34) X1 dL_added_34 ?_
        refine bg_iload7 (pc := 36) X1 dL_added_36 ?_
        refine bg_if_eq (pc := 38) X1 (tgt := 54) dL_added_38 (by decide) (fun u38 => ?_) (fun u38 => ?_)
        · refine bg_iconst (pc := 54) X1 dL_added_54 (by decide) ?_
          refine bg_istore9 (pc := 55) X1 dL_added_55 ?_
          refine bg_iload8 (pc := 57) X1 dL_added_57 ?_
          refine bg_if_eq (pc := 59) X1 (tgt := 77) dL_added_59 (by decide) (fun u59 => ?_) (fun u59 => ?_)
          · exfalso; omega
          · refine bg_aload1 (pc := 62) X1 dL_added_62 ?_
            refine bg_bipush (pc := 63) X1 dL_added_63 rfl (by decide) ?_
            refine bg_iload4 (pc := 65) X1 dL_added_65 ?_
            refine bg_imul (pc := 67) X1 dL_added_67 (by omega) ?_
            refine bg_iconst (pc := 68) X1 dL_added_68 (by decide) ?_
            refine bg_iload5 (pc := 69) X1 dL_added_69 ?_
            refine bg_imul (pc := 71) X1 dL_added_71 (by omega) ?_
            refine bg_iadd (pc := 72) X1 dL_added_72 (by omega) ?_
            refine bq_iaload (pc := 73) X1 dL_added_73 (by first | assumption | rfl) (by omega) ?_
            rw [rw_mrk hS hb ⟨by omega, by omega⟩]
            refine bg_goto (pc := 74) X1 (tgt := 79) dL_added_74 (by decide) ?_
            refine bg_istore10 (pc := 79) X1 dL_added_79 ?_
            refine bg_iload8 (pc := 81) X1 dL_added_81 ?_
            refine bg_if_eq (pc := 83) X1 (tgt := 103) dL_added_83 (by decide) (fun u83 => ?_) (fun u83 => ?_)
            · exfalso; omega
            · refine bg_aload1 (pc := 86) X1 dL_added_86 ?_
              refine bg_bipush (pc := 87) X1 dL_added_87 rfl (by decide) ?_
              refine bg_iload4 (pc := 89) X1 dL_added_89 ?_
              refine bg_imul (pc := 91) X1 dL_added_91 (by omega) ?_
              refine bg_iconst (pc := 92) X1 dL_added_92 (by decide) ?_
              refine bg_iload5 (pc := 93) X1 dL_added_93 ?_
              refine bg_imul (pc := 95) X1 dL_added_95 (by omega) ?_
              refine bg_iadd (pc := 96) X1 dL_added_96 (by omega) ?_
              refine bg_iconst (pc := 97) X1 dL_added_97 (by decide) ?_
              refine bg_iadd (pc := 98) X1 dL_added_98 (by omega) ?_
              refine bq_iaload (pc := 99) X1 dL_added_99 (by first | assumption | rfl) (by omega) ?_
              rw [rw_th hS hb ⟨by omega, by omega⟩]
              refine bg_goto (pc := 100) X1 (tgt := 104) dL_added_100 (by decide) ?_
              refine bg_istore11 (pc := 104) X1 dL_added_104 ?_
              exact mid _ _ _ _ _ _ (fun h => absurd h hiA) (fun _ => ⟨rfl, rfl⟩) (fun _ => ⟨rfl, rfl, hmb.1, hmb.2, rfl, htb.1, htb.2⟩) (fun h => absurd hjB h)
        · exfalso; omega
    · exfalso; omega
  · skip
    refine bg_iload3 (pc := 0) X1 dL_added_0 ?_
    refine bg_aload0 (pc := 1) X1 dL_added_1 ?_
    refine bg_bipush (pc := 2) X1 dL_added_2 rfl (by decide) ?_
    refine bg_iload2 (pc := 4) X1 dL_added_4 ?_
    refine bg_iadd (pc := 5) X1 dL_added_5 (by omega) ?_
    refine bq_iaload (pc := 6) X1 dL_added_6 (by first | assumption | rfl) (by omega) ?_
    rw [rw_len hS ha]
    refine bg_icmp_ge (pc := 7) X1 (tgt := 14) dL_added_7 (by decide) (fun u7 => ?_) (fun u7 => ?_)
    · refine bg_iconst (pc := 14) X1 dL_added_14 (by decide) ?_
      refine bg_istore7 (pc := 15) X1 dL_added_15 ?_
      refine bg_iload5 (pc := 17) X1 dL_added_17 ?_
      refine bg_aload0 (pc := 19) X1 dL_added_19 ?_
      refine bg_bipush (pc := 20) X1 dL_added_20 rfl (by decide) ?_
      refine bg_iload4 (pc := 22) X1 dL_added_22 ?_
      refine bg_iadd (pc := 24) X1 dL_added_24 (by omega) ?_
      refine bq_iaload (pc := 25) X1 dL_added_25 (by first | assumption | rfl) (by omega) ?_
      rw [rw_len hS hb]
      refine bg_icmp_ge (pc := 26) X1 (tgt := 33) dL_added_26 (by decide) (fun u26 => ?_) (fun u26 => ?_)
      · refine bg_iconst (pc := 33) X1 dL_added_33 (by decide) ?_
        refine bg_istore8 (pc := 34) X1 dL_added_34 ?_
        refine bg_iload7 (pc := 36) X1 dL_added_36 ?_
        refine bg_if_eq (pc := 38) X1 (tgt := 54) dL_added_38 (by decide) (fun u38 => ?_) (fun u38 => ?_)
        · refine bg_iconst (pc := 54) X1 dL_added_54 (by decide) ?_
          refine bg_istore9 (pc := 55) X1 dL_added_55 ?_
          refine bg_iload8 (pc := 57) X1 dL_added_57 ?_
          refine bg_if_eq (pc := 59) X1 (tgt := 77) dL_added_59 (by decide) (fun u59 => ?_) (fun u59 => ?_)
          · refine bg_bipush (pc := 77) X1 dL_added_77 rfl (by decide) ?_
            refine bg_istore10 (pc := 79) X1 dL_added_79 ?_
            refine bg_iload8 (pc := 81) X1 dL_added_81 ?_
            refine bg_if_eq (pc := 83) X1 (tgt := 103) dL_added_83 (by decide) (fun u83 => ?_) (fun u83 => ?_)
            · refine bg_iconst (pc := 103) X1 dL_added_103 (by decide) ?_
              refine bg_istore11 (pc := 104) X1 dL_added_104 ?_
              exact mid _ _ _ _ _ _ (fun h => absurd h hiA) (fun _ => ⟨rfl, rfl⟩) (fun h => absurd h hjB) (fun _ => ⟨rfl, rfl, rfl⟩)
            · exfalso; omega
          · exfalso; omega
        · exfalso; omega
      · exfalso; omega
    · exfalso; omega
