/-! the law: what it does to the class, and to its own rows -/
def actI (g : bg_E) (Z : bm_X) (T : Int) : Prop := clsR g Z ∧ okX Z ∧ rwR g Z.1 ∧ len6 Z.1 ∧ accB Z.1 T ∧ accC Z.1
def aP (g : bg_E) (T : Int) : Int → bg_E → Prop := fun r g' => r = 1 ∧ (∃ Z', actI g' Z' (T + 600)) ∧ 0 ≤ g' bg_PZ 0 ∧ g' bg_PZ 0 ≤ g bg_PZ 0 + 1
theorem PZ8 : bg_PZ ≠ 198 := by unfold bg_PZ; omega
theorem PZ9 : bg_PZ ≠ 199 := by unfold bg_PZ; omega
theorem accB.up {S : bm_S} {T : Int} (h : accB S T) (hT : 0 ≤ T) : accB S (T + 600) := fun a h1 h2 => by have := h a h1 h2; omega
theorem rwR.num {g : bg_E} {S : bm_S} (h : rwR g S) {w : Nat} {v : Int} (hw : w < 5) : rwR (bg_up g 198 w v) (sNum S w v) := by
  obtain ⟨h1, h2, h3, h4, h5⟩ := h
  refine ⟨fun k hk => ?_, ?_, fun a ha => ?_, fun a k ha hk => ?_, fun a ha hb => ?_⟩
  · show _ = fup S.1 w v k
    by_cases e : k = w
    · subst e; rw [up_eq, fup_eq]
    · rw [up_k e, fup_ne e]; exact h1 k hk
  · rw [up_k (by omega)]; exact h2
  · rw [up_k (by omega), up_k (by omega)]; exact h3 a ha
  · rw [bg_up_ne (by omega)]; exact h4 a k ha hk
  · rw [up_k (by omega)]; exact h5 a ha hb
theorem rwR.key {g : bg_E} {S : bm_S} (h : rwR g S) {K : Int} : rwR (bg_up g 198 5 K) (sKey S K) := by
  obtain ⟨h1, h2, h3, h4, h5⟩ := h
  refine ⟨fun k hk => ?_, ?_, fun a ha => ?_, fun a k ha hk => ?_, fun a ha hb => ?_⟩
  · rw [up_k (by omega)]; exact h1 k hk
  · rw [up_eq]; rfl
  · rw [up_k (by omega), up_k (by omega)]; exact h3 a ha
  · rw [bg_up_ne (by omega)]; exact h4 a k ha hk
  · rw [up_k (by omega)]; exact h5 a ha hb
theorem rwR.col {g : bg_E} {S : bm_S} (h : rwR g S) {c : Nat} {e : Int} (hc : c < 4) : rwR (bg_up g 198 (6 + c) e) (sCol S c e) := by
  obtain ⟨h1, h2, h3, h4, h5⟩ := h
  refine ⟨fun k hk => ?_, ?_, fun a ha => ?_, fun a k ha hk => ?_, fun a ha hb => ?_⟩
  · rw [up_k (by omega)]; exact h1 k hk
  · rw [up_k (by omega)]; exact h2
  · rw [up_k (show 10 + a ≠ 6 + c by omega)]
    refine ⟨?_, (h3 a ha).2⟩
    show _ = fup S.2.2.1 c e a
    by_cases e : a = c
    · subst e; rw [up_eq, fup_eq]
    · rw [up_k (by omega), fup_ne e]; exact (h3 a ha).1
  · rw [bg_up_ne (by omega)]; exact h4 a k ha hk
  · rw [up_k (by omega)]; exact h5 a ha hb
theorem rwR.bed {g g' : bg_E} {S : bm_S} {h : Nat} {q : bm_Q} {A : Nat → Int} (hS : rwR g S) (h6 : len6 S) (e1 : ∀ k, k < 14 → k ≠ 10 + h → g' 198 k = g 198 k) (hh : h < 4) (e2 : g' 198 (10 + h) = (q.length : Int)) (e3 : ∀ k, ¬ (12 * h ≤ k ∧ k < 12 * h + 12) → g' 199 k = g 199 k) (e4 : ∀ k, k < q.length → g' 199 (12 * h + 2 * k) = mrk q k ∧ g' 199 (12 * h + 2 * k + 1) = th q k) (e5 : ∀ a, 1 ≤ a → a < 5 → g' 198 (13 + a) = A a) : rwR g' (S.1, S.2.1, S.2.2.1, fup S.2.2.2.1 h q, A) := by
  obtain ⟨h1, h2, h3, h4, h5⟩ := hS
  refine ⟨fun k hk => ?_, ?_, fun a ha => ?_, fun a k ha hk => ?_, fun a ha hb => e5 a ha hb⟩
  · rw [e1 k (by omega) (by omega)]; exact h1 k hk
  · rw [e1 5 (by omega) (by omega)]; exact h2
  · rw [e1 (6 + a) (by omega) (by omega)]
    refine ⟨(h3 a ha).1, ?_⟩
    show g' 198 (10 + a) = ((fup S.2.2.2.1 h q a).length : Int)
    by_cases e : a = h
    · subst e; rw [fup_eq]; exact e2
    · rw [fup_ne e, e1 (10 + a) (by omega) (by omega)]; exact (h3 a ha).2
  · have hk : k < (fup S.2.2.2.1 h q a).length := hk
    show g' 199 (12 * a + 2 * k) = mrk (fup S.2.2.2.1 h q a) k ∧ g' 199 (12 * a + 2 * k + 1) = th (fup S.2.2.2.1 h q a) k
    by_cases e : a = h
    · subst e
      rw [fup_eq] at hk ⊢
      exact e4 k hk
    · rw [fup_ne e] at hk ⊢
      have := h6 a ha
      rw [e3 _ (by omega), e3 _ (by omega)]
      exact h4 a k ha hk
theorem lnS_bed {S : bm_S} {h : Nat} {q : bm_Q} {A : Nat → Int} (hh : h < 4) : lnS (S.1, S.2.1, S.2.2.1, fup S.2.2.2.1 h q, A) = lnS S - tot (S.2.2.2.1 h) + tot q := by
  have hc : h = 0 ∨ h = 1 ∨ h = 2 ∨ h = 3 := by omega
  rcases hc with rfl | rfl | rfl | rfl <;> first | (simp [lnS, sumN, fup, tot]; done) | (simp [lnS, sumN, fup, tot]; omega)
theorem len6_bed {S : bm_S} (h6 : len6 S) {h : Nat} {q : bm_Q} {A : Nat → Int} (hq : q.length ≤ 6) : len6 (S.1, S.2.1, S.2.2.1, fup S.2.2.2.1 h q, A) := fun a ha => by
  show (fup S.2.2.2.1 h q a).length ≤ 6
  by_cases e : a = h
  · rw [e, fup_eq]; exact hq
  · rw [fup_ne e]; exact h6 a ha
theorem a_num {κ : bg_K} {y : bg_Y} {g : bg_E} {z v h n bed at_ T : Int} {Z : bm_X} (X : bg_Xm κ y mL_acts 7 1 64 (bg_pI (aP g T))) (hI : actI g Z T) (hT : 0 ≤ T ∧ T ≤ 1000000) (hPZ : 0 ≤ g bg_PZ 0) (hv : 0 ≤ v ∧ v < 10000000) (hh : isHo h) (hn : n = ((sq Z.1 h).length : Int)) (hb : 0 ≤ bed ∧ (0 < n → bed < n)) (hat : at_ = 12 * h + 2 * bed) : bg_G κ y (1, 64) 124 [some (.inr 0), some (.inr 198), some (.inr 199), some (.inl z), some (.inl v), some (.inl h), some (.inl n), some (.inl bed), some (.inl at_), none, none, none, none, none, none, none, none, none, none, none, none, none, none, none] [] (bg_O g) := by
  obtain ⟨i1, i2, i3, i4, i5, i6⟩ := hI
  have X1 : bg_X κ y cL_acts RL 7 1 64 := X.1
  have PZ98 : 198 ≤ bg_PZ := PZ_big
  have mid : ∀ (w q : Int) (l11 : Option bg_V), (0 ≤ w ∧ w < 5) → (w = 2 → 0 ≤ q ∧ q ≤ 9) → (w = 3 → 1 ≤ q ∧ q ≤ 8) → (w = 4 → 1 ≤ q ∧ q ≤ 999) → (w < 2 → 1 ≤ q ∧ q ≤ 99) → bg_G κ y (1, 64) 204 [some (.inr 0), some (.inr 198), some (.inr 199), some (.inl z), some (.inl v), some (.inl h), some (.inl n), some (.inl bed), some (.inl at_), some (.inl w), some (.inl q), l11, none, none, none, none, none, none, none, none, none, none, none, none] [] (bg_O g) := by
    intro w q l11 hw r2 r3 r4 r01
    have rng : bg_least w.toNat ≤ q ∧ q ≤ bg_most w.toNat := by
      have hc : w = 0 ∨ w = 1 ∨ w = 2 ∨ w = 3 ∨ w = 4 := by omega
      rcases hc with rfl | rfl | rfl | rfl | rfl
      · exact r01 (by decide)
      · exact r01 (by decide)
      · exact r2 rfl
      · exact r3 rfl
      · exact r4 rfl
    have ex : xSetNumber Z w q = (Z.1.1 w.toNat, xPut Z (sNum Z.1 w.toNat q)) := by
      unfold xSetNumber
      rw [if_pos ⟨hw, rng⟩]
    have hlo : clsR (bg_up g 198 w.toNat q) Z := i1.lo (fun x hx => bg_up_ne (by omega))
    refine bg_aload1 (pc := 204) X1 dL_acts_204 ?_
    refine bg_iload9 (pc := 205) X1 dL_acts_205 ?_
    refine bq_iaload (pc := 207) X1 dL_acts_207 (by first | assumption | rfl) (by omega) ?_
    rw [rw_num i3 hw]
    refine bg_istore11 (pc := 208) X1 dL_acts_208 ?_
    refine bg_aload1 (pc := 210) X1 dL_acts_210 ?_
    refine bg_iload9 (pc := 211) X1 dL_acts_211 ?_
    refine bg_iload10 (pc := 213) X1 dL_acts_213 ?_
    refine bq_iastore (pc := 215) X1 dL_acts_215 (by first | assumption | rfl) (by omega) ?_
    refine bg_aload0 (pc := 216) X1 dL_acts_216 ?_
    refine bg_iload9 (pc := 217) X1 dL_acts_217 ?_
    refine bg_iload10 (pc := 219) X1 dL_acts_219 ?_
    refine bq_V2i (pc := 221) X1 (c_X6_setNumber (Z := Z) hlo) vX6_setNumber lL_42 rfl (by first | assumption | rfl) (by decide) dL_acts_221 (by exact Nat.le_of_ble_eq_true rfl) (by decide) ?_
    rintro _ g3 ⟨rfl, x3, f3⟩
    rw [ex] at x3 ⊢
    refine bg_iload11 (pc := 224) X1 dL_acts_224 ?_
    refine bg_icmp_ne (pc := 226) X1 (tgt := 233) dL_acts_226 (by decide) (fun u226 => ?_) (fun u226 => ?_)
    · exact absurd rfl u226
    · refine bg_iconst (pc := 229) X1 dL_acts_229 (by decide) ?_
      refine bg_goto (pc := 230) X1 (tgt := 234) dL_acts_230 (by decide) ?_
      exact bq_zret (pc := 234) X rfl (by first | exact Or.inl rfl | exact Or.inr rfl | exact b2i_01 _) dL_acts_234 (by
          refine ⟨rfl, ⟨_, x3, ?_, ?_, i4, i5.up hT.1, i6⟩, ?_, ?_⟩
          · have := ok_setNumber i2 (w := w) (v := q)
            rw [ex] at this
            exact this
          · exact (i3.num (by omega)).cg (f3 198 (by omega)) (f3 199 (by omega))
          · rw [f3 _ (Or.inr PZ98), bg_up_ne PZ8]; exact hPZ
          · rw [f3 _ (Or.inr PZ98), bg_up_ne PZ8]; omega)
  refine bg_iload4 (pc := 124) X1 dL_acts_124 ?_
  refine bg_iconst (pc := 126) X1 dL_acts_126 (by decide) ?_
  refine bg_irem (pc := 127) X1 dL_acts_127 (by omega) ?_
  refine bg_istore9 (pc := 128) X1 dL_acts_128 ?_
  refine bg_iload9 (pc := 130) X1 dL_acts_130 ?_
  refine bg_iconst (pc := 132) X1 dL_acts_132 (by decide) ?_
  refine bg_icmp_ne (pc := 133) X1 (tgt := 146) dL_acts_133 (by decide) (fun u133 => ?_) (fun u133 => ?_)
  · refine bg_iconst (pc := 146) X1 dL_acts_146 (by decide) ?_
    refine bg_iload4 (pc := 147) X1 dL_acts_147 ?_
    refine bg_iconst (pc := 149) X1 dL_acts_149 (by decide) ?_
    refine bg_idiv (pc := 150) X1 dL_acts_150 (by omega) ?_
    refine bg_iload9 (pc := 151) X1 dL_acts_151 ?_
    refine bg_iconst (pc := 153) X1 dL_acts_153 (by decide) ?_
    refine bg_icmp_ne (pc := 154) X1 (tgt := 162) dL_acts_154 (by decide) (fun u154 => ?_) (fun u154 => ?_)
    · refine bg_iload9 (pc := 162) X1 dL_acts_162 ?_
      refine bg_iconst (pc := 164) X1 dL_acts_164 (by decide) ?_
      refine bg_icmp_ne (pc := 165) X1 (tgt := 186) dL_acts_165 (by decide) (fun u165 => ?_) (fun u165 => ?_)
      · refine bg_iload4 (pc := 186) X1 dL_acts_186 ?_
        refine bg_iconst (pc := 188) X1 dL_acts_188 (by decide) ?_
        refine bg_irem (pc := 189) X1 dL_acts_189 (by omega) ?_
        refine bg_if_ne (pc := 190) X1 (tgt := 198) dL_acts_190 (by decide) (fun u190 => ?_) (fun u190 => ?_)
        · refine bg_bipush (pc := 198) X1 dL_acts_198 rfl (by decide) ?_
          refine bg_irem (pc := 200) X1 dL_acts_200 (by omega) ?_
          refine bg_iadd (pc := 201) X1 dL_acts_201 (by omega) ?_
          refine bg_istore10 (pc := 202) X1 dL_acts_202 ?_
          exact mid _ _ _ ⟨by omega, by omega⟩ (fun h9 => by omega) (fun h9 => by omega) (fun h9 => by omega) (fun h9 => by omega)
        · refine bg_bipush (pc := 193) X1 dL_acts_193 rfl (by decide) ?_
          refine bg_goto (pc := 195) X1 (tgt := 200) dL_acts_195 (by decide) ?_
          refine bg_irem (pc := 200) X1 dL_acts_200 (by omega) ?_
          refine bg_iadd (pc := 201) X1 dL_acts_201 (by omega) ?_
          refine bg_istore10 (pc := 202) X1 dL_acts_202 ?_
          exact mid _ _ _ ⟨by omega, by omega⟩ (fun h9 => by omega) (fun h9 => by omega) (fun h9 => by omega) (fun h9 => by omega)
      · refine bg_iload4 (pc := 168) X1 dL_acts_168 ?_
        refine bg_iconst (pc := 170) X1 dL_acts_170 (by decide) ?_
        refine bg_irem (pc := 171) X1 dL_acts_171 (by omega) ?_
        refine bg_if_ne (pc := 172) X1 (tgt := 181) dL_acts_172 (by decide) (fun u172 => ?_) (fun u172 => ?_)
        · refine bg_bipush (pc := 181) X1 dL_acts_181 rfl (by decide) ?_
          refine bg_goto (pc := 183) X1 (tgt := 200) dL_acts_183 (by decide) ?_
          refine bg_irem (pc := 200) X1 dL_acts_200 (by omega) ?_
          refine bg_iadd (pc := 201) X1 dL_acts_201 (by omega) ?_
          refine bg_istore10 (pc := 202) X1 dL_acts_202 ?_
          exact mid _ _ _ ⟨by omega, by omega⟩ (fun h9 => by omega) (fun h9 => by omega) (fun h9 => by omega) (fun h9 => by omega)
        · refine bg_sipush (pc := 175) X1 dL_acts_175 rfl (by decide) ?_
          refine bg_goto (pc := 178) X1 (tgt := 200) dL_acts_178 (by decide) ?_
          refine bg_irem (pc := 200) X1 dL_acts_200 (by omega) ?_
          refine bg_iadd (pc := 201) X1 dL_acts_201 (by omega) ?_
          refine bg_istore10 (pc := 202) X1 dL_acts_202 ?_
          exact mid _ _ _ ⟨by omega, by omega⟩ (fun h9 => by omega) (fun h9 => by omega) (fun h9 => by omega) (fun h9 => by omega)
    · refine bg_bipush (pc := 157) X1 dL_acts_157 rfl (by decide) ?_
      refine bg_goto (pc := 159) X1 (tgt := 200) dL_acts_159 (by decide) ?_
      refine bg_irem (pc := 200) X1 dL_acts_200 (by omega) ?_
      refine bg_iadd (pc := 201) X1 dL_acts_201 (by omega) ?_
      refine bg_istore10 (pc := 202) X1 dL_acts_202 ?_
      exact mid _ _ _ ⟨by omega, by omega⟩ (fun h9 => by omega) (fun h9 => by omega) (fun h9 => by omega) (fun h9 => by omega)
  · refine bg_iload4 (pc := 136) X1 dL_acts_136 ?_
    refine bg_iconst (pc := 138) X1 dL_acts_138 (by decide) ?_
    refine bg_idiv (pc := 139) X1 dL_acts_139 (by omega) ?_
    refine bg_bipush (pc := 140) X1 dL_acts_140 rfl (by decide) ?_
    refine bg_irem (pc := 142) X1 dL_acts_142 (by omega) ?_
    refine bg_goto (pc := 143) X1 (tgt := 202) dL_acts_143 (by decide) ?_
    refine bg_istore10 (pc := 202) X1 dL_acts_202 ?_
    exact mid _ _ _ ⟨by omega, by omega⟩ (fun h9 => by omega) (fun h9 => by omega) (fun h9 => by omega) (fun h9 => by omega)
theorem a_key {κ : bg_K} {y : bg_Y} {g : bg_E} {z v h n bed at_ T : Int} {Z : bm_X} (X : bg_Xm κ y mL_acts 7 1 64 (bg_pI (aP g T))) (hI : actI g Z T) (hT : 0 ≤ T ∧ T ≤ 1000000) (hPZ : 0 ≤ g bg_PZ 0) (hv : 0 ≤ v ∧ v < 10000000) (hh : isHo h) (hn : n = ((sq Z.1 h).length : Int)) (hb : 0 ≤ bed ∧ (0 < n → bed < n)) (hat : at_ = 12 * h + 2 * bed) : bg_G κ y (1, 64) 235 [some (.inr 0), some (.inr 198), some (.inr 199), some (.inl z), some (.inl v), some (.inl h), some (.inl n), some (.inl bed), some (.inl at_), none, none, none, none, none, none, none, none, none, none, none, none, none, none, none] [] (bg_O g) := by
  obtain ⟨i1, i2, i3, i4, i5, i6⟩ := hI
  have X1 : bg_X κ y cL_acts RL 7 1 64 := X.1
  have PZ98 : 198 ≤ bg_PZ := PZ_big
  have hm : isMa (v % 5) := ⟨by omega, by omega⟩
  have hi : 0 ≤ v / 5 % 2 ∧ v / 5 % 2 ≤ 1 := by omega
  have e5 : g 198 (5 : Int).toNat = Z.1.2.1 := i3.2.1
  have ex : xSetKey Z (v % 5) (v / 5 % 2) = (kb Z.1.2.1 (v % 5), xPut Z (sKey Z.1 (kset Z.1.2.1 (v % 5) (v / 5 % 2)))) := by
    unfold xSetKey
    rw [if_pos ⟨hm, hi⟩]
  have hlo : clsR (bg_up g 198 5 (kset Z.1.2.1 (v % 5) (v / 5 % 2))) Z := i1.lo (fun x hx => bg_up_ne (by omega))
  refine bg_iload4 (pc := 235) X1 dL_acts_235 ?_
  refine bg_iconst (pc := 237) X1 dL_acts_237 (by decide) ?_
  refine bg_irem (pc := 238) X1 dL_acts_238 (by omega) ?_
  refine bg_istore12 (pc := 239) X1 dL_acts_239 ?_
  refine bg_aload1 (pc := 241) X1 dL_acts_241 ?_
  refine bg_iconst (pc := 242) X1 dL_acts_242 (by decide) ?_
  refine bq_iaload (pc := 243) X1 dL_acts_243 (by first | assumption | rfl) (by omega) ?_
  rw [e5]
  refine bg_iload12 (pc := 244) X1 dL_acts_244 ?_
  refine bg_ishr (pc := 246) X1 dL_acts_246 ?_
  refine bg_iconst (pc := 247) X1 dL_acts_247 (by decide) ?_
  refine bg_iand (pc := 248) X1 dL_acts_248 ?_
  rw [show bg_band (bg_shr Z.1.2.1 (v % 5)) 1 = kb Z.1.2.1 (v % 5) from rfl]
  refine bg_istore13 (pc := 249) X1 dL_acts_249 ?_
  refine bg_aload1 (pc := 251) X1 dL_acts_251 ?_
  refine bg_iconst (pc := 252) X1 dL_acts_252 (by decide) ?_
  refine bg_aload1 (pc := 253) X1 dL_acts_253 ?_
  refine bg_iconst (pc := 254) X1 dL_acts_254 (by decide) ?_
  refine bq_iaload (pc := 255) X1 dL_acts_255 (by first | assumption | rfl) (by omega) ?_
  rw [e5]
  refine bg_iconst (pc := 256) X1 dL_acts_256 (by decide) ?_
  refine bg_iload12 (pc := 257) X1 dL_acts_257 ?_
  refine bg_ishl (pc := 259) X1 dL_acts_259 ?_
  refine bg_iconst (pc := 260) X1 dL_acts_260 (by decide) ?_
  refine bg_ixor (pc := 261) X1 dL_acts_261 ?_
  refine bg_iand (pc := 262) X1 dL_acts_262 ?_
  refine bg_iload4 (pc := 263) X1 dL_acts_263 ?_
  refine bg_iconst (pc := 265) X1 dL_acts_265 (by decide) ?_
  refine bg_idiv (pc := 266) X1 dL_acts_266 (by omega) ?_
  refine bg_iconst (pc := 267) X1 dL_acts_267 (by decide) ?_
  refine bg_irem (pc := 268) X1 dL_acts_268 (by omega) ?_
  refine bg_iload12 (pc := 269) X1 dL_acts_269 ?_
  refine bg_ishl (pc := 271) X1 dL_acts_271 ?_
  refine bg_ior (pc := 272) X1 dL_acts_272 ?_
  refine bq_iastore (pc := 273) X1 dL_acts_273 (by first | assumption | rfl) (by omega) ?_
  rw [show (5 : Int).toNat = 5 from rfl, show bg_bor (bg_band Z.1.2.1 (bg_bxor (bg_shl 1 (v % 5)) (-1))) (bg_shl (v / 5 % 2) (v % 5)) = kset Z.1.2.1 (v % 5) (v / 5 % 2) from rfl]
  refine bg_aload0 (pc := 274) X1 dL_acts_274 ?_
  refine bg_iload12 (pc := 275) X1 dL_acts_275 ?_
  refine bg_iload4 (pc := 277) X1 dL_acts_277 ?_
  refine bg_iconst (pc := 279) X1 dL_acts_279 (by decide) ?_
  refine bg_idiv (pc := 280) X1 dL_acts_280 (by omega) ?_
  refine bg_iconst (pc := 281) X1 dL_acts_281 (by decide) ?_
  refine bg_irem (pc := 282) X1 dL_acts_282 (by omega) ?_
  refine bq_V2i (pc := 283) X1 (c_X6_setKey (Z := Z) hlo i2) vX6_setKey lL_47 rfl (by first | assumption | rfl) (by decide) dL_acts_283 (by exact Nat.le_of_ble_eq_true rfl) (by decide) ?_
  rintro _ g3 ⟨rfl, x3, f3⟩
  rw [ex] at x3 ⊢
  refine bg_iload13 (pc := 286) X1 dL_acts_286 ?_
  refine bg_icmp_ne (pc := 288) X1 (tgt := 295) dL_acts_288 (by decide) (fun u288 => ?_) (fun u288 => ?_)
  · exact absurd rfl u288
  · refine bg_iconst (pc := 291) X1 dL_acts_291 (by decide) ?_
    refine bg_goto (pc := 292) X1 (tgt := 296) dL_acts_292 (by decide) ?_
    exact bq_zret (pc := 296) X rfl (by first | exact Or.inl rfl | exact Or.inr rfl | exact b2i_01 _) dL_acts_296 (by
        refine ⟨rfl, ⟨_, x3, ?_, ?_, i4, i5.up hT.1, i6⟩, ?_, ?_⟩
        · have := ok_setKey i2 (m := v % 5) (i := v / 5 % 2)
          rw [ex] at this
          exact this
        · exact i3.key.cg (f3 198 (by omega)) (f3 199 (by omega))
        · rw [f3 _ (Or.inr PZ98), bg_up_ne PZ8]; exact hPZ
        · rw [f3 _ (Or.inr PZ98), bg_up_ne PZ8]; omega)
theorem a_col {κ : bg_K} {y : bg_Y} {g : bg_E} {z v h n bed at_ T : Int} {Z : bm_X} (X : bg_Xm κ y mL_acts 7 1 64 (bg_pI (aP g T))) (hI : actI g Z T) (hT : 0 ≤ T ∧ T ≤ 1000000) (hPZ : 0 ≤ g bg_PZ 0) (hv : 0 ≤ v ∧ v < 10000000) (hh : isHo h) (hn : n = ((sq Z.1 h).length : Int)) (hb : 0 ≤ bed ∧ (0 < n → bed < n)) (hat : at_ = 12 * h + 2 * bed) : bg_G κ y (1, 64) 297 [some (.inr 0), some (.inr 198), some (.inr 199), some (.inl z), some (.inl v), some (.inl h), some (.inl n), some (.inl bed), some (.inl at_), none, none, none, none, none, none, none, none, none, none, none, none, none, none, none] [] (bg_O g) := by
  obtain ⟨i1, i2, i3, i4, i5, i6⟩ := hI
  have X1 : bg_X κ y cL_acts RL 7 1 64 := X.1
  have PZ98 : 198 ≤ bg_PZ := PZ_big
  have hq : -9999 ≤ v / 4 % 19999 - 9999 ∧ v / 4 % 19999 - 9999 ≤ 9999 := by omega
  have ex : xSetCollar Z h (v / 4 % 19999 - 9999) = (Z.1.2.2.1 h.toNat, xPut Z (sCol Z.1 h.toNat (v / 4 % 19999 - 9999))) := by
    unfold xSetCollar
    rw [if_pos ⟨hh, hq⟩]
  have hlo : clsR (bg_up g 198 (6 + h).toNat (v / 4 % 19999 - 9999)) Z := i1.lo (fun x hx => bg_up_ne (by omega))
  refine bg_aload1 (pc := 297) X1 dL_acts_297 ?_
  refine bg_bipush (pc := 298) X1 dL_acts_298 rfl (by decide) ?_
  refine bg_iload5 (pc := 300) X1 dL_acts_300 ?_
  refine bg_iadd (pc := 302) X1 dL_acts_302 (by omega) ?_
  refine bq_iaload (pc := 303) X1 dL_acts_303 (by first | assumption | rfl) (by omega) ?_
  rw [rw_col i3 hh]
  refine bg_istore14 (pc := 304) X1 dL_acts_304 ?_
  refine bg_aload1 (pc := 306) X1 dL_acts_306 ?_
  refine bg_bipush (pc := 307) X1 dL_acts_307 rfl (by decide) ?_
  refine bg_iload5 (pc := 309) X1 dL_acts_309 ?_
  refine bg_iadd (pc := 311) X1 dL_acts_311 (by omega) ?_
  refine bg_iload4 (pc := 312) X1 dL_acts_312 ?_
  refine bg_iconst (pc := 314) X1 dL_acts_314 (by decide) ?_
  refine bg_idiv (pc := 315) X1 dL_acts_315 (by omega) ?_
  refine bg_sipush (pc := 316) X1 dL_acts_316 rfl (by decide) ?_
  refine bg_irem (pc := 319) X1 dL_acts_319 (by omega) ?_
  refine bg_sipush (pc := 320) X1 dL_acts_320 rfl (by decide) ?_
  refine bg_isub (pc := 323) X1 dL_acts_323 (by omega) ?_
  refine bq_iastore (pc := 324) X1 dL_acts_324 (by first | assumption | rfl) (by omega) ?_
  refine bg_aload0 (pc := 325) X1 dL_acts_325 ?_
  refine bg_iload5 (pc := 326) X1 dL_acts_326 ?_
  refine bg_aload1 (pc := 328) X1 dL_acts_328 ?_
  refine bg_bipush (pc := 329) X1 dL_acts_329 rfl (by decide) ?_
  refine bg_iload5 (pc := 331) X1 dL_acts_331 ?_
  refine bg_iadd (pc := 333) X1 dL_acts_333 (by omega) ?_
  refine bq_iaload (pc := 334) X1 dL_acts_334 (by first | assumption | rfl) (by omega) ?_
  rw [up_eq]
  refine bq_V2i (pc := 335) X1 (c_X6_setCollar (Z := Z) hlo) vX6_setCollar lL_50 rfl (by first | assumption | rfl) (by decide) dL_acts_335 (by exact Nat.le_of_ble_eq_true rfl) (by decide) ?_
  rintro _ g3 ⟨rfl, x3, f3⟩
  rw [ex] at x3 ⊢
  refine bg_iload14 (pc := 338) X1 dL_acts_338 ?_
  refine bg_icmp_ne (pc := 340) X1 (tgt := 347) dL_acts_340 (by decide) (fun u340 => ?_) (fun u340 => ?_)
  · exact absurd rfl u340
  · refine bg_iconst (pc := 343) X1 dL_acts_343 (by decide) ?_
    refine bg_goto (pc := 344) X1 (tgt := 348) dL_acts_344 (by decide) ?_
    exact bq_zret (pc := 348) X rfl (by first | exact Or.inl rfl | exact Or.inr rfl | exact b2i_01 _) dL_acts_348 (by
        refine ⟨rfl, ⟨_, x3, ?_, ?_, i4, i5.up hT.1, i6⟩, ?_, ?_⟩
        · have := ok_setCollar i2 (a := h) (e := v / 4 % 19999 - 9999)
          rw [ex] at this
          exact this
        · have := i3.col (c := h.toNat) (e := v / 4 % 19999 - 9999) (by omega)
          rw [show 6 + h.toNat = (6 + h).toNat by omega] at this
          exact this.cg (f3 198 (by omega)) (f3 199 (by omega))
        · rw [f3 _ (Or.inr PZ98), bg_up_ne PZ8]; exact hPZ
        · rw [f3 _ (Or.inr PZ98), bg_up_ne PZ8]; omega)
