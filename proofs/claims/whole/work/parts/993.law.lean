-- NAME law
/-! the law: its calls, one by one -/
abbrev M_law : m_M := (yL_law, cL_law, 7, (some .boolean), [])
abbrev lB : m_B := (M_law, 11, fun v _ => v = some (.int 1), fun _ _ => False)
/-- behind a call: on to the next -/
def lT (S : m_S) (c i : Nat) : Prop := ∀ (I : m_I) (lg : Int64) (d5 d6 : Option Value) (rc rs : Nat), Iv (c + 1) I → Cr I I → 512 - (c + 1) ≤ rc → 6 * (512 - (c + 1)) ≤ rs → m_W S lB 1969 [some (.ref m_scr), some (.ref 0), some (.ref 143), some (.ref 177), some (.int (nI i)), d5, d6] [] (hh I lg) rc rs
theorem lg_self (x : Int64) : lg_cmp x x = 0 := by
  unfold lg_cmp
  rw [if_neg (Int64.lt_irrefl), if_pos rfl]
theorem nI_z0 {z : Nat} (hz : z < 4) (h : nI z = 0) : z = 0 := by
  have e := congrArg vN h
  rw [vN_nI (by omega)] at e
  exact e
theorem qY1 {S : m_S} {B : m_B} {pc : Nat} {L : m_L} {st : List Value} {h : m_H} {rc rs : Nat} {idx d rc2 rs2 : Nat} {M : m_M} {a0 : Value} {h2 : m_H} {v : Option Value} (hd : decode B.1.2.1 pc = .ok (.invokestatic idx, 3)) (hf : m_CX B.1.1.cls idx M 1) (hd9 : d + 1 ≤ B.2.1) (c0 : a0.category = 1) (hlen : 1 ≤ M.2.2.1) (hsum : (st.map fun v => v.category).sum ≤ 8) (hc : m_RR S M d [a0] h v h2 rc2 rs2) (h1 : rc2 ≤ rc) (h3 : rs2 ≤ rs) (hh2 : h2.1 = h.1) (kk : m_W S B (pc + 3) L (v.toList ++ st) h2 (rc - rc2) (rs - rs2)) : m_W S B pc L (a0 :: st) h rc rs := qY (As := [a0]) hd hf hd9 ⟨(fun v hv => by simp only [List.mem_cons, List.not_mem_nil, or_false] at hv; rcases hv with rfl <;> first | rfl | assumption), hlen, hsum⟩ rfl hc h1 h3 hh2 kk
theorem qY2 {S : m_S} {B : m_B} {pc : Nat} {L : m_L} {st : List Value} {h : m_H} {rc rs : Nat} {idx d rc2 rs2 : Nat} {M : m_M} {a0 a1 : Value} {h2 : m_H} {v : Option Value} (hd : decode B.1.2.1 pc = .ok (.invokestatic idx, 3)) (hf : m_CX B.1.1.cls idx M 2) (hd9 : d + 1 ≤ B.2.1) (c0 : a0.category = 1) (c1 : a1.category = 1) (hlen : 2 ≤ M.2.2.1) (hsum : (st.map fun v => v.category).sum ≤ 8) (hc : m_RR S M d [a0, a1] h v h2 rc2 rs2) (h1 : rc2 ≤ rc) (h3 : rs2 ≤ rs) (hh2 : h2.1 = h.1) (kk : m_W S B (pc + 3) L (v.toList ++ st) h2 (rc - rc2) (rs - rs2)) : m_W S B pc L (a1 :: a0 :: st) h rc rs := qY (As := [a0, a1]) hd hf hd9 ⟨(fun v hv => by simp only [List.mem_cons, List.not_mem_nil, or_false] at hv; rcases hv with rfl | rfl <;> first | rfl | assumption), hlen, hsum⟩ rfl hc h1 h3 hh2 kk
theorem qY3 {S : m_S} {B : m_B} {pc : Nat} {L : m_L} {st : List Value} {h : m_H} {rc rs : Nat} {idx d rc2 rs2 : Nat} {M : m_M} {a0 a1 a2 : Value} {h2 : m_H} {v : Option Value} (hd : decode B.1.2.1 pc = .ok (.invokestatic idx, 3)) (hf : m_CX B.1.1.cls idx M 3) (hd9 : d + 1 ≤ B.2.1) (c0 : a0.category = 1) (c1 : a1.category = 1) (c2 : a2.category = 1) (hlen : 3 ≤ M.2.2.1) (hsum : (st.map fun v => v.category).sum ≤ 8) (hc : m_RR S M d [a0, a1, a2] h v h2 rc2 rs2) (h1 : rc2 ≤ rc) (h3 : rs2 ≤ rs) (hh2 : h2.1 = h.1) (kk : m_W S B (pc + 3) L (v.toList ++ st) h2 (rc - rc2) (rs - rs2)) : m_W S B pc L (a2 :: a1 :: a0 :: st) h rc rs := qY (As := [a0, a1, a2]) hd hf hd9 ⟨(fun v hv => by simp only [List.mem_cons, List.not_mem_nil, or_false] at hv; rcases hv with rfl | rfl | rfl <;> first | rfl | assumption), hlen, hsum⟩ rfl hc h1 h3 hh2 kk
theorem qY4 {S : m_S} {B : m_B} {pc : Nat} {L : m_L} {st : List Value} {h : m_H} {rc rs : Nat} {idx d rc2 rs2 : Nat} {M : m_M} {a0 a1 a2 a3 : Value} {h2 : m_H} {v : Option Value} (hd : decode B.1.2.1 pc = .ok (.invokestatic idx, 3)) (hf : m_CX B.1.1.cls idx M 4) (hd9 : d + 1 ≤ B.2.1) (c0 : a0.category = 1) (c1 : a1.category = 1) (c2 : a2.category = 1) (c3 : a3.category = 1) (hlen : 4 ≤ M.2.2.1) (hsum : (st.map fun v => v.category).sum ≤ 8) (hc : m_RR S M d [a0, a1, a2, a3] h v h2 rc2 rs2) (h1 : rc2 ≤ rc) (h3 : rs2 ≤ rs) (hh2 : h2.1 = h.1) (kk : m_W S B (pc + 3) L (v.toList ++ st) h2 (rc - rc2) (rs - rs2)) : m_W S B pc L (a3 :: a2 :: a1 :: a0 :: st) h rc rs := qY (As := [a0, a1, a2, a3]) hd hf hd9 ⟨(fun v hv => by simp only [List.mem_cons, List.not_mem_nil, or_false] at hv; rcases hv with rfl | rfl | rfl | rfl <;> first | rfl | assumption), hlen, hsum⟩ rfl hc h1 h3 hh2 kk
theorem qY5 {S : m_S} {B : m_B} {pc : Nat} {L : m_L} {st : List Value} {h : m_H} {rc rs : Nat} {idx d rc2 rs2 : Nat} {M : m_M} {a0 a1 a2 a3 a4 : Value} {h2 : m_H} {v : Option Value} (hd : decode B.1.2.1 pc = .ok (.invokestatic idx, 3)) (hf : m_CX B.1.1.cls idx M 5) (hd9 : d + 1 ≤ B.2.1) (c0 : a0.category = 1) (c1 : a1.category = 1) (c2 : a2.category = 1) (c3 : a3.category = 1) (c4 : a4.category = 1) (hlen : 5 ≤ M.2.2.1) (hsum : (st.map fun v => v.category).sum ≤ 8) (hc : m_RR S M d [a0, a1, a2, a3, a4] h v h2 rc2 rs2) (h1 : rc2 ≤ rc) (h3 : rs2 ≤ rs) (hh2 : h2.1 = h.1) (kk : m_W S B (pc + 3) L (v.toList ++ st) h2 (rc - rc2) (rs - rs2)) : m_W S B pc L (a4 :: a3 :: a2 :: a1 :: a0 :: st) h rc rs := qY (As := [a0, a1, a2, a3, a4]) hd hf hd9 ⟨(fun v hv => by simp only [List.mem_cons, List.not_mem_nil, or_false] at hv; rcases hv with rfl | rfl | rfl | rfl | rfl <;> first | rfl | assumption), hlen, hsum⟩ rfl hc h1 h3 hh2 kk
theorem qY6 {S : m_S} {B : m_B} {pc : Nat} {L : m_L} {st : List Value} {h : m_H} {rc rs : Nat} {idx d rc2 rs2 : Nat} {M : m_M} {a0 a1 a2 a3 a4 a5 : Value} {h2 : m_H} {v : Option Value} (hd : decode B.1.2.1 pc = .ok (.invokestatic idx, 3)) (hf : m_CX B.1.1.cls idx M 6) (hd9 : d + 1 ≤ B.2.1) (c0 : a0.category = 1) (c1 : a1.category = 1) (c2 : a2.category = 1) (c3 : a3.category = 1) (c4 : a4.category = 1) (c5 : a5.category = 1) (hlen : 6 ≤ M.2.2.1) (hsum : (st.map fun v => v.category).sum ≤ 8) (hc : m_RR S M d [a0, a1, a2, a3, a4, a5] h v h2 rc2 rs2) (h1 : rc2 ≤ rc) (h3 : rs2 ≤ rs) (hh2 : h2.1 = h.1) (kk : m_W S B (pc + 3) L (v.toList ++ st) h2 (rc - rc2) (rs - rs2)) : m_W S B pc L (a5 :: a4 :: a3 :: a2 :: a1 :: a0 :: st) h rc rs := qY (As := [a0, a1, a2, a3, a4, a5]) hd hf hd9 ⟨(fun v hv => by simp only [List.mem_cons, List.not_mem_nil, or_false] at hv; rcases hv with rfl | rfl | rfl | rfl | rfl | rfl <;> first | rfl | assumption), hlen, hsum⟩ rfl hc h1 h3 hh2 kk
theorem qY7 {S : m_S} {B : m_B} {pc : Nat} {L : m_L} {st : List Value} {h : m_H} {rc rs : Nat} {idx d rc2 rs2 : Nat} {M : m_M} {a0 a1 a2 a3 a4 a5 a6 : Value} {h2 : m_H} {v : Option Value} (hd : decode B.1.2.1 pc = .ok (.invokestatic idx, 3)) (hf : m_CX B.1.1.cls idx M 7) (hd9 : d + 1 ≤ B.2.1) (c0 : a0.category = 1) (c1 : a1.category = 1) (c2 : a2.category = 1) (c3 : a3.category = 1) (c4 : a4.category = 1) (c5 : a5.category = 1) (c6 : a6.category = 1) (hlen : 7 ≤ M.2.2.1) (hsum : (st.map fun v => v.category).sum ≤ 8) (hc : m_RR S M d [a0, a1, a2, a3, a4, a5, a6] h v h2 rc2 rs2) (h1 : rc2 ≤ rc) (h3 : rs2 ≤ rs) (hh2 : h2.1 = h.1) (kk : m_W S B (pc + 3) L (v.toList ++ st) h2 (rc - rc2) (rs - rs2)) : m_W S B pc L (a6 :: a5 :: a4 :: a3 :: a2 :: a1 :: a0 :: st) h rc rs := qY (As := [a0, a1, a2, a3, a4, a5, a6]) hd hf hd9 ⟨(fun v hv => by simp only [List.mem_cons, List.not_mem_nil, or_false] at hv; rcases hv with rfl | rfl | rfl | rfl | rfl | rfl | rfl <;> first | rfl | assumption), hlen, hsum⟩ rfl hc h1 h3 hh2 kk
/-- light: nothing is handed back -/
theorem L_light {S : m_S} {c : Nat} {I : m_I} {x1 x2 x3 x4 : Int32} (lg : Int64) (hO : Okc S c I M_X10_light M_X11_light [.ref 0, .int x1, .int x2, .int x3, .int x4] [.ref 143, .int x1, .int x2, .int x3, .int x4] [xI, xA]) : ∃ (z : Nat) (I1 I2 : m_I), z < 4 ∧ (∀ d, 10 ≤ d → m_RR S M_L_light d [.ref 0, .int x1, .int x2, .int x3, .int x4] (hh I lg) (some (.int (nI z))) (hh I1 lg) 1 6) ∧ (∀ d, 9 ≤ d → m_R S M_X11_light d [.ref 143, .int x1, .int x2, .int x3, .int x4] (hh I1 lg) none (hh I2 lg)) ∧ I2 143 0 = nI z ∧ Iv (c + 1) I2 ∧ Cr I2 I2 := by
  rcases hO with ⟨r, I1, I2, h1, h2, h3, h4, h5⟩ | ⟨k, E, b, I2, h0, h1, h2, h3, h4, h5⟩
  · obtain rfl := (m_R_ty (h2 lg 9 (Nat.le_refl _))).2 rfl
    exact ⟨0, I1, I2, by decide, fun d hd => w_light hd (h1 lg (d - 1) (by omega)), fun d hd => h2 lg d hd, h3, h4, h5⟩
  · obtain rfl := (m_R_ty (h2 lg 9 (Nat.le_refl _))).2 rfl
    refine ⟨k + 1, I, I2, ?_, fun d hd => ?_, fun d hd => h2 lg d hd, h3, h4, h5⟩
    · have : k < 2 := (List.getElem?_eq_some_iff.mp h0).1
      omega
    · have ht := h1 lg (d - 1) (by omega)
      match k, h0 with
      | 0, h0 => cases h0; exact w_light0 hd ht
      | 1, h0 => cases h0; exact w_light1 hd ht
      | k + 2, h0 => cases h0
/-- a call that nothing is thrown by -/
theorem Okc_nil {S : m_S} {c : Nat} {I : m_I} {Mc Mr : m_M} {A Ar : List Value} (lg : Int64) (hO : Okc S c I Mc Mr A Ar []) (ht : Mc.2.2.2.1 = some .int ∨ Mc.2.2.2.1 = some .boolean) : ∃ (y : Int32) (I1 I2 : m_I), (∀ d, 9 ≤ d → m_R S Mc d A (hh I lg) (some (.int y)) (hh I1 lg)) ∧ (∀ d, 9 ≤ d → m_R S Mr d Ar (hh I1 lg) (some (.int y)) (hh I2 lg)) ∧ Iv (c + 1) I2 ∧ Cr I2 I2 := by
  rcases hO with ⟨r, I1, I2, h1, h2, h3, h4, h5⟩ | ⟨k, E, b, I2, h0, h1, h2, h3, h4, h5⟩
  · obtain ⟨x, rfl⟩ := (m_R_ty (h1 lg 9 (Nat.le_refl _))).1 ht
    exact ⟨x, I1, I2, fun d hd => h1 lg d hd, fun d hd => h2 lg d hd, h4, h5⟩
  · cases h0
theorem l_scene {S : m_S} {c i : Nat} {I : m_I} {lg : Int64} {d5 d6 : Option Value} {rc rs : Nat} (hi : i + 6 ≤ S.1) (hn : S.1 ≤ 3072) (hc : c < 512) (hI : Iv c I) (hC : Cr I I) (hrc : 512 - c ≤ rc) (hrs : 6 * (512 - c) ≤ rs) (hT : lT S c i) : m_W S lB 160 [some (.ref m_scr), some (.ref 0), some (.ref 143), some (.ref 177), some (.int (nI i)), d5, d6] [] (hh I lg) rc rs := by
  by_cases hb3 : S.2 (i + 3) = 0
  · by_cases hb4 : S.2 (i + 4) = 0
    · obtain ⟨z, y, lg1, I1, I2, hz, hw, hr, h0, hv, hI2, hC2⟩ := L_scene lg (o_scene (S.2 (i + 1)) (S.2 (i + 2)) (false) (false) (S.2 (i + 5)) hI hC)
      refine ms_aload_n dL_law_160 rfl ?_
      refine ms_aload_n dL_law_161 rfl ?_
      refine ms_iload dL_law_162 rfl ?_
      refine ms_iconst (v := nI 1) dL_law_164 (by decide) ?_
      refine n_iadd dL_law_165 ?_
      refine ms_sld dL_law_166 rfl (by show i + 1 < S.1; omega) (by show S.1 < 2 ^ 31; omega) ?_
      refine ms_aload_n dL_law_167 rfl ?_
      refine ms_iload dL_law_168 rfl ?_
      refine ms_iconst (v := nI 2) dL_law_170 (by decide) ?_
      refine n_iadd dL_law_171 ?_
      refine ms_sld dL_law_172 rfl (by show i + 2 < S.1; omega) (by show S.1 < 2 ^ 31; omega) ?_
      refine ms_aload_n dL_law_173 rfl ?_
      refine ms_iload dL_law_174 rfl ?_
      refine ms_iconst (v := nI 3) dL_law_176 (by decide) ?_
      refine n_iadd dL_law_177 ?_
      refine ms_sld dL_law_178 rfl (by show i + 3 < S.1; omega) (by show S.1 < 2 ^ 31; omega) ?_
      refine ms_if_eq (tgt := 186) dL_law_179 (by decide) (fun _ => ?_) (fun z => absurd hb3 z)
      refine ms_iconst (v := nI 0) dL_law_186 (by decide) ?_
      refine ms_aload_n dL_law_187 rfl ?_
      refine ms_iload dL_law_188 rfl ?_
      refine ms_iconst (v := nI 4) dL_law_190 (by decide) ?_
      refine n_iadd dL_law_191 ?_
      refine ms_sld dL_law_192 rfl (by show i + 4 < S.1; omega) (by show S.1 < 2 ^ 31; omega) ?_
      refine ms_if_eq (tgt := 200) dL_law_193 (by decide) (fun _ => ?_) (fun z => absurd hb4 z)
      refine ms_iconst (v := nI 0) dL_law_200 (by decide) ?_
      refine ms_aload_n dL_law_201 rfl ?_
      refine ms_iload dL_law_202 rfl ?_
      refine ms_iconst (v := nI 5) dL_law_204 (by decide) ?_
      refine n_iadd dL_law_205 ?_
      refine ms_sld dL_law_206 rfl (by show i + 5 < S.1; omega) (by show S.1 < 2 ^ 31; omega) ?_
      refine ms_aload_n dL_law_207 rfl ?_
      refine qY7 dL_law_208 kL_102 (d := 10) (by decide) rfl rfl rfl rfl rfl rfl rfl (Nat.le_of_ble_eq_true rfl) (Nat.le_of_ble_eq_true rfl) (hw 10 (Nat.le_refl _)) (by omega) (by omega) rfl ?_
      refine ms_istore dL_law_211 (Nat.le_of_ble_eq_true rfl) ?_
      refine ms_aload_n dL_law_213 rfl ?_
      refine ms_aload_n dL_law_214 rfl ?_
      refine ms_iload dL_law_215 rfl ?_
      refine ms_iconst (v := nI 1) dL_law_217 (by decide) ?_
      refine n_iadd dL_law_218 ?_
      refine ms_sld dL_law_219 rfl (by show i + 1 < S.1; omega) (by show S.1 < 2 ^ 31; omega) ?_
      refine ms_aload_n dL_law_220 rfl ?_
      refine ms_iload dL_law_221 rfl ?_
      refine ms_iconst (v := nI 2) dL_law_223 (by decide) ?_
      refine n_iadd dL_law_224 ?_
      refine ms_sld dL_law_225 rfl (by show i + 2 < S.1; omega) (by show S.1 < 2 ^ 31; omega) ?_
      refine ms_aload_n dL_law_226 rfl ?_
      refine ms_iload dL_law_227 rfl ?_
      refine ms_iconst (v := nI 3) dL_law_229 (by decide) ?_
      refine n_iadd dL_law_230 ?_
      refine ms_sld dL_law_231 rfl (by show i + 3 < S.1; omega) (by show S.1 < 2 ^ 31; omega) ?_
      refine ms_if_eq (tgt := 239) dL_law_232 (by decide) (fun _ => ?_) (fun z => absurd hb3 z)
      refine ms_iconst (v := nI 0) dL_law_239 (by decide) ?_
      refine ms_aload_n dL_law_240 rfl ?_
      refine ms_iload dL_law_241 rfl ?_
      refine ms_iconst (v := nI 4) dL_law_243 (by decide) ?_
      refine n_iadd dL_law_244 ?_
      refine ms_sld dL_law_245 rfl (by show i + 4 < S.1; omega) (by show S.1 < 2 ^ 31; omega) ?_
      refine ms_if_eq (tgt := 253) dL_law_246 (by decide) (fun _ => ?_) (fun z => absurd hb4 z)
      refine ms_iconst (v := nI 0) dL_law_253 (by decide) ?_
      refine ms_aload_n dL_law_254 rfl ?_
      refine ms_iload dL_law_255 rfl ?_
      refine ms_iconst (v := nI 5) dL_law_257 (by decide) ?_
      refine n_iadd dL_law_258 ?_
      refine ms_sld dL_law_259 rfl (by show i + 5 < S.1; omega) (by show S.1 < 2 ^ 31; omega) ?_
      refine qRV5 dL_law_260 kL_107 (show 143 < 178 by decide) (show (sh0 143).1 = _ by decide) (d := 10) (by decide) rfl rfl rfl rfl rfl (Nat.le_of_ble_eq_true rfl) (Nat.le_of_ble_eq_true rfl) (hr 10 (by decide)) rfl ?_
      refine ms_istore dL_law_263 (Nat.le_of_ble_eq_true rfl) ?_
      refine ms_aload_n dL_law_265 rfl ?_
      refine qRV0 dL_law_266 kL_108 (show 143 < 178 by decide) (show (sh0 143).1 = _ by decide) (d := 10) (by decide) (Nat.le_of_ble_eq_true rfl) (Nat.le_of_ble_eq_true rfl) (kr_thrown) rfl ?_
      refine ms_iload dL_law_269 rfl ?_
      refine ms_icmp_eq (tgt := 276) dL_law_271 (by decide) (fun _ => ?_) (fun w => absurd (h0) w)
      refine ms_iload dL_law_276 rfl ?_
      refine ms_if_ne (tgt := 293) dL_law_278 (by decide) (fun _ => ?_) (fun z => ?_)
      · refine ms_goto (tgt := 1969) dL_law_293 (by decide) ?_
        exact hT _ _ _ _ _ _ hI2 hC2 (by omega) (by omega)
      · have hy := hv (nI_z0 hz z)
        refine ms_aload_n dL_law_281 rfl ?_
        refine ms_iconst (v := nI 0) dL_law_282 (by decide) ?_
        refine q_lald dL_law_283 ?_
        refine ms_iload dL_law_284 rfl ?_
        refine ms_i2l dL_law_286 ?_
        refine ms_lcmp dL_law_287 ?_
        rw [show lg1 = y.toInt64 from hy, lg_self]
        refine ms_if_eq (tgt := 293) dL_law_288 (by decide) (fun _ => ?_) (fun w => absurd rfl w)
        refine ms_goto (tgt := 1969) dL_law_293 (by decide) ?_
        exact hT _ _ _ _ _ _ hI2 hC2 (by omega) (by omega)
    · obtain ⟨z, y, lg1, I1, I2, hz, hw, hr, h0, hv, hI2, hC2⟩ := L_scene lg (o_scene (S.2 (i + 1)) (S.2 (i + 2)) (false) (true) (S.2 (i + 5)) hI hC)
      refine ms_aload_n dL_law_160 rfl ?_
      refine ms_aload_n dL_law_161 rfl ?_
      refine ms_iload dL_law_162 rfl ?_
      refine ms_iconst (v := nI 1) dL_law_164 (by decide) ?_
      refine n_iadd dL_law_165 ?_
      refine ms_sld dL_law_166 rfl (by show i + 1 < S.1; omega) (by show S.1 < 2 ^ 31; omega) ?_
      refine ms_aload_n dL_law_167 rfl ?_
      refine ms_iload dL_law_168 rfl ?_
      refine ms_iconst (v := nI 2) dL_law_170 (by decide) ?_
      refine n_iadd dL_law_171 ?_
      refine ms_sld dL_law_172 rfl (by show i + 2 < S.1; omega) (by show S.1 < 2 ^ 31; omega) ?_
      refine ms_aload_n dL_law_173 rfl ?_
      refine ms_iload dL_law_174 rfl ?_
      refine ms_iconst (v := nI 3) dL_law_176 (by decide) ?_
      refine n_iadd dL_law_177 ?_
      refine ms_sld dL_law_178 rfl (by show i + 3 < S.1; omega) (by show S.1 < 2 ^ 31; omega) ?_
      refine ms_if_eq (tgt := 186) dL_law_179 (by decide) (fun _ => ?_) (fun z => absurd hb3 z)
      refine ms_iconst (v := nI 0) dL_law_186 (by decide) ?_
      refine ms_aload_n dL_law_187 rfl ?_
      refine ms_iload dL_law_188 rfl ?_
      refine ms_iconst (v := nI 4) dL_law_190 (by decide) ?_
      refine n_iadd dL_law_191 ?_
      refine ms_sld dL_law_192 rfl (by show i + 4 < S.1; omega) (by show S.1 < 2 ^ 31; omega) ?_
      refine ms_if_eq (tgt := 200) dL_law_193 (by decide) (fun z => absurd z hb4) (fun _ => ?_)
      refine ms_iconst (v := nI 1) dL_law_196 (by decide) ?_
      refine ms_goto (tgt := 201) dL_law_197 (by decide) ?_
      refine ms_aload_n dL_law_201 rfl ?_
      refine ms_iload dL_law_202 rfl ?_
      refine ms_iconst (v := nI 5) dL_law_204 (by decide) ?_
      refine n_iadd dL_law_205 ?_
      refine ms_sld dL_law_206 rfl (by show i + 5 < S.1; omega) (by show S.1 < 2 ^ 31; omega) ?_
      refine ms_aload_n dL_law_207 rfl ?_
      refine qY7 dL_law_208 kL_102 (d := 10) (by decide) rfl rfl rfl rfl rfl rfl rfl (Nat.le_of_ble_eq_true rfl) (Nat.le_of_ble_eq_true rfl) (hw 10 (Nat.le_refl _)) (by omega) (by omega) rfl ?_
      refine ms_istore dL_law_211 (Nat.le_of_ble_eq_true rfl) ?_
      refine ms_aload_n dL_law_213 rfl ?_
      refine ms_aload_n dL_law_214 rfl ?_
      refine ms_iload dL_law_215 rfl ?_
      refine ms_iconst (v := nI 1) dL_law_217 (by decide) ?_
      refine n_iadd dL_law_218 ?_
      refine ms_sld dL_law_219 rfl (by show i + 1 < S.1; omega) (by show S.1 < 2 ^ 31; omega) ?_
      refine ms_aload_n dL_law_220 rfl ?_
      refine ms_iload dL_law_221 rfl ?_
      refine ms_iconst (v := nI 2) dL_law_223 (by decide) ?_
      refine n_iadd dL_law_224 ?_
      refine ms_sld dL_law_225 rfl (by show i + 2 < S.1; omega) (by show S.1 < 2 ^ 31; omega) ?_
      refine ms_aload_n dL_law_226 rfl ?_
      refine ms_iload dL_law_227 rfl ?_
      refine ms_iconst (v := nI 3) dL_law_229 (by decide) ?_
      refine n_iadd dL_law_230 ?_
      refine ms_sld dL_law_231 rfl (by show i + 3 < S.1; omega) (by show S.1 < 2 ^ 31; omega) ?_
      refine ms_if_eq (tgt := 239) dL_law_232 (by decide) (fun _ => ?_) (fun z => absurd hb3 z)
      refine ms_iconst (v := nI 0) dL_law_239 (by decide) ?_
      refine ms_aload_n dL_law_240 rfl ?_
      refine ms_iload dL_law_241 rfl ?_
      refine ms_iconst (v := nI 4) dL_law_243 (by decide) ?_
      refine n_iadd dL_law_244 ?_
      refine ms_sld dL_law_245 rfl (by show i + 4 < S.1; omega) (by show S.1 < 2 ^ 31; omega) ?_
      refine ms_if_eq (tgt := 253) dL_law_246 (by decide) (fun z => absurd z hb4) (fun _ => ?_)
      refine ms_iconst (v := nI 1) dL_law_249 (by decide) ?_
      refine ms_goto (tgt := 254) dL_law_250 (by decide) ?_
      refine ms_aload_n dL_law_254 rfl ?_
      refine ms_iload dL_law_255 rfl ?_
      refine ms_iconst (v := nI 5) dL_law_257 (by decide) ?_
      refine n_iadd dL_law_258 ?_
      refine ms_sld dL_law_259 rfl (by show i + 5 < S.1; omega) (by show S.1 < 2 ^ 31; omega) ?_
      refine qRV5 dL_law_260 kL_107 (show 143 < 178 by decide) (show (sh0 143).1 = _ by decide) (d := 10) (by decide) rfl rfl rfl rfl rfl (Nat.le_of_ble_eq_true rfl) (Nat.le_of_ble_eq_true rfl) (hr 10 (by decide)) rfl ?_
      refine ms_istore dL_law_263 (Nat.le_of_ble_eq_true rfl) ?_
      refine ms_aload_n dL_law_265 rfl ?_
      refine qRV0 dL_law_266 kL_108 (show 143 < 178 by decide) (show (sh0 143).1 = _ by decide) (d := 10) (by decide) (Nat.le_of_ble_eq_true rfl) (Nat.le_of_ble_eq_true rfl) (kr_thrown) rfl ?_
      refine ms_iload dL_law_269 rfl ?_
      refine ms_icmp_eq (tgt := 276) dL_law_271 (by decide) (fun _ => ?_) (fun w => absurd (h0) w)
      refine ms_iload dL_law_276 rfl ?_
      refine ms_if_ne (tgt := 293) dL_law_278 (by decide) (fun _ => ?_) (fun z => ?_)
      · refine ms_goto (tgt := 1969) dL_law_293 (by decide) ?_
        exact hT _ _ _ _ _ _ hI2 hC2 (by omega) (by omega)
      · have hy := hv (nI_z0 hz z)
        refine ms_aload_n dL_law_281 rfl ?_
        refine ms_iconst (v := nI 0) dL_law_282 (by decide) ?_
        refine q_lald dL_law_283 ?_
        refine ms_iload dL_law_284 rfl ?_
        refine ms_i2l dL_law_286 ?_
        refine ms_lcmp dL_law_287 ?_
        rw [show lg1 = y.toInt64 from hy, lg_self]
        refine ms_if_eq (tgt := 293) dL_law_288 (by decide) (fun _ => ?_) (fun w => absurd rfl w)
        refine ms_goto (tgt := 1969) dL_law_293 (by decide) ?_
        exact hT _ _ _ _ _ _ hI2 hC2 (by omega) (by omega)
  · by_cases hb4 : S.2 (i + 4) = 0
    · obtain ⟨z, y, lg1, I1, I2, hz, hw, hr, h0, hv, hI2, hC2⟩ := L_scene lg (o_scene (S.2 (i + 1)) (S.2 (i + 2)) (true) (false) (S.2 (i + 5)) hI hC)
      refine ms_aload_n dL_law_160 rfl ?_
      refine ms_aload_n dL_law_161 rfl ?_
      refine ms_iload dL_law_162 rfl ?_
      refine ms_iconst (v := nI 1) dL_law_164 (by decide) ?_
      refine n_iadd dL_law_165 ?_
      refine ms_sld dL_law_166 rfl (by show i + 1 < S.1; omega) (by show S.1 < 2 ^ 31; omega) ?_
      refine ms_aload_n dL_law_167 rfl ?_
      refine ms_iload dL_law_168 rfl ?_
      refine ms_iconst (v := nI 2) dL_law_170 (by decide) ?_
      refine n_iadd dL_law_171 ?_
      refine ms_sld dL_law_172 rfl (by show i + 2 < S.1; omega) (by show S.1 < 2 ^ 31; omega) ?_
      refine ms_aload_n dL_law_173 rfl ?_
      refine ms_iload dL_law_174 rfl ?_
      refine ms_iconst (v := nI 3) dL_law_176 (by decide) ?_
      refine n_iadd dL_law_177 ?_
      refine ms_sld dL_law_178 rfl (by show i + 3 < S.1; omega) (by show S.1 < 2 ^ 31; omega) ?_
      refine ms_if_eq (tgt := 186) dL_law_179 (by decide) (fun z => absurd z hb3) (fun _ => ?_)
      refine ms_iconst (v := nI 1) dL_law_182 (by decide) ?_
      refine ms_goto (tgt := 187) dL_law_183 (by decide) ?_
      refine ms_aload_n dL_law_187 rfl ?_
      refine ms_iload dL_law_188 rfl ?_
      refine ms_iconst (v := nI 4) dL_law_190 (by decide) ?_
      refine n_iadd dL_law_191 ?_
      refine ms_sld dL_law_192 rfl (by show i + 4 < S.1; omega) (by show S.1 < 2 ^ 31; omega) ?_
      refine ms_if_eq (tgt := 200) dL_law_193 (by decide) (fun _ => ?_) (fun z => absurd hb4 z)
      refine ms_iconst (v := nI 0) dL_law_200 (by decide) ?_
      refine ms_aload_n dL_law_201 rfl ?_
      refine ms_iload dL_law_202 rfl ?_
      refine ms_iconst (v := nI 5) dL_law_204 (by decide) ?_
      refine n_iadd dL_law_205 ?_
      refine ms_sld dL_law_206 rfl (by show i + 5 < S.1; omega) (by show S.1 < 2 ^ 31; omega) ?_
      refine ms_aload_n dL_law_207 rfl ?_
      refine qY7 dL_law_208 kL_102 (d := 10) (by decide) rfl rfl rfl rfl rfl rfl rfl (Nat.le_of_ble_eq_true rfl) (Nat.le_of_ble_eq_true rfl) (hw 10 (Nat.le_refl _)) (by omega) (by omega) rfl ?_
      refine ms_istore dL_law_211 (Nat.le_of_ble_eq_true rfl) ?_
      refine ms_aload_n dL_law_213 rfl ?_
      refine ms_aload_n dL_law_214 rfl ?_
      refine ms_iload dL_law_215 rfl ?_
      refine ms_iconst (v := nI 1) dL_law_217 (by decide) ?_
      refine n_iadd dL_law_218 ?_
      refine ms_sld dL_law_219 rfl (by show i + 1 < S.1; omega) (by show S.1 < 2 ^ 31; omega) ?_
      refine ms_aload_n dL_law_220 rfl ?_
      refine ms_iload dL_law_221 rfl ?_
      refine ms_iconst (v := nI 2) dL_law_223 (by decide) ?_
      refine n_iadd dL_law_224 ?_
      refine ms_sld dL_law_225 rfl (by show i + 2 < S.1; omega) (by show S.1 < 2 ^ 31; omega) ?_
      refine ms_aload_n dL_law_226 rfl ?_
      refine ms_iload dL_law_227 rfl ?_
      refine ms_iconst (v := nI 3) dL_law_229 (by decide) ?_
      refine n_iadd dL_law_230 ?_
      refine ms_sld dL_law_231 rfl (by show i + 3 < S.1; omega) (by show S.1 < 2 ^ 31; omega) ?_
      refine ms_if_eq (tgt := 239) dL_law_232 (by decide) (fun z => absurd z hb3) (fun _ => ?_)
      refine ms_iconst (v := nI 1) dL_law_235 (by decide) ?_
      refine ms_goto (tgt := 240) dL_law_236 (by decide) ?_
      refine ms_aload_n dL_law_240 rfl ?_
      refine ms_iload dL_law_241 rfl ?_
      refine ms_iconst (v := nI 4) dL_law_243 (by decide) ?_
      refine n_iadd dL_law_244 ?_
      refine ms_sld dL_law_245 rfl (by show i + 4 < S.1; omega) (by show S.1 < 2 ^ 31; omega) ?_
      refine ms_if_eq (tgt := 253) dL_law_246 (by decide) (fun _ => ?_) (fun z => absurd hb4 z)
      refine ms_iconst (v := nI 0) dL_law_253 (by decide) ?_
      refine ms_aload_n dL_law_254 rfl ?_
      refine ms_iload dL_law_255 rfl ?_
      refine ms_iconst (v := nI 5) dL_law_257 (by decide) ?_
      refine n_iadd dL_law_258 ?_
      refine ms_sld dL_law_259 rfl (by show i + 5 < S.1; omega) (by show S.1 < 2 ^ 31; omega) ?_
      refine qRV5 dL_law_260 kL_107 (show 143 < 178 by decide) (show (sh0 143).1 = _ by decide) (d := 10) (by decide) rfl rfl rfl rfl rfl (Nat.le_of_ble_eq_true rfl) (Nat.le_of_ble_eq_true rfl) (hr 10 (by decide)) rfl ?_
      refine ms_istore dL_law_263 (Nat.le_of_ble_eq_true rfl) ?_
      refine ms_aload_n dL_law_265 rfl ?_
      refine qRV0 dL_law_266 kL_108 (show 143 < 178 by decide) (show (sh0 143).1 = _ by decide) (d := 10) (by decide) (Nat.le_of_ble_eq_true rfl) (Nat.le_of_ble_eq_true rfl) (kr_thrown) rfl ?_
      refine ms_iload dL_law_269 rfl ?_
      refine ms_icmp_eq (tgt := 276) dL_law_271 (by decide) (fun _ => ?_) (fun w => absurd (h0) w)
      refine ms_iload dL_law_276 rfl ?_
      refine ms_if_ne (tgt := 293) dL_law_278 (by decide) (fun _ => ?_) (fun z => ?_)
      · refine ms_goto (tgt := 1969) dL_law_293 (by decide) ?_
        exact hT _ _ _ _ _ _ hI2 hC2 (by omega) (by omega)
      · have hy := hv (nI_z0 hz z)
        refine ms_aload_n dL_law_281 rfl ?_
        refine ms_iconst (v := nI 0) dL_law_282 (by decide) ?_
        refine q_lald dL_law_283 ?_
        refine ms_iload dL_law_284 rfl ?_
        refine ms_i2l dL_law_286 ?_
        refine ms_lcmp dL_law_287 ?_
        rw [show lg1 = y.toInt64 from hy, lg_self]
        refine ms_if_eq (tgt := 293) dL_law_288 (by decide) (fun _ => ?_) (fun w => absurd rfl w)
        refine ms_goto (tgt := 1969) dL_law_293 (by decide) ?_
        exact hT _ _ _ _ _ _ hI2 hC2 (by omega) (by omega)
    · obtain ⟨z, y, lg1, I1, I2, hz, hw, hr, h0, hv, hI2, hC2⟩ := L_scene lg (o_scene (S.2 (i + 1)) (S.2 (i + 2)) (true) (true) (S.2 (i + 5)) hI hC)
      refine ms_aload_n dL_law_160 rfl ?_
      refine ms_aload_n dL_law_161 rfl ?_
      refine ms_iload dL_law_162 rfl ?_
      refine ms_iconst (v := nI 1) dL_law_164 (by decide) ?_
      refine n_iadd dL_law_165 ?_
      refine ms_sld dL_law_166 rfl (by show i + 1 < S.1; omega) (by show S.1 < 2 ^ 31; omega) ?_
      refine ms_aload_n dL_law_167 rfl ?_
      refine ms_iload dL_law_168 rfl ?_
      refine ms_iconst (v := nI 2) dL_law_170 (by decide) ?_
      refine n_iadd dL_law_171 ?_
      refine ms_sld dL_law_172 rfl (by show i + 2 < S.1; omega) (by show S.1 < 2 ^ 31; omega) ?_
      refine ms_aload_n dL_law_173 rfl ?_
      refine ms_iload dL_law_174 rfl ?_
      refine ms_iconst (v := nI 3) dL_law_176 (by decide) ?_
      refine n_iadd dL_law_177 ?_
      refine ms_sld dL_law_178 rfl (by show i + 3 < S.1; omega) (by show S.1 < 2 ^ 31; omega) ?_
      refine ms_if_eq (tgt := 186) dL_law_179 (by decide) (fun z => absurd z hb3) (fun _ => ?_)
      refine ms_iconst (v := nI 1) dL_law_182 (by decide) ?_
      refine ms_goto (tgt := 187) dL_law_183 (by decide) ?_
      refine ms_aload_n dL_law_187 rfl ?_
      refine ms_iload dL_law_188 rfl ?_
      refine ms_iconst (v := nI 4) dL_law_190 (by decide) ?_
      refine n_iadd dL_law_191 ?_
      refine ms_sld dL_law_192 rfl (by show i + 4 < S.1; omega) (by show S.1 < 2 ^ 31; omega) ?_
      refine ms_if_eq (tgt := 200) dL_law_193 (by decide) (fun z => absurd z hb4) (fun _ => ?_)
      refine ms_iconst (v := nI 1) dL_law_196 (by decide) ?_
      refine ms_goto (tgt := 201) dL_law_197 (by decide) ?_
      refine ms_aload_n dL_law_201 rfl ?_
      refine ms_iload dL_law_202 rfl ?_
      refine ms_iconst (v := nI 5) dL_law_204 (by decide) ?_
      refine n_iadd dL_law_205 ?_
      refine ms_sld dL_law_206 rfl (by show i + 5 < S.1; omega) (by show S.1 < 2 ^ 31; omega) ?_
      refine ms_aload_n dL_law_207 rfl ?_
      refine qY7 dL_law_208 kL_102 (d := 10) (by decide) rfl rfl rfl rfl rfl rfl rfl (Nat.le_of_ble_eq_true rfl) (Nat.le_of_ble_eq_true rfl) (hw 10 (Nat.le_refl _)) (by omega) (by omega) rfl ?_
      refine ms_istore dL_law_211 (Nat.le_of_ble_eq_true rfl) ?_
      refine ms_aload_n dL_law_213 rfl ?_
      refine ms_aload_n dL_law_214 rfl ?_
      refine ms_iload dL_law_215 rfl ?_
      refine ms_iconst (v := nI 1) dL_law_217 (by decide) ?_
      refine n_iadd dL_law_218 ?_
      refine ms_sld dL_law_219 rfl (by show i + 1 < S.1; omega) (by show S.1 < 2 ^ 31; omega) ?_
      refine ms_aload_n dL_law_220 rfl ?_
      refine ms_iload dL_law_221 rfl ?_
      refine ms_iconst (v := nI 2) dL_law_223 (by decide) ?_
      refine n_iadd dL_law_224 ?_
      refine ms_sld dL_law_225 rfl (by show i + 2 < S.1; omega) (by show S.1 < 2 ^ 31; omega) ?_
      refine ms_aload_n dL_law_226 rfl ?_
      refine ms_iload dL_law_227 rfl ?_
      refine ms_iconst (v := nI 3) dL_law_229 (by decide) ?_
      refine n_iadd dL_law_230 ?_
      refine ms_sld dL_law_231 rfl (by show i + 3 < S.1; omega) (by show S.1 < 2 ^ 31; omega) ?_
      refine ms_if_eq (tgt := 239) dL_law_232 (by decide) (fun z => absurd z hb3) (fun _ => ?_)
      refine ms_iconst (v := nI 1) dL_law_235 (by decide) ?_
      refine ms_goto (tgt := 240) dL_law_236 (by decide) ?_
      refine ms_aload_n dL_law_240 rfl ?_
      refine ms_iload dL_law_241 rfl ?_
      refine ms_iconst (v := nI 4) dL_law_243 (by decide) ?_
      refine n_iadd dL_law_244 ?_
      refine ms_sld dL_law_245 rfl (by show i + 4 < S.1; omega) (by show S.1 < 2 ^ 31; omega) ?_
      refine ms_if_eq (tgt := 253) dL_law_246 (by decide) (fun z => absurd z hb4) (fun _ => ?_)
      refine ms_iconst (v := nI 1) dL_law_249 (by decide) ?_
      refine ms_goto (tgt := 254) dL_law_250 (by decide) ?_
      refine ms_aload_n dL_law_254 rfl ?_
      refine ms_iload dL_law_255 rfl ?_
      refine ms_iconst (v := nI 5) dL_law_257 (by decide) ?_
      refine n_iadd dL_law_258 ?_
      refine ms_sld dL_law_259 rfl (by show i + 5 < S.1; omega) (by show S.1 < 2 ^ 31; omega) ?_
      refine qRV5 dL_law_260 kL_107 (show 143 < 178 by decide) (show (sh0 143).1 = _ by decide) (d := 10) (by decide) rfl rfl rfl rfl rfl (Nat.le_of_ble_eq_true rfl) (Nat.le_of_ble_eq_true rfl) (hr 10 (by decide)) rfl ?_
      refine ms_istore dL_law_263 (Nat.le_of_ble_eq_true rfl) ?_
      refine ms_aload_n dL_law_265 rfl ?_
      refine qRV0 dL_law_266 kL_108 (show 143 < 178 by decide) (show (sh0 143).1 = _ by decide) (d := 10) (by decide) (Nat.le_of_ble_eq_true rfl) (Nat.le_of_ble_eq_true rfl) (kr_thrown) rfl ?_
      refine ms_iload dL_law_269 rfl ?_
      refine ms_icmp_eq (tgt := 276) dL_law_271 (by decide) (fun _ => ?_) (fun w => absurd (h0) w)
      refine ms_iload dL_law_276 rfl ?_
      refine ms_if_ne (tgt := 293) dL_law_278 (by decide) (fun _ => ?_) (fun z => ?_)
      · refine ms_goto (tgt := 1969) dL_law_293 (by decide) ?_
        exact hT _ _ _ _ _ _ hI2 hC2 (by omega) (by omega)
      · have hy := hv (nI_z0 hz z)
        refine ms_aload_n dL_law_281 rfl ?_
        refine ms_iconst (v := nI 0) dL_law_282 (by decide) ?_
        refine q_lald dL_law_283 ?_
        refine ms_iload dL_law_284 rfl ?_
        refine ms_i2l dL_law_286 ?_
        refine ms_lcmp dL_law_287 ?_
        rw [show lg1 = y.toInt64 from hy, lg_self]
        refine ms_if_eq (tgt := 293) dL_law_288 (by decide) (fun _ => ?_) (fun w => absurd rfl w)
        refine ms_goto (tgt := 1969) dL_law_293 (by decide) ?_
        exact hT _ _ _ _ _ _ hI2 hC2 (by omega) (by omega)
theorem l_lock {S : m_S} {c i : Nat} {I : m_I} {lg : Int64} {d5 d6 : Option Value} {rc rs : Nat} (hi : i + 6 ≤ S.1) (hn : S.1 ≤ 3072) (hc : c < 512) (hI : Iv c I) (hC : Cr I I) (hrc : 512 - c ≤ rc) (hrs : 6 * (512 - c) ≤ rs) (hT : lT S c i) : m_W S lB 296 [some (.ref m_scr), some (.ref 0), some (.ref 143), some (.ref 177), some (.int (nI i)), d5, d6] [] (hh I lg) rc rs := by
  obtain ⟨z, y, lg1, I1, I2, hz, hw, hr, h0, hv, hI2, hC2⟩ := L_lock lg (o_lock hI hC)
  refine ms_aload_n dL_law_296 rfl ?_
  refine ms_aload_n dL_law_297 rfl ?_
  refine qY2 dL_law_298 kL_111 (d := 10) (by decide) rfl rfl (Nat.le_of_ble_eq_true rfl) (Nat.le_of_ble_eq_true rfl) (hw 10 (Nat.le_refl _)) (by omega) (by omega) rfl ?_
  refine ms_istore dL_law_301 (Nat.le_of_ble_eq_true rfl) ?_
  refine ms_aload_n dL_law_303 rfl ?_
  refine qRV0 dL_law_304 kL_114 (show 143 < 178 by decide) (show (sh0 143).1 = _ by decide) (d := 10) (by decide) (Nat.le_of_ble_eq_true rfl) (Nat.le_of_ble_eq_true rfl) (hr 10 (by decide)) rfl ?_
  refine ms_istore dL_law_307 (Nat.le_of_ble_eq_true rfl) ?_
  refine ms_aload_n dL_law_309 rfl ?_
  refine qRV0 dL_law_310 kL_108 (show 143 < 178 by decide) (show (sh0 143).1 = _ by decide) (d := 10) (by decide) (Nat.le_of_ble_eq_true rfl) (Nat.le_of_ble_eq_true rfl) (kr_thrown) rfl ?_
  refine ms_iload dL_law_313 rfl ?_
  refine ms_icmp_eq (tgt := 320) dL_law_315 (by decide) (fun _ => ?_) (fun w => absurd (h0) w)
  refine ms_iload dL_law_320 rfl ?_
  refine ms_if_ne (tgt := 337) dL_law_322 (by decide) (fun _ => ?_) (fun z => ?_)
  · refine ms_goto (tgt := 1969) dL_law_337 (by decide) ?_
    exact hT _ _ _ _ _ _ hI2 hC2 (by omega) (by omega)
  · have hy := hv (nI_z0 hz z)
    refine ms_aload_n dL_law_325 rfl ?_
    refine ms_iconst (v := nI 0) dL_law_326 (by decide) ?_
    refine q_lald dL_law_327 ?_
    refine ms_iload dL_law_328 rfl ?_
    refine ms_i2l dL_law_330 ?_
    refine ms_lcmp dL_law_331 ?_
    rw [show lg1 = y.toInt64 from hy, lg_self]
    refine ms_if_eq (tgt := 337) dL_law_332 (by decide) (fun _ => ?_) (fun w => absurd rfl w)
    refine ms_goto (tgt := 1969) dL_law_337 (by decide) ?_
    exact hT _ _ _ _ _ _ hI2 hC2 (by omega) (by omega)
theorem l_omit {S : m_S} {c i : Nat} {I : m_I} {lg : Int64} {d5 d6 : Option Value} {rc rs : Nat} (hi : i + 6 ≤ S.1) (hn : S.1 ≤ 3072) (hc : c < 512) (hI : Iv c I) (hC : Cr I I) (hrc : 512 - c ≤ rc) (hrs : 6 * (512 - c) ≤ rs) (hT : lT S c i) : m_W S lB 340 [some (.ref m_scr), some (.ref 0), some (.ref 143), some (.ref 177), some (.int (nI i)), d5, d6] [] (hh I lg) rc rs := by
  obtain ⟨z, y, lg1, I1, I2, hz, hw, hr, h0, hv, hI2, hC2⟩ := L_omit lg (o_omit (S.2 (i + 1)) hI hC)
  refine ms_aload_n dL_law_340 rfl ?_
  refine ms_aload_n dL_law_341 rfl ?_
  refine ms_iload dL_law_342 rfl ?_
  refine ms_iconst (v := nI 1) dL_law_344 (by decide) ?_
  refine n_iadd dL_law_345 ?_
  refine ms_sld dL_law_346 rfl (by show i + 1 < S.1; omega) (by show S.1 < 2 ^ 31; omega) ?_
  refine ms_aload_n dL_law_347 rfl ?_
  refine qY3 dL_law_348 kL_115 (d := 10) (by decide) rfl rfl rfl (Nat.le_of_ble_eq_true rfl) (Nat.le_of_ble_eq_true rfl) (hw 10 (Nat.le_refl _)) (by omega) (by omega) rfl ?_
  refine ms_istore dL_law_351 (Nat.le_of_ble_eq_true rfl) ?_
  refine ms_aload_n dL_law_353 rfl ?_
  refine ms_aload_n dL_law_354 rfl ?_
  refine ms_iload dL_law_355 rfl ?_
  refine ms_iconst (v := nI 1) dL_law_357 (by decide) ?_
  refine n_iadd dL_law_358 ?_
  refine ms_sld dL_law_359 rfl (by show i + 1 < S.1; omega) (by show S.1 < 2 ^ 31; omega) ?_
  refine qRV1 dL_law_360 kL_118 (show 143 < 178 by decide) (show (sh0 143).1 = _ by decide) (d := 10) (by decide) rfl (Nat.le_of_ble_eq_true rfl) (Nat.le_of_ble_eq_true rfl) (hr 10 (by decide)) rfl ?_
  refine ms_istore dL_law_363 (Nat.le_of_ble_eq_true rfl) ?_
  refine ms_aload_n dL_law_365 rfl ?_
  refine qRV0 dL_law_366 kL_108 (show 143 < 178 by decide) (show (sh0 143).1 = _ by decide) (d := 10) (by decide) (Nat.le_of_ble_eq_true rfl) (Nat.le_of_ble_eq_true rfl) (kr_thrown) rfl ?_
  refine ms_iload dL_law_369 rfl ?_
  refine ms_icmp_eq (tgt := 376) dL_law_371 (by decide) (fun _ => ?_) (fun w => absurd (h0) w)
  refine ms_iload dL_law_376 rfl ?_
  refine ms_if_ne (tgt := 393) dL_law_378 (by decide) (fun _ => ?_) (fun z => ?_)
  · refine ms_goto (tgt := 1969) dL_law_393 (by decide) ?_
    exact hT _ _ _ _ _ _ hI2 hC2 (by omega) (by omega)
  · have hy := hv (nI_z0 hz z)
    refine ms_aload_n dL_law_381 rfl ?_
    refine ms_iconst (v := nI 0) dL_law_382 (by decide) ?_
    refine q_lald dL_law_383 ?_
    refine ms_iload dL_law_384 rfl ?_
    refine ms_i2l dL_law_386 ?_
    refine ms_lcmp dL_law_387 ?_
    rw [show lg1 = y.toInt64 from hy, lg_self]
    refine ms_if_eq (tgt := 393) dL_law_388 (by decide) (fun _ => ?_) (fun w => absurd rfl w)
    refine ms_goto (tgt := 1969) dL_law_393 (by decide) ?_
    exact hT _ _ _ _ _ _ hI2 hC2 (by omega) (by omega)
theorem l_label {S : m_S} {c i : Nat} {I : m_I} {lg : Int64} {d5 d6 : Option Value} {rc rs : Nat} (hi : i + 6 ≤ S.1) (hn : S.1 ≤ 3072) (hc : c < 512) (hI : Iv c I) (hC : Cr I I) (hrc : 512 - c ≤ rc) (hrs : 6 * (512 - c) ≤ rs) (hT : lT S c i) : m_W S lB 396 [some (.ref m_scr), some (.ref 0), some (.ref 143), some (.ref 177), some (.int (nI i)), d5, d6] [] (hh I lg) rc rs := by
  obtain ⟨z, y, lg1, I1, I2, hz, hw, hr, h0, hv, hI2, hC2⟩ := L_label lg (o_label (S.2 (i + 1)) hI hC)
  refine ms_aload_n dL_law_396 rfl ?_
  refine ms_aload_n dL_law_397 rfl ?_
  refine ms_iload dL_law_398 rfl ?_
  refine ms_iconst (v := nI 1) dL_law_400 (by decide) ?_
  refine n_iadd dL_law_401 ?_
  refine ms_sld dL_law_402 rfl (by show i + 1 < S.1; omega) (by show S.1 < 2 ^ 31; omega) ?_
  refine ms_aload_n dL_law_403 rfl ?_
  refine qY3 dL_law_404 kL_119 (d := 10) (by decide) rfl rfl rfl (Nat.le_of_ble_eq_true rfl) (Nat.le_of_ble_eq_true rfl) (hw 10 (Nat.le_refl _)) (by omega) (by omega) rfl ?_
  refine ms_istore dL_law_407 (Nat.le_of_ble_eq_true rfl) ?_
  refine ms_aload_n dL_law_409 rfl ?_
  refine ms_aload_n dL_law_410 rfl ?_
  refine ms_iload dL_law_411 rfl ?_
  refine ms_iconst (v := nI 1) dL_law_413 (by decide) ?_
  refine n_iadd dL_law_414 ?_
  refine ms_sld dL_law_415 rfl (by show i + 1 < S.1; omega) (by show S.1 < 2 ^ 31; omega) ?_
  refine qRV1 dL_law_416 kL_121 (show 143 < 178 by decide) (show (sh0 143).1 = _ by decide) (d := 10) (by decide) rfl (Nat.le_of_ble_eq_true rfl) (Nat.le_of_ble_eq_true rfl) (hr 10 (by decide)) rfl ?_
  refine ms_istore dL_law_419 (Nat.le_of_ble_eq_true rfl) ?_
  refine ms_aload_n dL_law_421 rfl ?_
  refine qRV0 dL_law_422 kL_108 (show 143 < 178 by decide) (show (sh0 143).1 = _ by decide) (d := 10) (by decide) (Nat.le_of_ble_eq_true rfl) (Nat.le_of_ble_eq_true rfl) (kr_thrown) rfl ?_
  refine ms_iload dL_law_425 rfl ?_
  refine ms_icmp_eq (tgt := 432) dL_law_427 (by decide) (fun _ => ?_) (fun w => absurd (h0) w)
  refine ms_iload dL_law_432 rfl ?_
  refine ms_if_ne (tgt := 449) dL_law_434 (by decide) (fun _ => ?_) (fun z => ?_)
  · refine ms_goto (tgt := 1969) dL_law_449 (by decide) ?_
    exact hT _ _ _ _ _ _ hI2 hC2 (by omega) (by omega)
  · have hy := hv (nI_z0 hz z)
    refine ms_aload_n dL_law_437 rfl ?_
    refine ms_iconst (v := nI 0) dL_law_438 (by decide) ?_
    refine q_lald dL_law_439 ?_
    refine ms_iload dL_law_440 rfl ?_
    refine ms_i2l dL_law_442 ?_
    refine ms_lcmp dL_law_443 ?_
    rw [show lg1 = y.toInt64 from hy, lg_self]
    refine ms_if_eq (tgt := 449) dL_law_444 (by decide) (fun _ => ?_) (fun w => absurd rfl w)
    refine ms_goto (tgt := 1969) dL_law_449 (by decide) ?_
    exact hT _ _ _ _ _ _ hI2 hC2 (by omega) (by omega)
theorem l_needs {S : m_S} {c i : Nat} {I : m_I} {lg : Int64} {d5 d6 : Option Value} {rc rs : Nat} (hi : i + 6 ≤ S.1) (hn : S.1 ≤ 3072) (hc : c < 512) (hI : Iv c I) (hC : Cr I I) (hrc : 512 - c ≤ rc) (hrs : 6 * (512 - c) ≤ rs) (hT : lT S c i) : m_W S lB 452 [some (.ref m_scr), some (.ref 0), some (.ref 143), some (.ref 177), some (.int (nI i)), d5, d6] [] (hh I lg) rc rs := by
  obtain ⟨z, y, lg1, I1, I2, hz, hw, hr, h0, hv, hI2, hC2⟩ := L_needs lg (o_needs (S.2 (i + 1)) (S.2 (i + 2)) hI hC)
  refine ms_aload_n dL_law_452 rfl ?_
  refine ms_aload_n dL_law_453 rfl ?_
  refine ms_iload dL_law_454 rfl ?_
  refine ms_iconst (v := nI 1) dL_law_456 (by decide) ?_
  refine n_iadd dL_law_457 ?_
  refine ms_sld dL_law_458 rfl (by show i + 1 < S.1; omega) (by show S.1 < 2 ^ 31; omega) ?_
  refine ms_aload_n dL_law_459 rfl ?_
  refine ms_iload dL_law_460 rfl ?_
  refine ms_iconst (v := nI 2) dL_law_462 (by decide) ?_
  refine n_iadd dL_law_463 ?_
  refine ms_sld dL_law_464 rfl (by show i + 2 < S.1; omega) (by show S.1 < 2 ^ 31; omega) ?_
  refine ms_aload_n dL_law_465 rfl ?_
  refine qY4 dL_law_466 kL_122 (d := 10) (by decide) rfl rfl rfl rfl (Nat.le_of_ble_eq_true rfl) (Nat.le_of_ble_eq_true rfl) (hw 10 (Nat.le_refl _)) (by omega) (by omega) rfl ?_
  refine ms_istore dL_law_469 (Nat.le_of_ble_eq_true rfl) ?_
  refine ms_aload_n dL_law_471 rfl ?_
  refine ms_aload_n dL_law_472 rfl ?_
  refine ms_iload dL_law_473 rfl ?_
  refine ms_iconst (v := nI 1) dL_law_475 (by decide) ?_
  refine n_iadd dL_law_476 ?_
  refine ms_sld dL_law_477 rfl (by show i + 1 < S.1; omega) (by show S.1 < 2 ^ 31; omega) ?_
  refine ms_aload_n dL_law_478 rfl ?_
  refine ms_iload dL_law_479 rfl ?_
  refine ms_iconst (v := nI 2) dL_law_481 (by decide) ?_
  refine n_iadd dL_law_482 ?_
  refine ms_sld dL_law_483 rfl (by show i + 2 < S.1; omega) (by show S.1 < 2 ^ 31; omega) ?_
  refine qRV2 dL_law_484 kL_125 (show 143 < 178 by decide) (show (sh0 143).1 = _ by decide) (d := 10) (by decide) rfl rfl (Nat.le_of_ble_eq_true rfl) (Nat.le_of_ble_eq_true rfl) (hr 10 (by decide)) rfl ?_
  refine ms_istore dL_law_487 (Nat.le_of_ble_eq_true rfl) ?_
  refine ms_aload_n dL_law_489 rfl ?_
  refine qRV0 dL_law_490 kL_108 (show 143 < 178 by decide) (show (sh0 143).1 = _ by decide) (d := 10) (by decide) (Nat.le_of_ble_eq_true rfl) (Nat.le_of_ble_eq_true rfl) (kr_thrown) rfl ?_
  refine ms_iload dL_law_493 rfl ?_
  refine ms_icmp_eq (tgt := 500) dL_law_495 (by decide) (fun _ => ?_) (fun w => absurd (h0) w)
  refine ms_iload dL_law_500 rfl ?_
  refine ms_if_ne (tgt := 517) dL_law_502 (by decide) (fun _ => ?_) (fun z => ?_)
  · refine ms_goto (tgt := 1969) dL_law_517 (by decide) ?_
    exact hT _ _ _ _ _ _ hI2 hC2 (by omega) (by omega)
  · have hy := hv (nI_z0 hz z)
    refine ms_aload_n dL_law_505 rfl ?_
    refine ms_iconst (v := nI 0) dL_law_506 (by decide) ?_
    refine q_lald dL_law_507 ?_
    refine ms_iload dL_law_508 rfl ?_
    refine ms_i2l dL_law_510 ?_
    refine ms_lcmp dL_law_511 ?_
    rw [show lg1 = y.toInt64 from hy, lg_self]
    refine ms_if_eq (tgt := 517) dL_law_512 (by decide) (fun _ => ?_) (fun w => absurd rfl w)
    refine ms_goto (tgt := 1969) dL_law_517 (by decide) ?_
    exact hT _ _ _ _ _ _ hI2 hC2 (by omega) (by omega)
theorem l_look {S : m_S} {c i : Nat} {I : m_I} {lg : Int64} {d5 d6 : Option Value} {rc rs : Nat} (hi : i + 6 ≤ S.1) (hn : S.1 ≤ 3072) (hc : c < 512) (hI : Iv c I) (hC : Cr I I) (hrc : 512 - c ≤ rc) (hrs : 6 * (512 - c) ≤ rs) (hT : lT S c i) : m_W S lB 520 [some (.ref m_scr), some (.ref 0), some (.ref 143), some (.ref 177), some (.int (nI i)), d5, d6] [] (hh I lg) rc rs := by
  by_cases hb3 : S.2 (i + 3) = 0
  · obtain ⟨z, y, lg1, I1, I2, hz, hw, hr, h0, hv, hI2, hC2⟩ := L_look lg (o_look (S.2 (i + 1)) (S.2 (i + 2)) (false) (S.2 (i + 4)) hI hC)
    refine ms_aload_n dL_law_520 rfl ?_
    refine ms_aload_n dL_law_521 rfl ?_
    refine ms_iload dL_law_522 rfl ?_
    refine ms_iconst (v := nI 1) dL_law_524 (by decide) ?_
    refine n_iadd dL_law_525 ?_
    refine ms_sld dL_law_526 rfl (by show i + 1 < S.1; omega) (by show S.1 < 2 ^ 31; omega) ?_
    refine ms_aload_n dL_law_527 rfl ?_
    refine ms_iload dL_law_528 rfl ?_
    refine ms_iconst (v := nI 2) dL_law_530 (by decide) ?_
    refine n_iadd dL_law_531 ?_
    refine ms_sld dL_law_532 rfl (by show i + 2 < S.1; omega) (by show S.1 < 2 ^ 31; omega) ?_
    refine ms_aload_n dL_law_533 rfl ?_
    refine ms_iload dL_law_534 rfl ?_
    refine ms_iconst (v := nI 3) dL_law_536 (by decide) ?_
    refine n_iadd dL_law_537 ?_
    refine ms_sld dL_law_538 rfl (by show i + 3 < S.1; omega) (by show S.1 < 2 ^ 31; omega) ?_
    refine ms_if_eq (tgt := 546) dL_law_539 (by decide) (fun _ => ?_) (fun z => absurd hb3 z)
    refine ms_iconst (v := nI 0) dL_law_546 (by decide) ?_
    refine ms_aload_n dL_law_547 rfl ?_
    refine ms_iload dL_law_548 rfl ?_
    refine ms_iconst (v := nI 4) dL_law_550 (by decide) ?_
    refine n_iadd dL_law_551 ?_
    refine ms_sld dL_law_552 rfl (by show i + 4 < S.1; omega) (by show S.1 < 2 ^ 31; omega) ?_
    refine ms_aload_n dL_law_553 rfl ?_
    refine qY6 dL_law_554 kL_126 (d := 10) (by decide) rfl rfl rfl rfl rfl rfl (Nat.le_of_ble_eq_true rfl) (Nat.le_of_ble_eq_true rfl) (hw 10 (Nat.le_refl _)) (by omega) (by omega) rfl ?_
    refine ms_istore dL_law_557 (Nat.le_of_ble_eq_true rfl) ?_
    refine ms_aload_n dL_law_559 rfl ?_
    refine ms_aload_n dL_law_560 rfl ?_
    refine ms_iload dL_law_561 rfl ?_
    refine ms_iconst (v := nI 1) dL_law_563 (by decide) ?_
    refine n_iadd dL_law_564 ?_
    refine ms_sld dL_law_565 rfl (by show i + 1 < S.1; omega) (by show S.1 < 2 ^ 31; omega) ?_
    refine ms_aload_n dL_law_566 rfl ?_
    refine ms_iload dL_law_567 rfl ?_
    refine ms_iconst (v := nI 2) dL_law_569 (by decide) ?_
    refine n_iadd dL_law_570 ?_
    refine ms_sld dL_law_571 rfl (by show i + 2 < S.1; omega) (by show S.1 < 2 ^ 31; omega) ?_
    refine ms_aload_n dL_law_572 rfl ?_
    refine ms_iload dL_law_573 rfl ?_
    refine ms_iconst (v := nI 3) dL_law_575 (by decide) ?_
    refine n_iadd dL_law_576 ?_
    refine ms_sld dL_law_577 rfl (by show i + 3 < S.1; omega) (by show S.1 < 2 ^ 31; omega) ?_
    refine ms_if_eq (tgt := 585) dL_law_578 (by decide) (fun _ => ?_) (fun z => absurd hb3 z)
    refine ms_iconst (v := nI 0) dL_law_585 (by decide) ?_
    refine ms_aload_n dL_law_586 rfl ?_
    refine ms_iload dL_law_587 rfl ?_
    refine ms_iconst (v := nI 4) dL_law_589 (by decide) ?_
    refine n_iadd dL_law_590 ?_
    refine ms_sld dL_law_591 rfl (by show i + 4 < S.1; omega) (by show S.1 < 2 ^ 31; omega) ?_
    refine qRV4 dL_law_592 kL_129 (show 143 < 178 by decide) (show (sh0 143).1 = _ by decide) (d := 10) (by decide) rfl rfl rfl rfl (Nat.le_of_ble_eq_true rfl) (Nat.le_of_ble_eq_true rfl) (hr 10 (by decide)) rfl ?_
    refine ms_istore dL_law_595 (Nat.le_of_ble_eq_true rfl) ?_
    refine ms_aload_n dL_law_597 rfl ?_
    refine qRV0 dL_law_598 kL_108 (show 143 < 178 by decide) (show (sh0 143).1 = _ by decide) (d := 10) (by decide) (Nat.le_of_ble_eq_true rfl) (Nat.le_of_ble_eq_true rfl) (kr_thrown) rfl ?_
    refine ms_iload dL_law_601 rfl ?_
    refine ms_icmp_eq (tgt := 608) dL_law_603 (by decide) (fun _ => ?_) (fun w => absurd (h0) w)
    refine ms_iload dL_law_608 rfl ?_
    refine ms_if_ne (tgt := 625) dL_law_610 (by decide) (fun _ => ?_) (fun z => ?_)
    · refine ms_goto (tgt := 1969) dL_law_625 (by decide) ?_
      exact hT _ _ _ _ _ _ hI2 hC2 (by omega) (by omega)
    · have hy := hv (nI_z0 hz z)
      refine ms_aload_n dL_law_613 rfl ?_
      refine ms_iconst (v := nI 0) dL_law_614 (by decide) ?_
      refine q_lald dL_law_615 ?_
      refine ms_iload dL_law_616 rfl ?_
      refine ms_i2l dL_law_618 ?_
      refine ms_lcmp dL_law_619 ?_
      rw [show lg1 = y.toInt64 from hy, lg_self]
      refine ms_if_eq (tgt := 625) dL_law_620 (by decide) (fun _ => ?_) (fun w => absurd rfl w)
      refine ms_goto (tgt := 1969) dL_law_625 (by decide) ?_
      exact hT _ _ _ _ _ _ hI2 hC2 (by omega) (by omega)
  · obtain ⟨z, y, lg1, I1, I2, hz, hw, hr, h0, hv, hI2, hC2⟩ := L_look lg (o_look (S.2 (i + 1)) (S.2 (i + 2)) (true) (S.2 (i + 4)) hI hC)
    refine ms_aload_n dL_law_520 rfl ?_
    refine ms_aload_n dL_law_521 rfl ?_
    refine ms_iload dL_law_522 rfl ?_
    refine ms_iconst (v := nI 1) dL_law_524 (by decide) ?_
    refine n_iadd dL_law_525 ?_
    refine ms_sld dL_law_526 rfl (by show i + 1 < S.1; omega) (by show S.1 < 2 ^ 31; omega) ?_
    refine ms_aload_n dL_law_527 rfl ?_
    refine ms_iload dL_law_528 rfl ?_
    refine ms_iconst (v := nI 2) dL_law_530 (by decide) ?_
    refine n_iadd dL_law_531 ?_
    refine ms_sld dL_law_532 rfl (by show i + 2 < S.1; omega) (by show S.1 < 2 ^ 31; omega) ?_
    refine ms_aload_n dL_law_533 rfl ?_
    refine ms_iload dL_law_534 rfl ?_
    refine ms_iconst (v := nI 3) dL_law_536 (by decide) ?_
    refine n_iadd dL_law_537 ?_
    refine ms_sld dL_law_538 rfl (by show i + 3 < S.1; omega) (by show S.1 < 2 ^ 31; omega) ?_
    refine ms_if_eq (tgt := 546) dL_law_539 (by decide) (fun z => absurd z hb3) (fun _ => ?_)
    refine ms_iconst (v := nI 1) dL_law_542 (by decide) ?_
    refine ms_goto (tgt := 547) dL_law_543 (by decide) ?_
    refine ms_aload_n dL_law_547 rfl ?_
    refine ms_iload dL_law_548 rfl ?_
    refine ms_iconst (v := nI 4) dL_law_550 (by decide) ?_
    refine n_iadd dL_law_551 ?_
    refine ms_sld dL_law_552 rfl (by show i + 4 < S.1; omega) (by show S.1 < 2 ^ 31; omega) ?_
    refine ms_aload_n dL_law_553 rfl ?_
    refine qY6 dL_law_554 kL_126 (d := 10) (by decide) rfl rfl rfl rfl rfl rfl (Nat.le_of_ble_eq_true rfl) (Nat.le_of_ble_eq_true rfl) (hw 10 (Nat.le_refl _)) (by omega) (by omega) rfl ?_
    refine ms_istore dL_law_557 (Nat.le_of_ble_eq_true rfl) ?_
    refine ms_aload_n dL_law_559 rfl ?_
    refine ms_aload_n dL_law_560 rfl ?_
    refine ms_iload dL_law_561 rfl ?_
    refine ms_iconst (v := nI 1) dL_law_563 (by decide) ?_
    refine n_iadd dL_law_564 ?_
    refine ms_sld dL_law_565 rfl (by show i + 1 < S.1; omega) (by show S.1 < 2 ^ 31; omega) ?_
    refine ms_aload_n dL_law_566 rfl ?_
    refine ms_iload dL_law_567 rfl ?_
    refine ms_iconst (v := nI 2) dL_law_569 (by decide) ?_
    refine n_iadd dL_law_570 ?_
    refine ms_sld dL_law_571 rfl (by show i + 2 < S.1; omega) (by show S.1 < 2 ^ 31; omega) ?_
    refine ms_aload_n dL_law_572 rfl ?_
    refine ms_iload dL_law_573 rfl ?_
    refine ms_iconst (v := nI 3) dL_law_575 (by decide) ?_
    refine n_iadd dL_law_576 ?_
    refine ms_sld dL_law_577 rfl (by show i + 3 < S.1; omega) (by show S.1 < 2 ^ 31; omega) ?_
    refine ms_if_eq (tgt := 585) dL_law_578 (by decide) (fun z => absurd z hb3) (fun _ => ?_)
    refine ms_iconst (v := nI 1) dL_law_581 (by decide) ?_
    refine ms_goto (tgt := 586) dL_law_582 (by decide) ?_
    refine ms_aload_n dL_law_586 rfl ?_
    refine ms_iload dL_law_587 rfl ?_
    refine ms_iconst (v := nI 4) dL_law_589 (by decide) ?_
    refine n_iadd dL_law_590 ?_
    refine ms_sld dL_law_591 rfl (by show i + 4 < S.1; omega) (by show S.1 < 2 ^ 31; omega) ?_
    refine qRV4 dL_law_592 kL_129 (show 143 < 178 by decide) (show (sh0 143).1 = _ by decide) (d := 10) (by decide) rfl rfl rfl rfl (Nat.le_of_ble_eq_true rfl) (Nat.le_of_ble_eq_true rfl) (hr 10 (by decide)) rfl ?_
    refine ms_istore dL_law_595 (Nat.le_of_ble_eq_true rfl) ?_
    refine ms_aload_n dL_law_597 rfl ?_
    refine qRV0 dL_law_598 kL_108 (show 143 < 178 by decide) (show (sh0 143).1 = _ by decide) (d := 10) (by decide) (Nat.le_of_ble_eq_true rfl) (Nat.le_of_ble_eq_true rfl) (kr_thrown) rfl ?_
    refine ms_iload dL_law_601 rfl ?_
    refine ms_icmp_eq (tgt := 608) dL_law_603 (by decide) (fun _ => ?_) (fun w => absurd (h0) w)
    refine ms_iload dL_law_608 rfl ?_
    refine ms_if_ne (tgt := 625) dL_law_610 (by decide) (fun _ => ?_) (fun z => ?_)
    · refine ms_goto (tgt := 1969) dL_law_625 (by decide) ?_
      exact hT _ _ _ _ _ _ hI2 hC2 (by omega) (by omega)
    · have hy := hv (nI_z0 hz z)
      refine ms_aload_n dL_law_613 rfl ?_
      refine ms_iconst (v := nI 0) dL_law_614 (by decide) ?_
      refine q_lald dL_law_615 ?_
      refine ms_iload dL_law_616 rfl ?_
      refine ms_i2l dL_law_618 ?_
      refine ms_lcmp dL_law_619 ?_
      rw [show lg1 = y.toInt64 from hy, lg_self]
      refine ms_if_eq (tgt := 625) dL_law_620 (by decide) (fun _ => ?_) (fun w => absurd rfl w)
      refine ms_goto (tgt := 1969) dL_law_625 (by decide) ?_
      exact hT _ _ _ _ _ _ hI2 hC2 (by omega) (by omega)
theorem l_clashes {S : m_S} {c i : Nat} {I : m_I} {lg : Int64} {d5 d6 : Option Value} {rc rs : Nat} (hi : i + 6 ≤ S.1) (hn : S.1 ≤ 3072) (hc : c < 512) (hI : Iv c I) (hC : Cr I I) (hrc : 512 - c ≤ rc) (hrs : 6 * (512 - c) ≤ rs) (hT : lT S c i) : m_W S lB 628 [some (.ref m_scr), some (.ref 0), some (.ref 143), some (.ref 177), some (.int (nI i)), d5, d6] [] (hh I lg) rc rs := by
  obtain ⟨z, y, lg1, I1, I2, hz, hw, hr, h0, hv, hI2, hC2⟩ := L_clashes lg (o_clashes (S.2 (i + 1)) hI hC)
  refine ms_aload_n dL_law_628 rfl ?_
  refine ms_aload_n dL_law_629 rfl ?_
  refine ms_iload dL_law_630 rfl ?_
  refine ms_iconst (v := nI 1) dL_law_632 (by decide) ?_
  refine n_iadd dL_law_633 ?_
  refine ms_sld dL_law_634 rfl (by show i + 1 < S.1; omega) (by show S.1 < 2 ^ 31; omega) ?_
  refine ms_aload_n dL_law_635 rfl ?_
  refine qY3 dL_law_636 kL_130 (d := 10) (by decide) rfl rfl rfl (Nat.le_of_ble_eq_true rfl) (Nat.le_of_ble_eq_true rfl) (hw 10 (Nat.le_refl _)) (by omega) (by omega) rfl ?_
  refine ms_istore dL_law_639 (Nat.le_of_ble_eq_true rfl) ?_
  refine ms_aload_n dL_law_641 rfl ?_
  refine ms_aload_n dL_law_642 rfl ?_
  refine ms_iload dL_law_643 rfl ?_
  refine ms_iconst (v := nI 1) dL_law_645 (by decide) ?_
  refine n_iadd dL_law_646 ?_
  refine ms_sld dL_law_647 rfl (by show i + 1 < S.1; omega) (by show S.1 < 2 ^ 31; omega) ?_
  refine qRV1 dL_law_648 kL_132 (show 143 < 178 by decide) (show (sh0 143).1 = _ by decide) (d := 10) (by decide) rfl (Nat.le_of_ble_eq_true rfl) (Nat.le_of_ble_eq_true rfl) (hr 10 (by decide)) rfl ?_
  refine ms_istore dL_law_651 (Nat.le_of_ble_eq_true rfl) ?_
  refine ms_aload_n dL_law_653 rfl ?_
  refine qRV0 dL_law_654 kL_108 (show 143 < 178 by decide) (show (sh0 143).1 = _ by decide) (d := 10) (by decide) (Nat.le_of_ble_eq_true rfl) (Nat.le_of_ble_eq_true rfl) (kr_thrown) rfl ?_
  refine ms_iload dL_law_657 rfl ?_
  refine ms_icmp_eq (tgt := 664) dL_law_659 (by decide) (fun _ => ?_) (fun w => absurd (h0) w)
  refine ms_iload dL_law_664 rfl ?_
  refine ms_if_ne (tgt := 688) dL_law_666 (by decide) (fun _ => ?_) (fun z => ?_)
  · refine ms_goto (tgt := 1969) dL_law_688 (by decide) ?_
    exact hT _ _ _ _ _ _ hI2 hC2 (by omega) (by omega)
  · have hy := hv (nI_z0 hz z)
    refine ms_aload_n dL_law_669 rfl ?_
    refine ms_iconst (v := nI 0) dL_law_670 (by decide) ?_
    refine q_lald dL_law_671 ?_
    refine ms_iload dL_law_672 rfl ?_
    refine ms_if_eq (tgt := 681) dL_law_674 (by decide) (fun z2 => ?_) (fun z2 => ?_)
    · refine ms_lconst (v := 0) dL_law_681 (by decide) ?_
      refine ms_lcmp dL_law_682 ?_
      rw [show lg1 = 0 from hy.trans (if_pos z2), lg_self]
      refine ms_if_eq (tgt := 688) dL_law_683 (by decide) (fun _ => ?_) (fun w => absurd rfl w)
      refine ms_goto (tgt := 1969) dL_law_688 (by decide) ?_
      exact hT _ _ _ _ _ _ hI2 hC2 (by omega) (by omega)
    · refine ms_lconst (v := 1) dL_law_677 (by decide) ?_
      refine ms_goto (tgt := 682) dL_law_678 (by decide) ?_
      refine ms_lcmp dL_law_682 ?_
      rw [show lg1 = 1 from hy.trans (if_neg z2), lg_self]
      refine ms_if_eq (tgt := 688) dL_law_683 (by decide) (fun _ => ?_) (fun w => absurd rfl w)
      refine ms_goto (tgt := 1969) dL_law_688 (by decide) ?_
      exact hT _ _ _ _ _ _ hI2 hC2 (by omega) (by omega)
theorem l_bind {S : m_S} {c i : Nat} {I : m_I} {lg : Int64} {d5 d6 : Option Value} {rc rs : Nat} (hi : i + 6 ≤ S.1) (hn : S.1 ≤ 3072) (hc : c < 512) (hI : Iv c I) (hC : Cr I I) (hrc : 512 - c ≤ rc) (hrs : 6 * (512 - c) ≤ rs) (hT : lT S c i) : m_W S lB 691 [some (.ref m_scr), some (.ref 0), some (.ref 143), some (.ref 177), some (.int (nI i)), d5, d6] [] (hh I lg) rc rs := by
  obtain ⟨z, y, lg1, I1, I2, hz, hw, hr, h0, hv, hI2, hC2⟩ := L_bind lg (o_bind (S.2 (i + 1)) (S.2 (i + 2)) hI hC)
  refine ms_aload_n dL_law_691 rfl ?_
  refine ms_aload_n dL_law_692 rfl ?_
  refine ms_iload dL_law_693 rfl ?_
  refine ms_iconst (v := nI 1) dL_law_695 (by decide) ?_
  refine n_iadd dL_law_696 ?_
  refine ms_sld dL_law_697 rfl (by show i + 1 < S.1; omega) (by show S.1 < 2 ^ 31; omega) ?_
  refine ms_aload_n dL_law_698 rfl ?_
  refine ms_iload dL_law_699 rfl ?_
  refine ms_iconst (v := nI 2) dL_law_701 (by decide) ?_
  refine n_iadd dL_law_702 ?_
  refine ms_sld dL_law_703 rfl (by show i + 2 < S.1; omega) (by show S.1 < 2 ^ 31; omega) ?_
  refine ms_aload_n dL_law_704 rfl ?_
  refine qY4 dL_law_705 kL_133 (d := 10) (by decide) rfl rfl rfl rfl (Nat.le_of_ble_eq_true rfl) (Nat.le_of_ble_eq_true rfl) (hw 10 (Nat.le_refl _)) (by omega) (by omega) rfl ?_
  refine ms_istore dL_law_708 (Nat.le_of_ble_eq_true rfl) ?_
  refine ms_aload_n dL_law_710 rfl ?_
  refine ms_aload_n dL_law_711 rfl ?_
  refine ms_iload dL_law_712 rfl ?_
  refine ms_iconst (v := nI 1) dL_law_714 (by decide) ?_
  refine n_iadd dL_law_715 ?_
  refine ms_sld dL_law_716 rfl (by show i + 1 < S.1; omega) (by show S.1 < 2 ^ 31; omega) ?_
  refine ms_aload_n dL_law_717 rfl ?_
  refine ms_iload dL_law_718 rfl ?_
  refine ms_iconst (v := nI 2) dL_law_720 (by decide) ?_
  refine n_iadd dL_law_721 ?_
  refine ms_sld dL_law_722 rfl (by show i + 2 < S.1; omega) (by show S.1 < 2 ^ 31; omega) ?_
  refine qRV2 dL_law_723 kL_135 (show 143 < 178 by decide) (show (sh0 143).1 = _ by decide) (d := 10) (by decide) rfl rfl (Nat.le_of_ble_eq_true rfl) (Nat.le_of_ble_eq_true rfl) (hr 10 (by decide)) rfl ?_
  refine ms_istore dL_law_726 (Nat.le_of_ble_eq_true rfl) ?_
  refine ms_aload_n dL_law_728 rfl ?_
  refine qRV0 dL_law_729 kL_108 (show 143 < 178 by decide) (show (sh0 143).1 = _ by decide) (d := 10) (by decide) (Nat.le_of_ble_eq_true rfl) (Nat.le_of_ble_eq_true rfl) (kr_thrown) rfl ?_
  refine ms_iload dL_law_732 rfl ?_
  refine ms_icmp_eq (tgt := 739) dL_law_734 (by decide) (fun _ => ?_) (fun w => absurd (h0) w)
  refine ms_iload dL_law_739 rfl ?_
  refine ms_if_ne (tgt := 756) dL_law_741 (by decide) (fun _ => ?_) (fun z => ?_)
  · refine ms_goto (tgt := 1969) dL_law_756 (by decide) ?_
    exact hT _ _ _ _ _ _ hI2 hC2 (by omega) (by omega)
  · have hy := hv (nI_z0 hz z)
    refine ms_aload_n dL_law_744 rfl ?_
    refine ms_iconst (v := nI 0) dL_law_745 (by decide) ?_
    refine q_lald dL_law_746 ?_
    refine ms_iload dL_law_747 rfl ?_
    refine ms_i2l dL_law_749 ?_
    refine ms_lcmp dL_law_750 ?_
    rw [show lg1 = y.toInt64 from hy, lg_self]
    refine ms_if_eq (tgt := 756) dL_law_751 (by decide) (fun _ => ?_) (fun w => absurd rfl w)
    refine ms_goto (tgt := 1969) dL_law_756 (by decide) ?_
    exact hT _ _ _ _ _ _ hI2 hC2 (by omega) (by omega)
theorem l_person {S : m_S} {c i : Nat} {I : m_I} {lg : Int64} {d5 d6 : Option Value} {rc rs : Nat} (hi : i + 6 ≤ S.1) (hn : S.1 ≤ 3072) (hc : c < 512) (hI : Iv c I) (hC : Cr I I) (hrc : 512 - c ≤ rc) (hrs : 6 * (512 - c) ≤ rs) (hT : lT S c i) : m_W S lB 759 [some (.ref m_scr), some (.ref 0), some (.ref 143), some (.ref 177), some (.int (nI i)), d5, d6] [] (hh I lg) rc rs := by
  by_cases hb4 : S.2 (i + 4) = 0
  · obtain ⟨z, y, lg1, I1, I2, hz, hw, hr, h0, hv, hI2, hC2⟩ := L_person lg (o_person (S.2 (i + 1)) (S.2 (i + 2)) (S.2 (i + 3)) (false) hI hC)
    refine ms_aload_n dL_law_759 rfl ?_
    refine ms_aload_n dL_law_760 rfl ?_
    refine ms_iload dL_law_761 rfl ?_
    refine ms_iconst (v := nI 1) dL_law_763 (by decide) ?_
    refine n_iadd dL_law_764 ?_
    refine ms_sld dL_law_765 rfl (by show i + 1 < S.1; omega) (by show S.1 < 2 ^ 31; omega) ?_
    refine ms_aload_n dL_law_766 rfl ?_
    refine ms_iload dL_law_767 rfl ?_
    refine ms_iconst (v := nI 2) dL_law_769 (by decide) ?_
    refine n_iadd dL_law_770 ?_
    refine ms_sld dL_law_771 rfl (by show i + 2 < S.1; omega) (by show S.1 < 2 ^ 31; omega) ?_
    refine ms_aload_n dL_law_772 rfl ?_
    refine ms_iload dL_law_773 rfl ?_
    refine ms_iconst (v := nI 3) dL_law_775 (by decide) ?_
    refine n_iadd dL_law_776 ?_
    refine ms_sld dL_law_777 rfl (by show i + 3 < S.1; omega) (by show S.1 < 2 ^ 31; omega) ?_
    refine ms_aload_n dL_law_778 rfl ?_
    refine ms_iload dL_law_779 rfl ?_
    refine ms_iconst (v := nI 4) dL_law_781 (by decide) ?_
    refine n_iadd dL_law_782 ?_
    refine ms_sld dL_law_783 rfl (by show i + 4 < S.1; omega) (by show S.1 < 2 ^ 31; omega) ?_
    refine ms_if_eq (tgt := 791) dL_law_784 (by decide) (fun _ => ?_) (fun z => absurd hb4 z)
    refine ms_iconst (v := nI 0) dL_law_791 (by decide) ?_
    refine ms_aload_n dL_law_792 rfl ?_
    refine qY6 dL_law_793 kL_136 (d := 10) (by decide) rfl rfl rfl rfl rfl rfl (Nat.le_of_ble_eq_true rfl) (Nat.le_of_ble_eq_true rfl) (hw 10 (Nat.le_refl _)) (by omega) (by omega) rfl ?_
    refine ms_istore dL_law_796 (Nat.le_of_ble_eq_true rfl) ?_
    refine ms_aload_n dL_law_798 rfl ?_
    refine ms_aload_n dL_law_799 rfl ?_
    refine ms_iload dL_law_800 rfl ?_
    refine ms_iconst (v := nI 1) dL_law_802 (by decide) ?_
    refine n_iadd dL_law_803 ?_
    refine ms_sld dL_law_804 rfl (by show i + 1 < S.1; omega) (by show S.1 < 2 ^ 31; omega) ?_
    refine ms_aload_n dL_law_805 rfl ?_
    refine ms_iload dL_law_806 rfl ?_
    refine ms_iconst (v := nI 2) dL_law_808 (by decide) ?_
    refine n_iadd dL_law_809 ?_
    refine ms_sld dL_law_810 rfl (by show i + 2 < S.1; omega) (by show S.1 < 2 ^ 31; omega) ?_
    refine ms_aload_n dL_law_811 rfl ?_
    refine ms_iload dL_law_812 rfl ?_
    refine ms_iconst (v := nI 3) dL_law_814 (by decide) ?_
    refine n_iadd dL_law_815 ?_
    refine ms_sld dL_law_816 rfl (by show i + 3 < S.1; omega) (by show S.1 < 2 ^ 31; omega) ?_
    refine ms_aload_n dL_law_817 rfl ?_
    refine ms_iload dL_law_818 rfl ?_
    refine ms_iconst (v := nI 4) dL_law_820 (by decide) ?_
    refine n_iadd dL_law_821 ?_
    refine ms_sld dL_law_822 rfl (by show i + 4 < S.1; omega) (by show S.1 < 2 ^ 31; omega) ?_
    refine ms_if_eq (tgt := 830) dL_law_823 (by decide) (fun _ => ?_) (fun z => absurd hb4 z)
    refine ms_iconst (v := nI 0) dL_law_830 (by decide) ?_
    refine qRV4 dL_law_831 kL_139 (show 143 < 178 by decide) (show (sh0 143).1 = _ by decide) (d := 10) (by decide) rfl rfl rfl rfl (Nat.le_of_ble_eq_true rfl) (Nat.le_of_ble_eq_true rfl) (hr 10 (by decide)) rfl ?_
    refine ms_istore dL_law_834 (Nat.le_of_ble_eq_true rfl) ?_
    refine ms_aload_n dL_law_836 rfl ?_
    refine qRV0 dL_law_837 kL_108 (show 143 < 178 by decide) (show (sh0 143).1 = _ by decide) (d := 10) (by decide) (Nat.le_of_ble_eq_true rfl) (Nat.le_of_ble_eq_true rfl) (kr_thrown) rfl ?_
    refine ms_iload dL_law_840 rfl ?_
    refine ms_icmp_eq (tgt := 847) dL_law_842 (by decide) (fun _ => ?_) (fun w => absurd (h0) w)
    refine ms_iload dL_law_847 rfl ?_
    refine ms_if_ne (tgt := 864) dL_law_849 (by decide) (fun _ => ?_) (fun z => ?_)
    · refine ms_goto (tgt := 1969) dL_law_864 (by decide) ?_
      exact hT _ _ _ _ _ _ hI2 hC2 (by omega) (by omega)
    · have hy := hv (nI_z0 hz z)
      refine ms_aload_n dL_law_852 rfl ?_
      refine ms_iconst (v := nI 0) dL_law_853 (by decide) ?_
      refine q_lald dL_law_854 ?_
      refine ms_iload dL_law_855 rfl ?_
      refine ms_i2l dL_law_857 ?_
      refine ms_lcmp dL_law_858 ?_
      rw [show lg1 = y.toInt64 from hy, lg_self]
      refine ms_if_eq (tgt := 864) dL_law_859 (by decide) (fun _ => ?_) (fun w => absurd rfl w)
      refine ms_goto (tgt := 1969) dL_law_864 (by decide) ?_
      exact hT _ _ _ _ _ _ hI2 hC2 (by omega) (by omega)
  · obtain ⟨z, y, lg1, I1, I2, hz, hw, hr, h0, hv, hI2, hC2⟩ := L_person lg (o_person (S.2 (i + 1)) (S.2 (i + 2)) (S.2 (i + 3)) (true) hI hC)
    refine ms_aload_n dL_law_759 rfl ?_
    refine ms_aload_n dL_law_760 rfl ?_
    refine ms_iload dL_law_761 rfl ?_
    refine ms_iconst (v := nI 1) dL_law_763 (by decide) ?_
    refine n_iadd dL_law_764 ?_
    refine ms_sld dL_law_765 rfl (by show i + 1 < S.1; omega) (by show S.1 < 2 ^ 31; omega) ?_
    refine ms_aload_n dL_law_766 rfl ?_
    refine ms_iload dL_law_767 rfl ?_
    refine ms_iconst (v := nI 2) dL_law_769 (by decide) ?_
    refine n_iadd dL_law_770 ?_
    refine ms_sld dL_law_771 rfl (by show i + 2 < S.1; omega) (by show S.1 < 2 ^ 31; omega) ?_
    refine ms_aload_n dL_law_772 rfl ?_
    refine ms_iload dL_law_773 rfl ?_
    refine ms_iconst (v := nI 3) dL_law_775 (by decide) ?_
    refine n_iadd dL_law_776 ?_
    refine ms_sld dL_law_777 rfl (by show i + 3 < S.1; omega) (by show S.1 < 2 ^ 31; omega) ?_
    refine ms_aload_n dL_law_778 rfl ?_
    refine ms_iload dL_law_779 rfl ?_
    refine ms_iconst (v := nI 4) dL_law_781 (by decide) ?_
    refine n_iadd dL_law_782 ?_
    refine ms_sld dL_law_783 rfl (by show i + 4 < S.1; omega) (by show S.1 < 2 ^ 31; omega) ?_
    refine ms_if_eq (tgt := 791) dL_law_784 (by decide) (fun z => absurd z hb4) (fun _ => ?_)
    refine ms_iconst (v := nI 1) dL_law_787 (by decide) ?_
    refine ms_goto (tgt := 792) dL_law_788 (by decide) ?_
    refine ms_aload_n dL_law_792 rfl ?_
    refine qY6 dL_law_793 kL_136 (d := 10) (by decide) rfl rfl rfl rfl rfl rfl (Nat.le_of_ble_eq_true rfl) (Nat.le_of_ble_eq_true rfl) (hw 10 (Nat.le_refl _)) (by omega) (by omega) rfl ?_
    refine ms_istore dL_law_796 (Nat.le_of_ble_eq_true rfl) ?_
    refine ms_aload_n dL_law_798 rfl ?_
    refine ms_aload_n dL_law_799 rfl ?_
    refine ms_iload dL_law_800 rfl ?_
    refine ms_iconst (v := nI 1) dL_law_802 (by decide) ?_
    refine n_iadd dL_law_803 ?_
    refine ms_sld dL_law_804 rfl (by show i + 1 < S.1; omega) (by show S.1 < 2 ^ 31; omega) ?_
    refine ms_aload_n dL_law_805 rfl ?_
    refine ms_iload dL_law_806 rfl ?_
    refine ms_iconst (v := nI 2) dL_law_808 (by decide) ?_
    refine n_iadd dL_law_809 ?_
    refine ms_sld dL_law_810 rfl (by show i + 2 < S.1; omega) (by show S.1 < 2 ^ 31; omega) ?_
    refine ms_aload_n dL_law_811 rfl ?_
    refine ms_iload dL_law_812 rfl ?_
    refine ms_iconst (v := nI 3) dL_law_814 (by decide) ?_
    refine n_iadd dL_law_815 ?_
    refine ms_sld dL_law_816 rfl (by show i + 3 < S.1; omega) (by show S.1 < 2 ^ 31; omega) ?_
    refine ms_aload_n dL_law_817 rfl ?_
    refine ms_iload dL_law_818 rfl ?_
    refine ms_iconst (v := nI 4) dL_law_820 (by decide) ?_
    refine n_iadd dL_law_821 ?_
    refine ms_sld dL_law_822 rfl (by show i + 4 < S.1; omega) (by show S.1 < 2 ^ 31; omega) ?_
    refine ms_if_eq (tgt := 830) dL_law_823 (by decide) (fun z => absurd z hb4) (fun _ => ?_)
    refine ms_iconst (v := nI 1) dL_law_826 (by decide) ?_
    refine ms_goto (tgt := 831) dL_law_827 (by decide) ?_
    refine qRV4 dL_law_831 kL_139 (show 143 < 178 by decide) (show (sh0 143).1 = _ by decide) (d := 10) (by decide) rfl rfl rfl rfl (Nat.le_of_ble_eq_true rfl) (Nat.le_of_ble_eq_true rfl) (hr 10 (by decide)) rfl ?_
    refine ms_istore dL_law_834 (Nat.le_of_ble_eq_true rfl) ?_
    refine ms_aload_n dL_law_836 rfl ?_
    refine qRV0 dL_law_837 kL_108 (show 143 < 178 by decide) (show (sh0 143).1 = _ by decide) (d := 10) (by decide) (Nat.le_of_ble_eq_true rfl) (Nat.le_of_ble_eq_true rfl) (kr_thrown) rfl ?_
    refine ms_iload dL_law_840 rfl ?_
    refine ms_icmp_eq (tgt := 847) dL_law_842 (by decide) (fun _ => ?_) (fun w => absurd (h0) w)
    refine ms_iload dL_law_847 rfl ?_
    refine ms_if_ne (tgt := 864) dL_law_849 (by decide) (fun _ => ?_) (fun z => ?_)
    · refine ms_goto (tgt := 1969) dL_law_864 (by decide) ?_
      exact hT _ _ _ _ _ _ hI2 hC2 (by omega) (by omega)
    · have hy := hv (nI_z0 hz z)
      refine ms_aload_n dL_law_852 rfl ?_
      refine ms_iconst (v := nI 0) dL_law_853 (by decide) ?_
      refine q_lald dL_law_854 ?_
      refine ms_iload dL_law_855 rfl ?_
      refine ms_i2l dL_law_857 ?_
      refine ms_lcmp dL_law_858 ?_
      rw [show lg1 = y.toInt64 from hy, lg_self]
      refine ms_if_eq (tgt := 864) dL_law_859 (by decide) (fun _ => ?_) (fun w => absurd rfl w)
      refine ms_goto (tgt := 1969) dL_law_864 (by decide) ?_
      exact hT _ _ _ _ _ _ hI2 hC2 (by omega) (by omega)
theorem l_ill {S : m_S} {c i : Nat} {I : m_I} {lg : Int64} {d5 d6 : Option Value} {rc rs : Nat} (hi : i + 6 ≤ S.1) (hn : S.1 ≤ 3072) (hc : c < 512) (hI : Iv c I) (hC : Cr I I) (hrc : 512 - c ≤ rc) (hrs : 6 * (512 - c) ≤ rs) (hT : lT S c i) : m_W S lB 867 [some (.ref m_scr), some (.ref 0), some (.ref 143), some (.ref 177), some (.int (nI i)), d5, d6] [] (hh I lg) rc rs := by
  by_cases hb3 : S.2 (i + 3) = 0
  · obtain ⟨z, y, lg1, I1, I2, hz, hw, hr, h0, hv, hI2, hC2⟩ := L_ill lg (o_ill (S.2 (i + 1)) (S.2 (i + 2)) (false) hI hC)
    refine ms_aload_n dL_law_867 rfl ?_
    refine ms_aload_n dL_law_868 rfl ?_
    refine ms_iload dL_law_869 rfl ?_
    refine ms_iconst (v := nI 1) dL_law_871 (by decide) ?_
    refine n_iadd dL_law_872 ?_
    refine ms_sld dL_law_873 rfl (by show i + 1 < S.1; omega) (by show S.1 < 2 ^ 31; omega) ?_
    refine ms_aload_n dL_law_874 rfl ?_
    refine ms_iload dL_law_875 rfl ?_
    refine ms_iconst (v := nI 2) dL_law_877 (by decide) ?_
    refine n_iadd dL_law_878 ?_
    refine ms_sld dL_law_879 rfl (by show i + 2 < S.1; omega) (by show S.1 < 2 ^ 31; omega) ?_
    refine ms_aload_n dL_law_880 rfl ?_
    refine ms_iload dL_law_881 rfl ?_
    refine ms_iconst (v := nI 3) dL_law_883 (by decide) ?_
    refine n_iadd dL_law_884 ?_
    refine ms_sld dL_law_885 rfl (by show i + 3 < S.1; omega) (by show S.1 < 2 ^ 31; omega) ?_
    refine ms_if_eq (tgt := 893) dL_law_886 (by decide) (fun _ => ?_) (fun z => absurd hb3 z)
    refine ms_iconst (v := nI 0) dL_law_893 (by decide) ?_
    refine ms_aload_n dL_law_894 rfl ?_
    refine qY5 dL_law_895 kL_140 (d := 10) (by decide) rfl rfl rfl rfl rfl (Nat.le_of_ble_eq_true rfl) (Nat.le_of_ble_eq_true rfl) (hw 10 (Nat.le_refl _)) (by omega) (by omega) rfl ?_
    refine ms_istore dL_law_898 (Nat.le_of_ble_eq_true rfl) ?_
    refine ms_aload_n dL_law_900 rfl ?_
    refine ms_aload_n dL_law_901 rfl ?_
    refine ms_iload dL_law_902 rfl ?_
    refine ms_iconst (v := nI 1) dL_law_904 (by decide) ?_
    refine n_iadd dL_law_905 ?_
    refine ms_sld dL_law_906 rfl (by show i + 1 < S.1; omega) (by show S.1 < 2 ^ 31; omega) ?_
    refine ms_aload_n dL_law_907 rfl ?_
    refine ms_iload dL_law_908 rfl ?_
    refine ms_iconst (v := nI 2) dL_law_910 (by decide) ?_
    refine n_iadd dL_law_911 ?_
    refine ms_sld dL_law_912 rfl (by show i + 2 < S.1; omega) (by show S.1 < 2 ^ 31; omega) ?_
    refine ms_aload_n dL_law_913 rfl ?_
    refine ms_iload dL_law_914 rfl ?_
    refine ms_iconst (v := nI 3) dL_law_916 (by decide) ?_
    refine n_iadd dL_law_917 ?_
    refine ms_sld dL_law_918 rfl (by show i + 3 < S.1; omega) (by show S.1 < 2 ^ 31; omega) ?_
    refine ms_if_eq (tgt := 926) dL_law_919 (by decide) (fun _ => ?_) (fun z => absurd hb3 z)
    refine ms_iconst (v := nI 0) dL_law_926 (by decide) ?_
    refine qRV3 dL_law_927 kL_143 (show 143 < 178 by decide) (show (sh0 143).1 = _ by decide) (d := 10) (by decide) rfl rfl rfl (Nat.le_of_ble_eq_true rfl) (Nat.le_of_ble_eq_true rfl) (hr 10 (by decide)) rfl ?_
    refine ms_istore dL_law_930 (Nat.le_of_ble_eq_true rfl) ?_
    refine ms_aload_n dL_law_932 rfl ?_
    refine qRV0 dL_law_933 kL_108 (show 143 < 178 by decide) (show (sh0 143).1 = _ by decide) (d := 10) (by decide) (Nat.le_of_ble_eq_true rfl) (Nat.le_of_ble_eq_true rfl) (kr_thrown) rfl ?_
    refine ms_iload dL_law_936 rfl ?_
    refine ms_icmp_eq (tgt := 943) dL_law_938 (by decide) (fun _ => ?_) (fun w => absurd (h0) w)
    refine ms_iload dL_law_943 rfl ?_
    refine ms_if_ne (tgt := 960) dL_law_945 (by decide) (fun _ => ?_) (fun z => ?_)
    · refine ms_goto (tgt := 1969) dL_law_960 (by decide) ?_
      exact hT _ _ _ _ _ _ hI2 hC2 (by omega) (by omega)
    · have hy := hv (nI_z0 hz z)
      refine ms_aload_n dL_law_948 rfl ?_
      refine ms_iconst (v := nI 0) dL_law_949 (by decide) ?_
      refine q_lald dL_law_950 ?_
      refine ms_iload dL_law_951 rfl ?_
      refine ms_i2l dL_law_953 ?_
      refine ms_lcmp dL_law_954 ?_
      rw [show lg1 = y.toInt64 from hy, lg_self]
      refine ms_if_eq (tgt := 960) dL_law_955 (by decide) (fun _ => ?_) (fun w => absurd rfl w)
      refine ms_goto (tgt := 1969) dL_law_960 (by decide) ?_
      exact hT _ _ _ _ _ _ hI2 hC2 (by omega) (by omega)
  · obtain ⟨z, y, lg1, I1, I2, hz, hw, hr, h0, hv, hI2, hC2⟩ := L_ill lg (o_ill (S.2 (i + 1)) (S.2 (i + 2)) (true) hI hC)
    refine ms_aload_n dL_law_867 rfl ?_
    refine ms_aload_n dL_law_868 rfl ?_
    refine ms_iload dL_law_869 rfl ?_
    refine ms_iconst (v := nI 1) dL_law_871 (by decide) ?_
    refine n_iadd dL_law_872 ?_
    refine ms_sld dL_law_873 rfl (by show i + 1 < S.1; omega) (by show S.1 < 2 ^ 31; omega) ?_
    refine ms_aload_n dL_law_874 rfl ?_
    refine ms_iload dL_law_875 rfl ?_
    refine ms_iconst (v := nI 2) dL_law_877 (by decide) ?_
    refine n_iadd dL_law_878 ?_
    refine ms_sld dL_law_879 rfl (by show i + 2 < S.1; omega) (by show S.1 < 2 ^ 31; omega) ?_
    refine ms_aload_n dL_law_880 rfl ?_
    refine ms_iload dL_law_881 rfl ?_
    refine ms_iconst (v := nI 3) dL_law_883 (by decide) ?_
    refine n_iadd dL_law_884 ?_
    refine ms_sld dL_law_885 rfl (by show i + 3 < S.1; omega) (by show S.1 < 2 ^ 31; omega) ?_
    refine ms_if_eq (tgt := 893) dL_law_886 (by decide) (fun z => absurd z hb3) (fun _ => ?_)
    refine ms_iconst (v := nI 1) dL_law_889 (by decide) ?_
    refine ms_goto (tgt := 894) dL_law_890 (by decide) ?_
    refine ms_aload_n dL_law_894 rfl ?_
    refine qY5 dL_law_895 kL_140 (d := 10) (by decide) rfl rfl rfl rfl rfl (Nat.le_of_ble_eq_true rfl) (Nat.le_of_ble_eq_true rfl) (hw 10 (Nat.le_refl _)) (by omega) (by omega) rfl ?_
    refine ms_istore dL_law_898 (Nat.le_of_ble_eq_true rfl) ?_
    refine ms_aload_n dL_law_900 rfl ?_
    refine ms_aload_n dL_law_901 rfl ?_
    refine ms_iload dL_law_902 rfl ?_
    refine ms_iconst (v := nI 1) dL_law_904 (by decide) ?_
    refine n_iadd dL_law_905 ?_
    refine ms_sld dL_law_906 rfl (by show i + 1 < S.1; omega) (by show S.1 < 2 ^ 31; omega) ?_
    refine ms_aload_n dL_law_907 rfl ?_
    refine ms_iload dL_law_908 rfl ?_
    refine ms_iconst (v := nI 2) dL_law_910 (by decide) ?_
    refine n_iadd dL_law_911 ?_
    refine ms_sld dL_law_912 rfl (by show i + 2 < S.1; omega) (by show S.1 < 2 ^ 31; omega) ?_
    refine ms_aload_n dL_law_913 rfl ?_
    refine ms_iload dL_law_914 rfl ?_
    refine ms_iconst (v := nI 3) dL_law_916 (by decide) ?_
    refine n_iadd dL_law_917 ?_
    refine ms_sld dL_law_918 rfl (by show i + 3 < S.1; omega) (by show S.1 < 2 ^ 31; omega) ?_
    refine ms_if_eq (tgt := 926) dL_law_919 (by decide) (fun z => absurd z hb3) (fun _ => ?_)
    refine ms_iconst (v := nI 1) dL_law_922 (by decide) ?_
    refine ms_goto (tgt := 927) dL_law_923 (by decide) ?_
    refine qRV3 dL_law_927 kL_143 (show 143 < 178 by decide) (show (sh0 143).1 = _ by decide) (d := 10) (by decide) rfl rfl rfl (Nat.le_of_ble_eq_true rfl) (Nat.le_of_ble_eq_true rfl) (hr 10 (by decide)) rfl ?_
    refine ms_istore dL_law_930 (Nat.le_of_ble_eq_true rfl) ?_
    refine ms_aload_n dL_law_932 rfl ?_
    refine qRV0 dL_law_933 kL_108 (show 143 < 178 by decide) (show (sh0 143).1 = _ by decide) (d := 10) (by decide) (Nat.le_of_ble_eq_true rfl) (Nat.le_of_ble_eq_true rfl) (kr_thrown) rfl ?_
    refine ms_iload dL_law_936 rfl ?_
    refine ms_icmp_eq (tgt := 943) dL_law_938 (by decide) (fun _ => ?_) (fun w => absurd (h0) w)
    refine ms_iload dL_law_943 rfl ?_
    refine ms_if_ne (tgt := 960) dL_law_945 (by decide) (fun _ => ?_) (fun z => ?_)
    · refine ms_goto (tgt := 1969) dL_law_960 (by decide) ?_
      exact hT _ _ _ _ _ _ hI2 hC2 (by omega) (by omega)
    · have hy := hv (nI_z0 hz z)
      refine ms_aload_n dL_law_948 rfl ?_
      refine ms_iconst (v := nI 0) dL_law_949 (by decide) ?_
      refine q_lald dL_law_950 ?_
      refine ms_iload dL_law_951 rfl ?_
      refine ms_i2l dL_law_953 ?_
      refine ms_lcmp dL_law_954 ?_
      rw [show lg1 = y.toInt64 from hy, lg_self]
      refine ms_if_eq (tgt := 960) dL_law_955 (by decide) (fun _ => ?_) (fun w => absurd rfl w)
      refine ms_goto (tgt := 1969) dL_law_960 (by decide) ?_
      exact hT _ _ _ _ _ _ hI2 hC2 (by omega) (by omega)
theorem l_place {S : m_S} {c i : Nat} {I : m_I} {lg : Int64} {d5 d6 : Option Value} {rc rs : Nat} (hi : i + 6 ≤ S.1) (hn : S.1 ≤ 3072) (hc : c < 512) (hI : Iv c I) (hC : Cr I I) (hrc : 512 - c ≤ rc) (hrs : 6 * (512 - c) ≤ rs) (hT : lT S c i) : m_W S lB 963 [some (.ref m_scr), some (.ref 0), some (.ref 143), some (.ref 177), some (.int (nI i)), d5, d6] [] (hh I lg) rc rs := by
  obtain ⟨z, y, lg1, I1, I2, hz, hw, hr, h0, hv, hI2, hC2⟩ := L_place lg (o_place (S.2 (i + 1)) hI hC)
  refine ms_aload_n dL_law_963 rfl ?_
  refine ms_aload_n dL_law_964 rfl ?_
  refine ms_iload dL_law_965 rfl ?_
  refine ms_iconst (v := nI 1) dL_law_967 (by decide) ?_
  refine n_iadd dL_law_968 ?_
  refine ms_sld dL_law_969 rfl (by show i + 1 < S.1; omega) (by show S.1 < 2 ^ 31; omega) ?_
  refine ms_aload_n dL_law_970 rfl ?_
  refine qY3 dL_law_971 kL_144 (d := 10) (by decide) rfl rfl rfl (Nat.le_of_ble_eq_true rfl) (Nat.le_of_ble_eq_true rfl) (hw 10 (Nat.le_refl _)) (by omega) (by omega) rfl ?_
  refine ms_istore dL_law_974 (Nat.le_of_ble_eq_true rfl) ?_
  refine ms_aload_n dL_law_976 rfl ?_
  refine ms_aload_n dL_law_977 rfl ?_
  refine ms_iload dL_law_978 rfl ?_
  refine ms_iconst (v := nI 1) dL_law_980 (by decide) ?_
  refine n_iadd dL_law_981 ?_
  refine ms_sld dL_law_982 rfl (by show i + 1 < S.1; omega) (by show S.1 < 2 ^ 31; omega) ?_
  refine qRV1 dL_law_983 kL_146 (show 143 < 178 by decide) (show (sh0 143).1 = _ by decide) (d := 10) (by decide) rfl (Nat.le_of_ble_eq_true rfl) (Nat.le_of_ble_eq_true rfl) (hr 10 (by decide)) rfl ?_
  refine ms_istore dL_law_986 (Nat.le_of_ble_eq_true rfl) ?_
  refine ms_aload_n dL_law_988 rfl ?_
  refine qRV0 dL_law_989 kL_108 (show 143 < 178 by decide) (show (sh0 143).1 = _ by decide) (d := 10) (by decide) (Nat.le_of_ble_eq_true rfl) (Nat.le_of_ble_eq_true rfl) (kr_thrown) rfl ?_
  refine ms_iload dL_law_992 rfl ?_
  refine ms_icmp_eq (tgt := 999) dL_law_994 (by decide) (fun _ => ?_) (fun w => absurd (h0) w)
  refine ms_iload dL_law_999 rfl ?_
  refine ms_if_ne (tgt := 1016) dL_law_1001 (by decide) (fun _ => ?_) (fun z => ?_)
  · refine ms_goto (tgt := 1969) dL_law_1016 (by decide) ?_
    exact hT _ _ _ _ _ _ hI2 hC2 (by omega) (by omega)
  · have hy := hv (nI_z0 hz z)
    refine ms_aload_n dL_law_1004 rfl ?_
    refine ms_iconst (v := nI 0) dL_law_1005 (by decide) ?_
    refine q_lald dL_law_1006 ?_
    refine ms_iload dL_law_1007 rfl ?_
    refine ms_i2l dL_law_1009 ?_
    refine ms_lcmp dL_law_1010 ?_
    rw [show lg1 = y.toInt64 from hy, lg_self]
    refine ms_if_eq (tgt := 1016) dL_law_1011 (by decide) (fun _ => ?_) (fun w => absurd rfl w)
    refine ms_goto (tgt := 1969) dL_law_1016 (by decide) ?_
    exact hT _ _ _ _ _ _ hI2 hC2 (by omega) (by omega)
theorem l_permit {S : m_S} {c i : Nat} {I : m_I} {lg : Int64} {d5 d6 : Option Value} {rc rs : Nat} (hi : i + 6 ≤ S.1) (hn : S.1 ≤ 3072) (hc : c < 512) (hI : Iv c I) (hC : Cr I I) (hrc : 512 - c ≤ rc) (hrs : 6 * (512 - c) ≤ rs) (hT : lT S c i) : m_W S lB 1019 [some (.ref m_scr), some (.ref 0), some (.ref 143), some (.ref 177), some (.int (nI i)), d5, d6] [] (hh I lg) rc rs := by
  by_cases hb3 : S.2 (i + 3) = 0
  · obtain ⟨z, y, lg1, I1, I2, hz, hw, hr, h0, hv, hI2, hC2⟩ := L_permit lg (o_permit (S.2 (i + 1)) (S.2 (i + 2)) (false) hI hC)
    refine ms_aload_n dL_law_1019 rfl ?_
    refine ms_aload_n dL_law_1020 rfl ?_
    refine ms_iload dL_law_1021 rfl ?_
    refine ms_iconst (v := nI 1) dL_law_1023 (by decide) ?_
    refine n_iadd dL_law_1024 ?_
    refine ms_sld dL_law_1025 rfl (by show i + 1 < S.1; omega) (by show S.1 < 2 ^ 31; omega) ?_
    refine ms_aload_n dL_law_1026 rfl ?_
    refine ms_iload dL_law_1027 rfl ?_
    refine ms_iconst (v := nI 2) dL_law_1029 (by decide) ?_
    refine n_iadd dL_law_1030 ?_
    refine ms_sld dL_law_1031 rfl (by show i + 2 < S.1; omega) (by show S.1 < 2 ^ 31; omega) ?_
    refine ms_aload_n dL_law_1032 rfl ?_
    refine ms_iload dL_law_1033 rfl ?_
    refine ms_iconst (v := nI 3) dL_law_1035 (by decide) ?_
    refine n_iadd dL_law_1036 ?_
    refine ms_sld dL_law_1037 rfl (by show i + 3 < S.1; omega) (by show S.1 < 2 ^ 31; omega) ?_
    refine ms_if_eq (tgt := 1045) dL_law_1038 (by decide) (fun _ => ?_) (fun z => absurd hb3 z)
    refine ms_iconst (v := nI 0) dL_law_1045 (by decide) ?_
    refine ms_aload_n dL_law_1046 rfl ?_
    refine qY5 dL_law_1047 kL_147 (d := 10) (by decide) rfl rfl rfl rfl rfl (Nat.le_of_ble_eq_true rfl) (Nat.le_of_ble_eq_true rfl) (hw 10 (Nat.le_refl _)) (by omega) (by omega) rfl ?_
    refine ms_istore dL_law_1050 (Nat.le_of_ble_eq_true rfl) ?_
    refine ms_aload_n dL_law_1052 rfl ?_
    refine ms_aload_n dL_law_1053 rfl ?_
    refine ms_iload dL_law_1054 rfl ?_
    refine ms_iconst (v := nI 1) dL_law_1056 (by decide) ?_
    refine n_iadd dL_law_1057 ?_
    refine ms_sld dL_law_1058 rfl (by show i + 1 < S.1; omega) (by show S.1 < 2 ^ 31; omega) ?_
    refine ms_aload_n dL_law_1059 rfl ?_
    refine ms_iload dL_law_1060 rfl ?_
    refine ms_iconst (v := nI 2) dL_law_1062 (by decide) ?_
    refine n_iadd dL_law_1063 ?_
    refine ms_sld dL_law_1064 rfl (by show i + 2 < S.1; omega) (by show S.1 < 2 ^ 31; omega) ?_
    refine ms_aload_n dL_law_1065 rfl ?_
    refine ms_iload dL_law_1066 rfl ?_
    refine ms_iconst (v := nI 3) dL_law_1068 (by decide) ?_
    refine n_iadd dL_law_1069 ?_
    refine ms_sld dL_law_1070 rfl (by show i + 3 < S.1; omega) (by show S.1 < 2 ^ 31; omega) ?_
    refine ms_if_eq (tgt := 1078) dL_law_1071 (by decide) (fun _ => ?_) (fun z => absurd hb3 z)
    refine ms_iconst (v := nI 0) dL_law_1078 (by decide) ?_
    refine qRV3 dL_law_1079 kL_149 (show 143 < 178 by decide) (show (sh0 143).1 = _ by decide) (d := 10) (by decide) rfl rfl rfl (Nat.le_of_ble_eq_true rfl) (Nat.le_of_ble_eq_true rfl) (hr 10 (by decide)) rfl ?_
    refine ms_istore dL_law_1082 (Nat.le_of_ble_eq_true rfl) ?_
    refine ms_aload_n dL_law_1084 rfl ?_
    refine qRV0 dL_law_1085 kL_108 (show 143 < 178 by decide) (show (sh0 143).1 = _ by decide) (d := 10) (by decide) (Nat.le_of_ble_eq_true rfl) (Nat.le_of_ble_eq_true rfl) (kr_thrown) rfl ?_
    refine ms_iload dL_law_1088 rfl ?_
    refine ms_icmp_eq (tgt := 1095) dL_law_1090 (by decide) (fun _ => ?_) (fun w => absurd (h0) w)
    refine ms_iload dL_law_1095 rfl ?_
    refine ms_if_ne (tgt := 1112) dL_law_1097 (by decide) (fun _ => ?_) (fun z => ?_)
    · refine ms_goto (tgt := 1969) dL_law_1112 (by decide) ?_
      exact hT _ _ _ _ _ _ hI2 hC2 (by omega) (by omega)
    · have hy := hv (nI_z0 hz z)
      refine ms_aload_n dL_law_1100 rfl ?_
      refine ms_iconst (v := nI 0) dL_law_1101 (by decide) ?_
      refine q_lald dL_law_1102 ?_
      refine ms_iload dL_law_1103 rfl ?_
      refine ms_i2l dL_law_1105 ?_
      refine ms_lcmp dL_law_1106 ?_
      rw [show lg1 = y.toInt64 from hy, lg_self]
      refine ms_if_eq (tgt := 1112) dL_law_1107 (by decide) (fun _ => ?_) (fun w => absurd rfl w)
      refine ms_goto (tgt := 1969) dL_law_1112 (by decide) ?_
      exact hT _ _ _ _ _ _ hI2 hC2 (by omega) (by omega)
  · obtain ⟨z, y, lg1, I1, I2, hz, hw, hr, h0, hv, hI2, hC2⟩ := L_permit lg (o_permit (S.2 (i + 1)) (S.2 (i + 2)) (true) hI hC)
    refine ms_aload_n dL_law_1019 rfl ?_
    refine ms_aload_n dL_law_1020 rfl ?_
    refine ms_iload dL_law_1021 rfl ?_
    refine ms_iconst (v := nI 1) dL_law_1023 (by decide) ?_
    refine n_iadd dL_law_1024 ?_
    refine ms_sld dL_law_1025 rfl (by show i + 1 < S.1; omega) (by show S.1 < 2 ^ 31; omega) ?_
    refine ms_aload_n dL_law_1026 rfl ?_
    refine ms_iload dL_law_1027 rfl ?_
    refine ms_iconst (v := nI 2) dL_law_1029 (by decide) ?_
    refine n_iadd dL_law_1030 ?_
    refine ms_sld dL_law_1031 rfl (by show i + 2 < S.1; omega) (by show S.1 < 2 ^ 31; omega) ?_
    refine ms_aload_n dL_law_1032 rfl ?_
    refine ms_iload dL_law_1033 rfl ?_
    refine ms_iconst (v := nI 3) dL_law_1035 (by decide) ?_
    refine n_iadd dL_law_1036 ?_
    refine ms_sld dL_law_1037 rfl (by show i + 3 < S.1; omega) (by show S.1 < 2 ^ 31; omega) ?_
    refine ms_if_eq (tgt := 1045) dL_law_1038 (by decide) (fun z => absurd z hb3) (fun _ => ?_)
    refine ms_iconst (v := nI 1) dL_law_1041 (by decide) ?_
    refine ms_goto (tgt := 1046) dL_law_1042 (by decide) ?_
    refine ms_aload_n dL_law_1046 rfl ?_
    refine qY5 dL_law_1047 kL_147 (d := 10) (by decide) rfl rfl rfl rfl rfl (Nat.le_of_ble_eq_true rfl) (Nat.le_of_ble_eq_true rfl) (hw 10 (Nat.le_refl _)) (by omega) (by omega) rfl ?_
    refine ms_istore dL_law_1050 (Nat.le_of_ble_eq_true rfl) ?_
    refine ms_aload_n dL_law_1052 rfl ?_
    refine ms_aload_n dL_law_1053 rfl ?_
    refine ms_iload dL_law_1054 rfl ?_
    refine ms_iconst (v := nI 1) dL_law_1056 (by decide) ?_
    refine n_iadd dL_law_1057 ?_
    refine ms_sld dL_law_1058 rfl (by show i + 1 < S.1; omega) (by show S.1 < 2 ^ 31; omega) ?_
    refine ms_aload_n dL_law_1059 rfl ?_
    refine ms_iload dL_law_1060 rfl ?_
    refine ms_iconst (v := nI 2) dL_law_1062 (by decide) ?_
    refine n_iadd dL_law_1063 ?_
    refine ms_sld dL_law_1064 rfl (by show i + 2 < S.1; omega) (by show S.1 < 2 ^ 31; omega) ?_
    refine ms_aload_n dL_law_1065 rfl ?_
    refine ms_iload dL_law_1066 rfl ?_
    refine ms_iconst (v := nI 3) dL_law_1068 (by decide) ?_
    refine n_iadd dL_law_1069 ?_
    refine ms_sld dL_law_1070 rfl (by show i + 3 < S.1; omega) (by show S.1 < 2 ^ 31; omega) ?_
    refine ms_if_eq (tgt := 1078) dL_law_1071 (by decide) (fun z => absurd z hb3) (fun _ => ?_)
    refine ms_iconst (v := nI 1) dL_law_1074 (by decide) ?_
    refine ms_goto (tgt := 1079) dL_law_1075 (by decide) ?_
    refine qRV3 dL_law_1079 kL_149 (show 143 < 178 by decide) (show (sh0 143).1 = _ by decide) (d := 10) (by decide) rfl rfl rfl (Nat.le_of_ble_eq_true rfl) (Nat.le_of_ble_eq_true rfl) (hr 10 (by decide)) rfl ?_
    refine ms_istore dL_law_1082 (Nat.le_of_ble_eq_true rfl) ?_
    refine ms_aload_n dL_law_1084 rfl ?_
    refine qRV0 dL_law_1085 kL_108 (show 143 < 178 by decide) (show (sh0 143).1 = _ by decide) (d := 10) (by decide) (Nat.le_of_ble_eq_true rfl) (Nat.le_of_ble_eq_true rfl) (kr_thrown) rfl ?_
    refine ms_iload dL_law_1088 rfl ?_
    refine ms_icmp_eq (tgt := 1095) dL_law_1090 (by decide) (fun _ => ?_) (fun w => absurd (h0) w)
    refine ms_iload dL_law_1095 rfl ?_
    refine ms_if_ne (tgt := 1112) dL_law_1097 (by decide) (fun _ => ?_) (fun z => ?_)
    · refine ms_goto (tgt := 1969) dL_law_1112 (by decide) ?_
      exact hT _ _ _ _ _ _ hI2 hC2 (by omega) (by omega)
    · have hy := hv (nI_z0 hz z)
      refine ms_aload_n dL_law_1100 rfl ?_
      refine ms_iconst (v := nI 0) dL_law_1101 (by decide) ?_
      refine q_lald dL_law_1102 ?_
      refine ms_iload dL_law_1103 rfl ?_
      refine ms_i2l dL_law_1105 ?_
      refine ms_lcmp dL_law_1106 ?_
      rw [show lg1 = y.toInt64 from hy, lg_self]
      refine ms_if_eq (tgt := 1112) dL_law_1107 (by decide) (fun _ => ?_) (fun w => absurd rfl w)
      refine ms_goto (tgt := 1969) dL_law_1112 (by decide) ?_
      exact hT _ _ _ _ _ _ hI2 hC2 (by omega) (by omega)
theorem l_move {S : m_S} {c i : Nat} {I : m_I} {lg : Int64} {d5 d6 : Option Value} {rc rs : Nat} (hi : i + 6 ≤ S.1) (hn : S.1 ≤ 3072) (hc : c < 512) (hI : Iv c I) (hC : Cr I I) (hrc : 512 - c ≤ rc) (hrs : 6 * (512 - c) ≤ rs) (hT : lT S c i) : m_W S lB 1115 [some (.ref m_scr), some (.ref 0), some (.ref 143), some (.ref 177), some (.int (nI i)), d5, d6] [] (hh I lg) rc rs := by
  obtain ⟨z, y, lg1, I1, I2, hz, hw, hr, h0, hv, hI2, hC2⟩ := L_move lg (o_move (S.2 (i + 1)) (S.2 (i + 2)) (S.2 (i + 3)) hI hC)
  refine ms_aload_n dL_law_1115 rfl ?_
  refine ms_aload_n dL_law_1116 rfl ?_
  refine ms_iload dL_law_1117 rfl ?_
  refine ms_iconst (v := nI 1) dL_law_1119 (by decide) ?_
  refine n_iadd dL_law_1120 ?_
  refine ms_sld dL_law_1121 rfl (by show i + 1 < S.1; omega) (by show S.1 < 2 ^ 31; omega) ?_
  refine ms_aload_n dL_law_1122 rfl ?_
  refine ms_iload dL_law_1123 rfl ?_
  refine ms_iconst (v := nI 2) dL_law_1125 (by decide) ?_
  refine n_iadd dL_law_1126 ?_
  refine ms_sld dL_law_1127 rfl (by show i + 2 < S.1; omega) (by show S.1 < 2 ^ 31; omega) ?_
  refine ms_aload_n dL_law_1128 rfl ?_
  refine ms_iload dL_law_1129 rfl ?_
  refine ms_iconst (v := nI 3) dL_law_1131 (by decide) ?_
  refine n_iadd dL_law_1132 ?_
  refine ms_sld dL_law_1133 rfl (by show i + 3 < S.1; omega) (by show S.1 < 2 ^ 31; omega) ?_
  refine ms_aload_n dL_law_1134 rfl ?_
  refine qY5 dL_law_1135 kL_150 (d := 10) (by decide) rfl rfl rfl rfl rfl (Nat.le_of_ble_eq_true rfl) (Nat.le_of_ble_eq_true rfl) (hw 10 (Nat.le_refl _)) (by omega) (by omega) rfl ?_
  refine ms_istore dL_law_1138 (Nat.le_of_ble_eq_true rfl) ?_
  refine ms_aload_n dL_law_1140 rfl ?_
  refine ms_aload_n dL_law_1141 rfl ?_
  refine ms_iload dL_law_1142 rfl ?_
  refine ms_iconst (v := nI 1) dL_law_1144 (by decide) ?_
  refine n_iadd dL_law_1145 ?_
  refine ms_sld dL_law_1146 rfl (by show i + 1 < S.1; omega) (by show S.1 < 2 ^ 31; omega) ?_
  refine ms_aload_n dL_law_1147 rfl ?_
  refine ms_iload dL_law_1148 rfl ?_
  refine ms_iconst (v := nI 2) dL_law_1150 (by decide) ?_
  refine n_iadd dL_law_1151 ?_
  refine ms_sld dL_law_1152 rfl (by show i + 2 < S.1; omega) (by show S.1 < 2 ^ 31; omega) ?_
  refine ms_aload_n dL_law_1153 rfl ?_
  refine ms_iload dL_law_1154 rfl ?_
  refine ms_iconst (v := nI 3) dL_law_1156 (by decide) ?_
  refine n_iadd dL_law_1157 ?_
  refine ms_sld dL_law_1158 rfl (by show i + 3 < S.1; omega) (by show S.1 < 2 ^ 31; omega) ?_
  refine qRV3 dL_law_1159 kL_153 (show 143 < 178 by decide) (show (sh0 143).1 = _ by decide) (d := 10) (by decide) rfl rfl rfl (Nat.le_of_ble_eq_true rfl) (Nat.le_of_ble_eq_true rfl) (hr 10 (by decide)) rfl ?_
  refine ms_istore dL_law_1162 (Nat.le_of_ble_eq_true rfl) ?_
  refine ms_aload_n dL_law_1164 rfl ?_
  refine qRV0 dL_law_1165 kL_108 (show 143 < 178 by decide) (show (sh0 143).1 = _ by decide) (d := 10) (by decide) (Nat.le_of_ble_eq_true rfl) (Nat.le_of_ble_eq_true rfl) (kr_thrown) rfl ?_
  refine ms_iload dL_law_1168 rfl ?_
  refine ms_icmp_eq (tgt := 1175) dL_law_1170 (by decide) (fun _ => ?_) (fun w => absurd (h0) w)
  refine ms_iload dL_law_1175 rfl ?_
  refine ms_if_ne (tgt := 1192) dL_law_1177 (by decide) (fun _ => ?_) (fun z => ?_)
  · refine ms_goto (tgt := 1969) dL_law_1192 (by decide) ?_
    exact hT _ _ _ _ _ _ hI2 hC2 (by omega) (by omega)
  · have hy := hv (nI_z0 hz z)
    refine ms_aload_n dL_law_1180 rfl ?_
    refine ms_iconst (v := nI 0) dL_law_1181 (by decide) ?_
    refine q_lald dL_law_1182 ?_
    refine ms_iload dL_law_1183 rfl ?_
    refine ms_i2l dL_law_1185 ?_
    refine ms_lcmp dL_law_1186 ?_
    rw [show lg1 = y.toInt64 from hy, lg_self]
    refine ms_if_eq (tgt := 1192) dL_law_1187 (by decide) (fun _ => ?_) (fun w => absurd rfl w)
    refine ms_goto (tgt := 1969) dL_law_1192 (by decide) ?_
    exact hT _ _ _ _ _ _ hI2 hC2 (by omega) (by omega)
theorem l_light {S : m_S} {c i : Nat} {I : m_I} {lg : Int64} {d5 d6 : Option Value} {rc rs : Nat} (hi : i + 6 ≤ S.1) (hn : S.1 ≤ 3072) (hc : c < 512) (hI : Iv c I) (hC : Cr I I) (hrc : 512 - c ≤ rc) (hrs : 6 * (512 - c) ≤ rs) (hT : lT S c i) : m_W S lB 1195 [some (.ref m_scr), some (.ref 0), some (.ref 143), some (.ref 177), some (.int (nI i)), d5, d6] [] (hh I lg) rc rs := by
  obtain ⟨z, I1, I2, hz, hw, hr, h0, hI2, hC2⟩ := L_light lg (o_light (S.2 (i + 1)) (S.2 (i + 2)) (S.2 (i + 3)) (S.2 (i + 4)) hI hC)
  refine ms_aload_n dL_law_1195 rfl ?_
  refine ms_aload_n dL_law_1196 rfl ?_
  refine ms_iload dL_law_1197 rfl ?_
  refine ms_iconst (v := nI 1) dL_law_1199 (by decide) ?_
  refine n_iadd dL_law_1200 ?_
  refine ms_sld dL_law_1201 rfl (by show i + 1 < S.1; omega) (by show S.1 < 2 ^ 31; omega) ?_
  refine ms_aload_n dL_law_1202 rfl ?_
  refine ms_iload dL_law_1203 rfl ?_
  refine ms_iconst (v := nI 2) dL_law_1205 (by decide) ?_
  refine n_iadd dL_law_1206 ?_
  refine ms_sld dL_law_1207 rfl (by show i + 2 < S.1; omega) (by show S.1 < 2 ^ 31; omega) ?_
  refine ms_aload_n dL_law_1208 rfl ?_
  refine ms_iload dL_law_1209 rfl ?_
  refine ms_iconst (v := nI 3) dL_law_1211 (by decide) ?_
  refine n_iadd dL_law_1212 ?_
  refine ms_sld dL_law_1213 rfl (by show i + 3 < S.1; omega) (by show S.1 < 2 ^ 31; omega) ?_
  refine ms_aload_n dL_law_1214 rfl ?_
  refine ms_iload dL_law_1215 rfl ?_
  refine ms_iconst (v := nI 4) dL_law_1217 (by decide) ?_
  refine n_iadd dL_law_1218 ?_
  refine ms_sld dL_law_1219 rfl (by show i + 4 < S.1; omega) (by show S.1 < 2 ^ 31; omega) ?_
  refine qY5 dL_law_1220 kL_154 (d := 10) (by decide) rfl rfl rfl rfl rfl (Nat.le_of_ble_eq_true rfl) (Nat.le_of_ble_eq_true rfl) (hw 10 (Nat.le_refl _)) (by omega) (by omega) rfl ?_
  refine ms_istore dL_law_1223 (Nat.le_of_ble_eq_true rfl) ?_
  refine ms_aload_n dL_law_1225 rfl ?_
  refine ms_aload_n dL_law_1226 rfl ?_
  refine ms_iload dL_law_1227 rfl ?_
  refine ms_iconst (v := nI 1) dL_law_1229 (by decide) ?_
  refine n_iadd dL_law_1230 ?_
  refine ms_sld dL_law_1231 rfl (by show i + 1 < S.1; omega) (by show S.1 < 2 ^ 31; omega) ?_
  refine ms_aload_n dL_law_1232 rfl ?_
  refine ms_iload dL_law_1233 rfl ?_
  refine ms_iconst (v := nI 2) dL_law_1235 (by decide) ?_
  refine n_iadd dL_law_1236 ?_
  refine ms_sld dL_law_1237 rfl (by show i + 2 < S.1; omega) (by show S.1 < 2 ^ 31; omega) ?_
  refine ms_aload_n dL_law_1238 rfl ?_
  refine ms_iload dL_law_1239 rfl ?_
  refine ms_iconst (v := nI 3) dL_law_1241 (by decide) ?_
  refine n_iadd dL_law_1242 ?_
  refine ms_sld dL_law_1243 rfl (by show i + 3 < S.1; omega) (by show S.1 < 2 ^ 31; omega) ?_
  refine ms_aload_n dL_law_1244 rfl ?_
  refine ms_iload dL_law_1245 rfl ?_
  refine ms_iconst (v := nI 4) dL_law_1247 (by decide) ?_
  refine n_iadd dL_law_1248 ?_
  refine ms_sld dL_law_1249 rfl (by show i + 4 < S.1; omega) (by show S.1 < 2 ^ 31; omega) ?_
  refine qRV4 dL_law_1250 kL_157 (show 143 < 178 by decide) (show (sh0 143).1 = _ by decide) (d := 10) (by decide) rfl rfl rfl rfl (Nat.le_of_ble_eq_true rfl) (Nat.le_of_ble_eq_true rfl) (hr 10 (by decide)) rfl ?_
  refine ms_aload_n dL_law_1253 rfl ?_
  refine qRV0 dL_law_1254 kL_108 (show 143 < 178 by decide) (show (sh0 143).1 = _ by decide) (d := 10) (by decide) (Nat.le_of_ble_eq_true rfl) (Nat.le_of_ble_eq_true rfl) (kr_thrown) rfl ?_
  refine ms_iload dL_law_1257 rfl ?_
  refine ms_icmp_eq (tgt := 1264) dL_law_1259 (by decide) (fun _ => ?_) (fun w => absurd (h0) w)
  refine ms_goto (tgt := 1969) dL_law_1264 (by decide) ?_
  exact hT _ _ _ _ _ _ hI2 hC2 (by omega) (by omega)
theorem l_put {S : m_S} {c i : Nat} {I : m_I} {lg : Int64} {d5 d6 : Option Value} {rc rs : Nat} (hi : i + 6 ≤ S.1) (hn : S.1 ≤ 3072) (hc : c < 512) (hI : Iv c I) (hC : Cr I I) (hrc : 512 - c ≤ rc) (hrs : 6 * (512 - c) ≤ rs) (hT : lT S c i) : m_W S lB 1267 [some (.ref m_scr), some (.ref 0), some (.ref 143), some (.ref 177), some (.int (nI i)), d5, d6] [] (hh I lg) rc rs := by
  obtain ⟨z, y, lg1, I1, I2, hz, hw, hr, h0, hv, hI2, hC2⟩ := L_put lg (o_put (S.2 (i + 1)) (S.2 (i + 2)) (S.2 (i + 3)) hc hI hC)
  refine ms_aload_n dL_law_1267 rfl ?_
  refine ms_aload_n dL_law_1268 rfl ?_
  refine ms_iload dL_law_1269 rfl ?_
  refine ms_iconst (v := nI 1) dL_law_1271 (by decide) ?_
  refine n_iadd dL_law_1272 ?_
  refine ms_sld dL_law_1273 rfl (by show i + 1 < S.1; omega) (by show S.1 < 2 ^ 31; omega) ?_
  refine ms_aload_n dL_law_1274 rfl ?_
  refine ms_iload dL_law_1275 rfl ?_
  refine ms_iconst (v := nI 2) dL_law_1277 (by decide) ?_
  refine n_iadd dL_law_1278 ?_
  refine ms_sld dL_law_1279 rfl (by show i + 2 < S.1; omega) (by show S.1 < 2 ^ 31; omega) ?_
  refine ms_aload_n dL_law_1280 rfl ?_
  refine ms_iload dL_law_1281 rfl ?_
  refine ms_iconst (v := nI 3) dL_law_1283 (by decide) ?_
  refine n_iadd dL_law_1284 ?_
  refine ms_sld dL_law_1285 rfl (by show i + 3 < S.1; omega) (by show S.1 < 2 ^ 31; omega) ?_
  refine ms_aload_n dL_law_1286 rfl ?_
  refine qY5 dL_law_1287 kL_158 (d := 10) (by decide) rfl rfl rfl rfl rfl (Nat.le_of_ble_eq_true rfl) (Nat.le_of_ble_eq_true rfl) (hw 10 (Nat.le_refl _)) (by omega) (by omega) rfl ?_
  refine ms_istore dL_law_1290 (Nat.le_of_ble_eq_true rfl) ?_
  refine ms_aload_n dL_law_1292 rfl ?_
  refine ms_aload_n dL_law_1293 rfl ?_
  refine ms_iload dL_law_1294 rfl ?_
  refine ms_iconst (v := nI 1) dL_law_1296 (by decide) ?_
  refine n_iadd dL_law_1297 ?_
  refine ms_sld dL_law_1298 rfl (by show i + 1 < S.1; omega) (by show S.1 < 2 ^ 31; omega) ?_
  refine ms_aload_n dL_law_1299 rfl ?_
  refine ms_iload dL_law_1300 rfl ?_
  refine ms_iconst (v := nI 2) dL_law_1302 (by decide) ?_
  refine n_iadd dL_law_1303 ?_
  refine ms_sld dL_law_1304 rfl (by show i + 2 < S.1; omega) (by show S.1 < 2 ^ 31; omega) ?_
  refine ms_aload_n dL_law_1305 rfl ?_
  refine ms_iload dL_law_1306 rfl ?_
  refine ms_iconst (v := nI 3) dL_law_1308 (by decide) ?_
  refine n_iadd dL_law_1309 ?_
  refine ms_sld dL_law_1310 rfl (by show i + 3 < S.1; omega) (by show S.1 < 2 ^ 31; omega) ?_
  refine qRV3 dL_law_1311 kL_160 (show 143 < 178 by decide) (show (sh0 143).1 = _ by decide) (d := 10) (by decide) rfl rfl rfl (Nat.le_of_ble_eq_true rfl) (Nat.le_of_ble_eq_true rfl) (hr 10 (by decide)) rfl ?_
  refine ms_istore dL_law_1314 (Nat.le_of_ble_eq_true rfl) ?_
  refine ms_aload_n dL_law_1316 rfl ?_
  refine qRV0 dL_law_1317 kL_108 (show 143 < 178 by decide) (show (sh0 143).1 = _ by decide) (d := 10) (by decide) (Nat.le_of_ble_eq_true rfl) (Nat.le_of_ble_eq_true rfl) (kr_thrown) rfl ?_
  refine ms_iload dL_law_1320 rfl ?_
  refine ms_icmp_eq (tgt := 1327) dL_law_1322 (by decide) (fun _ => ?_) (fun w => absurd (h0) w)
  refine ms_iload dL_law_1327 rfl ?_
  refine ms_if_ne (tgt := 1344) dL_law_1329 (by decide) (fun _ => ?_) (fun z => ?_)
  · refine ms_goto (tgt := 1969) dL_law_1344 (by decide) ?_
    exact hT _ _ _ _ _ _ hI2 hC2 (by omega) (by omega)
  · have hy := hv (nI_z0 hz z)
    refine ms_aload_n dL_law_1332 rfl ?_
    refine ms_iconst (v := nI 0) dL_law_1333 (by decide) ?_
    refine q_lald dL_law_1334 ?_
    refine ms_iload dL_law_1335 rfl ?_
    refine ms_i2l dL_law_1337 ?_
    refine ms_lcmp dL_law_1338 ?_
    rw [show lg1 = y.toInt64 from hy, lg_self]
    refine ms_if_eq (tgt := 1344) dL_law_1339 (by decide) (fun _ => ?_) (fun w => absurd rfl w)
    refine ms_goto (tgt := 1969) dL_law_1344 (by decide) ?_
    exact hT _ _ _ _ _ _ hI2 hC2 (by omega) (by omega)
theorem l_take {S : m_S} {c i : Nat} {I : m_I} {lg : Int64} {d5 d6 : Option Value} {rc rs : Nat} (hi : i + 6 ≤ S.1) (hn : S.1 ≤ 3072) (hc : c < 512) (hI : Iv c I) (hC : Cr I I) (hrc : 512 - c ≤ rc) (hrs : 6 * (512 - c) ≤ rs) (hT : lT S c i) : m_W S lB 1347 [some (.ref m_scr), some (.ref 0), some (.ref 143), some (.ref 177), some (.int (nI i)), d5, d6] [] (hh I lg) rc rs := by
  obtain ⟨z, y, lg1, I1, I2, hz, hw, hr, h0, hv, hI2, hC2⟩ := L_take lg (o_take (S.2 (i + 1)) hI hC)
  refine ms_aload_n dL_law_1347 rfl ?_
  refine ms_aload_n dL_law_1348 rfl ?_
  refine ms_iload dL_law_1349 rfl ?_
  refine ms_iconst (v := nI 1) dL_law_1351 (by decide) ?_
  refine n_iadd dL_law_1352 ?_
  refine ms_sld dL_law_1353 rfl (by show i + 1 < S.1; omega) (by show S.1 < 2 ^ 31; omega) ?_
  refine ms_aload_n dL_law_1354 rfl ?_
  refine qY3 dL_law_1355 kL_161 (d := 10) (by decide) rfl rfl rfl (Nat.le_of_ble_eq_true rfl) (Nat.le_of_ble_eq_true rfl) (hw 10 (Nat.le_refl _)) (by omega) (by omega) rfl ?_
  refine ms_istore dL_law_1358 (Nat.le_of_ble_eq_true rfl) ?_
  refine ms_aload_n dL_law_1360 rfl ?_
  refine ms_aload_n dL_law_1361 rfl ?_
  refine ms_iload dL_law_1362 rfl ?_
  refine ms_iconst (v := nI 1) dL_law_1364 (by decide) ?_
  refine n_iadd dL_law_1365 ?_
  refine ms_sld dL_law_1366 rfl (by show i + 1 < S.1; omega) (by show S.1 < 2 ^ 31; omega) ?_
  refine qRV1 dL_law_1367 kL_163 (show 143 < 178 by decide) (show (sh0 143).1 = _ by decide) (d := 10) (by decide) rfl (Nat.le_of_ble_eq_true rfl) (Nat.le_of_ble_eq_true rfl) (hr 10 (by decide)) rfl ?_
  refine ms_istore dL_law_1370 (Nat.le_of_ble_eq_true rfl) ?_
  refine ms_aload_n dL_law_1372 rfl ?_
  refine qRV0 dL_law_1373 kL_108 (show 143 < 178 by decide) (show (sh0 143).1 = _ by decide) (d := 10) (by decide) (Nat.le_of_ble_eq_true rfl) (Nat.le_of_ble_eq_true rfl) (kr_thrown) rfl ?_
  refine ms_iload dL_law_1376 rfl ?_
  refine ms_icmp_eq (tgt := 1383) dL_law_1378 (by decide) (fun _ => ?_) (fun w => absurd (h0) w)
  refine ms_iload dL_law_1383 rfl ?_
  refine ms_if_ne (tgt := 1400) dL_law_1385 (by decide) (fun _ => ?_) (fun z => ?_)
  · refine ms_goto (tgt := 1969) dL_law_1400 (by decide) ?_
    exact hT _ _ _ _ _ _ hI2 hC2 (by omega) (by omega)
  · have hy := hv (nI_z0 hz z)
    refine ms_aload_n dL_law_1388 rfl ?_
    refine ms_iconst (v := nI 0) dL_law_1389 (by decide) ?_
    refine q_lald dL_law_1390 ?_
    refine ms_iload dL_law_1391 rfl ?_
    refine ms_i2l dL_law_1393 ?_
    refine ms_lcmp dL_law_1394 ?_
    rw [show lg1 = y.toInt64 from hy, lg_self]
    refine ms_if_eq (tgt := 1400) dL_law_1395 (by decide) (fun _ => ?_) (fun w => absurd rfl w)
    refine ms_goto (tgt := 1969) dL_law_1400 (by decide) ?_
    exact hT _ _ _ _ _ _ hI2 hC2 (by omega) (by omega)
theorem l_fill {S : m_S} {c i : Nat} {I : m_I} {lg : Int64} {d5 d6 : Option Value} {rc rs : Nat} (hi : i + 6 ≤ S.1) (hn : S.1 ≤ 3072) (hc : c < 512) (hI : Iv c I) (hC : Cr I I) (hrc : 512 - c ≤ rc) (hrs : 6 * (512 - c) ≤ rs) (hT : lT S c i) : m_W S lB 1403 [some (.ref m_scr), some (.ref 0), some (.ref 143), some (.ref 177), some (.int (nI i)), d5, d6] [] (hh I lg) rc rs := by
  obtain ⟨y, I1, I2, hk, hr, hI2, hC2⟩ := Okc_nil lg (o_fill hc hI hC) (Or.inl rfl)
  refine ms_aload_n dL_law_1403 rfl ?_
  refine qRV0 dL_law_1404 kL_164 (show 0 < 178 by decide) (show (sh0 0).1 = _ by decide) (d := 10) (by decide) (Nat.le_of_ble_eq_true rfl) (Nat.le_of_ble_eq_true rfl) (hk 10 (by decide)) rfl ?_
  refine ms_aload_n dL_law_1407 rfl ?_
  refine qRV0 dL_law_1408 kL_167 (show 143 < 178 by decide) (show (sh0 143).1 = _ by decide) (d := 10) (by decide) (Nat.le_of_ble_eq_true rfl) (Nat.le_of_ble_eq_true rfl) (hr 10 (by decide)) rfl ?_
  refine ms_icmp_eq (tgt := 1969) dL_law_1411 (by decide) (fun _ => ?_) (fun w => absurd (rfl) w)
  exact hT _ _ _ _ _ _ hI2 hC2 (by omega) (by omega)
theorem l_mend {S : m_S} {c i : Nat} {I : m_I} {lg : Int64} {d5 d6 : Option Value} {rc rs : Nat} (hi : i + 6 ≤ S.1) (hn : S.1 ≤ 3072) (hc : c < 512) (hI : Iv c I) (hC : Cr I I) (hrc : 512 - c ≤ rc) (hrs : 6 * (512 - c) ≤ rs) (hT : lT S c i) : m_W S lB 1416 [some (.ref m_scr), some (.ref 0), some (.ref 143), some (.ref 177), some (.int (nI i)), d5, d6] [] (hh I lg) rc rs := by
  obtain ⟨z, y, lg1, I1, I2, hz, hw, hr, h0, hv, hI2, hC2⟩ := L_mend lg (o_mend (S.2 (i + 1)) hc hI hC)
  refine ms_aload_n dL_law_1416 rfl ?_
  refine ms_aload_n dL_law_1417 rfl ?_
  refine ms_iload dL_law_1418 rfl ?_
  refine ms_iconst (v := nI 1) dL_law_1420 (by decide) ?_
  refine n_iadd dL_law_1421 ?_
  refine ms_sld dL_law_1422 rfl (by show i + 1 < S.1; omega) (by show S.1 < 2 ^ 31; omega) ?_
  refine ms_aload_n dL_law_1423 rfl ?_
  refine qY3 dL_law_1424 kL_168 (d := 10) (by decide) rfl rfl rfl (Nat.le_of_ble_eq_true rfl) (Nat.le_of_ble_eq_true rfl) (hw 10 (Nat.le_refl _)) (by omega) (by omega) rfl ?_
  refine ms_istore dL_law_1427 (Nat.le_of_ble_eq_true rfl) ?_
  refine ms_aload_n dL_law_1429 rfl ?_
  refine ms_aload_n dL_law_1430 rfl ?_
  refine ms_iload dL_law_1431 rfl ?_
  refine ms_iconst (v := nI 1) dL_law_1433 (by decide) ?_
  refine n_iadd dL_law_1434 ?_
  refine ms_sld dL_law_1435 rfl (by show i + 1 < S.1; omega) (by show S.1 < 2 ^ 31; omega) ?_
  refine qRV1 dL_law_1436 kL_170 (show 143 < 178 by decide) (show (sh0 143).1 = _ by decide) (d := 10) (by decide) rfl (Nat.le_of_ble_eq_true rfl) (Nat.le_of_ble_eq_true rfl) (hr 10 (by decide)) rfl ?_
  refine ms_istore dL_law_1439 (Nat.le_of_ble_eq_true rfl) ?_
  refine ms_aload_n dL_law_1441 rfl ?_
  refine qRV0 dL_law_1442 kL_108 (show 143 < 178 by decide) (show (sh0 143).1 = _ by decide) (d := 10) (by decide) (Nat.le_of_ble_eq_true rfl) (Nat.le_of_ble_eq_true rfl) (kr_thrown) rfl ?_
  refine ms_iload dL_law_1445 rfl ?_
  refine ms_icmp_eq (tgt := 1452) dL_law_1447 (by decide) (fun _ => ?_) (fun w => absurd (h0) w)
  refine ms_iload dL_law_1452 rfl ?_
  refine ms_if_ne (tgt := 1469) dL_law_1454 (by decide) (fun _ => ?_) (fun z => ?_)
  · refine ms_goto (tgt := 1969) dL_law_1469 (by decide) ?_
    exact hT _ _ _ _ _ _ hI2 hC2 (by omega) (by omega)
  · have hy := hv (nI_z0 hz z)
    refine ms_aload_n dL_law_1457 rfl ?_
    refine ms_iconst (v := nI 0) dL_law_1458 (by decide) ?_
    refine q_lald dL_law_1459 ?_
    refine ms_iload dL_law_1460 rfl ?_
    refine ms_i2l dL_law_1462 ?_
    refine ms_lcmp dL_law_1463 ?_
    rw [show lg1 = y.toInt64 from hy, lg_self]
    refine ms_if_eq (tgt := 1469) dL_law_1464 (by decide) (fun _ => ?_) (fun w => absurd rfl w)
    refine ms_goto (tgt := 1969) dL_law_1469 (by decide) ?_
    exact hT _ _ _ _ _ _ hI2 hC2 (by omega) (by omega)
theorem l_strip {S : m_S} {c i : Nat} {I : m_I} {lg : Int64} {d5 d6 : Option Value} {rc rs : Nat} (hi : i + 6 ≤ S.1) (hn : S.1 ≤ 3072) (hc : c < 512) (hI : Iv c I) (hC : Cr I I) (hrc : 512 - c ≤ rc) (hrs : 6 * (512 - c) ≤ rs) (hT : lT S c i) : m_W S lB 1472 [some (.ref m_scr), some (.ref 0), some (.ref 143), some (.ref 177), some (.int (nI i)), d5, d6] [] (hh I lg) rc rs := by
  obtain ⟨z, y, lg1, I1, I2, hz, hw, hr, h0, hv, hI2, hC2⟩ := L_strip lg (o_strip (S.2 (i + 1)) (S.2 (i + 2)) hI hC)
  refine ms_aload_n dL_law_1472 rfl ?_
  refine ms_aload_n dL_law_1473 rfl ?_
  refine ms_iload dL_law_1474 rfl ?_
  refine ms_iconst (v := nI 1) dL_law_1476 (by decide) ?_
  refine n_iadd dL_law_1477 ?_
  refine ms_sld dL_law_1478 rfl (by show i + 1 < S.1; omega) (by show S.1 < 2 ^ 31; omega) ?_
  refine ms_aload_n dL_law_1479 rfl ?_
  refine ms_iload dL_law_1480 rfl ?_
  refine ms_iconst (v := nI 2) dL_law_1482 (by decide) ?_
  refine n_iadd dL_law_1483 ?_
  refine ms_sld dL_law_1484 rfl (by show i + 2 < S.1; omega) (by show S.1 < 2 ^ 31; omega) ?_
  refine ms_aload_n dL_law_1485 rfl ?_
  refine qY4 dL_law_1486 kL_171 (d := 10) (by decide) rfl rfl rfl rfl (Nat.le_of_ble_eq_true rfl) (Nat.le_of_ble_eq_true rfl) (hw 10 (Nat.le_refl _)) (by omega) (by omega) rfl ?_
  refine ms_istore dL_law_1489 (Nat.le_of_ble_eq_true rfl) ?_
  refine ms_aload_n dL_law_1491 rfl ?_
  refine ms_aload_n dL_law_1492 rfl ?_
  refine ms_iload dL_law_1493 rfl ?_
  refine ms_iconst (v := nI 1) dL_law_1495 (by decide) ?_
  refine n_iadd dL_law_1496 ?_
  refine ms_sld dL_law_1497 rfl (by show i + 1 < S.1; omega) (by show S.1 < 2 ^ 31; omega) ?_
  refine ms_aload_n dL_law_1498 rfl ?_
  refine ms_iload dL_law_1499 rfl ?_
  refine ms_iconst (v := nI 2) dL_law_1501 (by decide) ?_
  refine n_iadd dL_law_1502 ?_
  refine ms_sld dL_law_1503 rfl (by show i + 2 < S.1; omega) (by show S.1 < 2 ^ 31; omega) ?_
  refine qRV2 dL_law_1504 kL_173 (show 143 < 178 by decide) (show (sh0 143).1 = _ by decide) (d := 10) (by decide) rfl rfl (Nat.le_of_ble_eq_true rfl) (Nat.le_of_ble_eq_true rfl) (hr 10 (by decide)) rfl ?_
  refine ms_istore dL_law_1507 (Nat.le_of_ble_eq_true rfl) ?_
  refine ms_aload_n dL_law_1509 rfl ?_
  refine qRV0 dL_law_1510 kL_108 (show 143 < 178 by decide) (show (sh0 143).1 = _ by decide) (d := 10) (by decide) (Nat.le_of_ble_eq_true rfl) (Nat.le_of_ble_eq_true rfl) (kr_thrown) rfl ?_
  refine ms_iload dL_law_1513 rfl ?_
  refine ms_icmp_eq (tgt := 1520) dL_law_1515 (by decide) (fun _ => ?_) (fun w => absurd (h0) w)
  refine ms_iload dL_law_1520 rfl ?_
  refine ms_if_ne (tgt := 1537) dL_law_1522 (by decide) (fun _ => ?_) (fun z => ?_)
  · refine ms_goto (tgt := 1969) dL_law_1537 (by decide) ?_
    exact hT _ _ _ _ _ _ hI2 hC2 (by omega) (by omega)
  · have hy := hv (nI_z0 hz z)
    refine ms_aload_n dL_law_1525 rfl ?_
    refine ms_iconst (v := nI 0) dL_law_1526 (by decide) ?_
    refine q_lald dL_law_1527 ?_
    refine ms_iload dL_law_1528 rfl ?_
    refine ms_i2l dL_law_1530 ?_
    refine ms_lcmp dL_law_1531 ?_
    rw [show lg1 = y.toInt64 from hy, lg_self]
    refine ms_if_eq (tgt := 1537) dL_law_1532 (by decide) (fun _ => ?_) (fun w => absurd rfl w)
    refine ms_goto (tgt := 1969) dL_law_1537 (by decide) ?_
    exact hT _ _ _ _ _ _ hI2 hC2 (by omega) (by omega)
theorem l_ofScene {S : m_S} {c i : Nat} {I : m_I} {lg : Int64} {d5 d6 : Option Value} {rc rs : Nat} (hi : i + 6 ≤ S.1) (hn : S.1 ≤ 3072) (hc : c < 512) (hI : Iv c I) (hC : Cr I I) (hrc : 512 - c ≤ rc) (hrs : 6 * (512 - c) ≤ rs) (hT : lT S c i) : m_W S lB 1540 [some (.ref m_scr), some (.ref 0), some (.ref 143), some (.ref 177), some (.int (nI i)), d5, d6] [] (hh I lg) rc rs := by
  obtain ⟨z, y, lg1, I1, I2, hz, hw, hr, h0, hv, hI2, hC2⟩ := L_ofScene lg (o_ofScene (S.2 (i + 1)) (S.2 (i + 2)) hc hI hC)
  refine ms_aload_n dL_law_1540 rfl ?_
  refine ms_aload_n dL_law_1541 rfl ?_
  refine ms_iload dL_law_1542 rfl ?_
  refine ms_iconst (v := nI 1) dL_law_1544 (by decide) ?_
  refine n_iadd dL_law_1545 ?_
  refine ms_sld dL_law_1546 rfl (by show i + 1 < S.1; omega) (by show S.1 < 2 ^ 31; omega) ?_
  refine ms_aload_n dL_law_1547 rfl ?_
  refine ms_iload dL_law_1548 rfl ?_
  refine ms_iconst (v := nI 2) dL_law_1550 (by decide) ?_
  refine n_iadd dL_law_1551 ?_
  refine ms_sld dL_law_1552 rfl (by show i + 2 < S.1; omega) (by show S.1 < 2 ^ 31; omega) ?_
  refine ms_aload_n dL_law_1553 rfl ?_
  refine qY4 dL_law_1554 kL_174 (d := 10) (by decide) rfl rfl rfl rfl (Nat.le_of_ble_eq_true rfl) (Nat.le_of_ble_eq_true rfl) (hw 10 (Nat.le_refl _)) (by omega) (by omega) rfl ?_
  refine ms_istore dL_law_1557 (Nat.le_of_ble_eq_true rfl) ?_
  refine ms_aload_n dL_law_1559 rfl ?_
  refine ms_aload_n dL_law_1560 rfl ?_
  refine ms_iload dL_law_1561 rfl ?_
  refine ms_iconst (v := nI 1) dL_law_1563 (by decide) ?_
  refine n_iadd dL_law_1564 ?_
  refine ms_sld dL_law_1565 rfl (by show i + 1 < S.1; omega) (by show S.1 < 2 ^ 31; omega) ?_
  refine ms_aload_n dL_law_1566 rfl ?_
  refine ms_iload dL_law_1567 rfl ?_
  refine ms_iconst (v := nI 2) dL_law_1569 (by decide) ?_
  refine n_iadd dL_law_1570 ?_
  refine ms_sld dL_law_1571 rfl (by show i + 2 < S.1; omega) (by show S.1 < 2 ^ 31; omega) ?_
  refine qRV2 dL_law_1572 kL_176 (show 143 < 178 by decide) (show (sh0 143).1 = _ by decide) (d := 10) (by decide) rfl rfl (Nat.le_of_ble_eq_true rfl) (Nat.le_of_ble_eq_true rfl) (hr 10 (by decide)) rfl ?_
  refine ms_istore dL_law_1575 (Nat.le_of_ble_eq_true rfl) ?_
  refine ms_aload_n dL_law_1577 rfl ?_
  refine qRV0 dL_law_1578 kL_108 (show 143 < 178 by decide) (show (sh0 143).1 = _ by decide) (d := 10) (by decide) (Nat.le_of_ble_eq_true rfl) (Nat.le_of_ble_eq_true rfl) (kr_thrown) rfl ?_
  refine ms_iload dL_law_1581 rfl ?_
  refine ms_icmp_eq (tgt := 1588) dL_law_1583 (by decide) (fun _ => ?_) (fun w => absurd (h0) w)
  refine ms_iload dL_law_1588 rfl ?_
  refine ms_if_ne (tgt := 1605) dL_law_1590 (by decide) (fun _ => ?_) (fun z => ?_)
  · refine ms_goto (tgt := 1969) dL_law_1605 (by decide) ?_
    exact hT _ _ _ _ _ _ hI2 hC2 (by omega) (by omega)
  · have hy := hv (nI_z0 hz z)
    refine ms_aload_n dL_law_1593 rfl ?_
    refine ms_iconst (v := nI 0) dL_law_1594 (by decide) ?_
    refine q_lald dL_law_1595 ?_
    refine ms_iload dL_law_1596 rfl ?_
    refine ms_i2l dL_law_1598 ?_
    refine ms_lcmp dL_law_1599 ?_
    rw [show lg1 = y.toInt64 from hy, lg_self]
    refine ms_if_eq (tgt := 1605) dL_law_1600 (by decide) (fun _ => ?_) (fun w => absurd rfl w)
    refine ms_goto (tgt := 1969) dL_law_1605 (by decide) ?_
    exact hT _ _ _ _ _ _ hI2 hC2 (by omega) (by omega)
theorem l_call {S : m_S} {c i : Nat} {I : m_I} {lg : Int64} {d5 d6 : Option Value} {rc rs : Nat} (hi : i + 6 ≤ S.1) (hn : S.1 ≤ 3072) (hc : c < 512) (hI : Iv c I) (hC : Cr I I) (hrc : 512 - c ≤ rc) (hrs : 6 * (512 - c) ≤ rs) (hT : lT S c i) : m_W S lB 1608 [some (.ref m_scr), some (.ref 0), some (.ref 143), some (.ref 177), some (.int (nI i)), d5, d6] [] (hh I lg) rc rs := by
  by_cases hb3 : S.2 (i + 3) = 0
  · obtain ⟨z, y, lg1, I1, I2, hz, hw, hr, h0, hv, hI2, hC2⟩ := L_call lg (o_call (S.2 (i + 1)) (S.2 (i + 2)) (false) hc hI hC)
    refine ms_aload_n dL_law_1608 rfl ?_
    refine ms_aload_n dL_law_1609 rfl ?_
    refine ms_iload dL_law_1610 rfl ?_
    refine ms_iconst (v := nI 1) dL_law_1612 (by decide) ?_
    refine n_iadd dL_law_1613 ?_
    refine ms_sld dL_law_1614 rfl (by show i + 1 < S.1; omega) (by show S.1 < 2 ^ 31; omega) ?_
    refine ms_aload_n dL_law_1615 rfl ?_
    refine ms_iload dL_law_1616 rfl ?_
    refine ms_iconst (v := nI 2) dL_law_1618 (by decide) ?_
    refine n_iadd dL_law_1619 ?_
    refine ms_sld dL_law_1620 rfl (by show i + 2 < S.1; omega) (by show S.1 < 2 ^ 31; omega) ?_
    refine ms_aload_n dL_law_1621 rfl ?_
    refine ms_iload dL_law_1622 rfl ?_
    refine ms_iconst (v := nI 3) dL_law_1624 (by decide) ?_
    refine n_iadd dL_law_1625 ?_
    refine ms_sld dL_law_1626 rfl (by show i + 3 < S.1; omega) (by show S.1 < 2 ^ 31; omega) ?_
    refine ms_if_eq (tgt := 1634) dL_law_1627 (by decide) (fun _ => ?_) (fun z => absurd hb3 z)
    refine ms_iconst (v := nI 0) dL_law_1634 (by decide) ?_
    refine ms_aload_n dL_law_1635 rfl ?_
    refine qY5 dL_law_1636 kL_177 (d := 10) (by decide) rfl rfl rfl rfl rfl (Nat.le_of_ble_eq_true rfl) (Nat.le_of_ble_eq_true rfl) (hw 10 (Nat.le_refl _)) (by omega) (by omega) rfl ?_
    refine ms_istore dL_law_1639 (Nat.le_of_ble_eq_true rfl) ?_
    refine ms_aload_n dL_law_1641 rfl ?_
    refine ms_aload_n dL_law_1642 rfl ?_
    refine ms_iload dL_law_1643 rfl ?_
    refine ms_iconst (v := nI 1) dL_law_1645 (by decide) ?_
    refine n_iadd dL_law_1646 ?_
    refine ms_sld dL_law_1647 rfl (by show i + 1 < S.1; omega) (by show S.1 < 2 ^ 31; omega) ?_
    refine ms_aload_n dL_law_1648 rfl ?_
    refine ms_iload dL_law_1649 rfl ?_
    refine ms_iconst (v := nI 2) dL_law_1651 (by decide) ?_
    refine n_iadd dL_law_1652 ?_
    refine ms_sld dL_law_1653 rfl (by show i + 2 < S.1; omega) (by show S.1 < 2 ^ 31; omega) ?_
    refine ms_aload_n dL_law_1654 rfl ?_
    refine ms_iload dL_law_1655 rfl ?_
    refine ms_iconst (v := nI 3) dL_law_1657 (by decide) ?_
    refine n_iadd dL_law_1658 ?_
    refine ms_sld dL_law_1659 rfl (by show i + 3 < S.1; omega) (by show S.1 < 2 ^ 31; omega) ?_
    refine ms_if_eq (tgt := 1667) dL_law_1660 (by decide) (fun _ => ?_) (fun z => absurd hb3 z)
    refine ms_iconst (v := nI 0) dL_law_1667 (by decide) ?_
    refine qRV3 dL_law_1668 kL_179 (show 143 < 178 by decide) (show (sh0 143).1 = _ by decide) (d := 10) (by decide) rfl rfl rfl (Nat.le_of_ble_eq_true rfl) (Nat.le_of_ble_eq_true rfl) (hr 10 (by decide)) rfl ?_
    refine ms_istore dL_law_1671 (Nat.le_of_ble_eq_true rfl) ?_
    refine ms_aload_n dL_law_1673 rfl ?_
    refine qRV0 dL_law_1674 kL_108 (show 143 < 178 by decide) (show (sh0 143).1 = _ by decide) (d := 10) (by decide) (Nat.le_of_ble_eq_true rfl) (Nat.le_of_ble_eq_true rfl) (kr_thrown) rfl ?_
    refine ms_iload dL_law_1677 rfl ?_
    refine ms_icmp_eq (tgt := 1684) dL_law_1679 (by decide) (fun _ => ?_) (fun w => absurd (h0) w)
    refine ms_iload dL_law_1684 rfl ?_
    refine ms_if_ne (tgt := 1701) dL_law_1686 (by decide) (fun _ => ?_) (fun z => ?_)
    · refine ms_goto (tgt := 1969) dL_law_1701 (by decide) ?_
      exact hT _ _ _ _ _ _ hI2 hC2 (by omega) (by omega)
    · have hy := hv (nI_z0 hz z)
      refine ms_aload_n dL_law_1689 rfl ?_
      refine ms_iconst (v := nI 0) dL_law_1690 (by decide) ?_
      refine q_lald dL_law_1691 ?_
      refine ms_iload dL_law_1692 rfl ?_
      refine ms_i2l dL_law_1694 ?_
      refine ms_lcmp dL_law_1695 ?_
      rw [show lg1 = y.toInt64 from hy, lg_self]
      refine ms_if_eq (tgt := 1701) dL_law_1696 (by decide) (fun _ => ?_) (fun w => absurd rfl w)
      refine ms_goto (tgt := 1969) dL_law_1701 (by decide) ?_
      exact hT _ _ _ _ _ _ hI2 hC2 (by omega) (by omega)
  · obtain ⟨z, y, lg1, I1, I2, hz, hw, hr, h0, hv, hI2, hC2⟩ := L_call lg (o_call (S.2 (i + 1)) (S.2 (i + 2)) (true) hc hI hC)
    refine ms_aload_n dL_law_1608 rfl ?_
    refine ms_aload_n dL_law_1609 rfl ?_
    refine ms_iload dL_law_1610 rfl ?_
    refine ms_iconst (v := nI 1) dL_law_1612 (by decide) ?_
    refine n_iadd dL_law_1613 ?_
    refine ms_sld dL_law_1614 rfl (by show i + 1 < S.1; omega) (by show S.1 < 2 ^ 31; omega) ?_
    refine ms_aload_n dL_law_1615 rfl ?_
    refine ms_iload dL_law_1616 rfl ?_
    refine ms_iconst (v := nI 2) dL_law_1618 (by decide) ?_
    refine n_iadd dL_law_1619 ?_
    refine ms_sld dL_law_1620 rfl (by show i + 2 < S.1; omega) (by show S.1 < 2 ^ 31; omega) ?_
    refine ms_aload_n dL_law_1621 rfl ?_
    refine ms_iload dL_law_1622 rfl ?_
    refine ms_iconst (v := nI 3) dL_law_1624 (by decide) ?_
    refine n_iadd dL_law_1625 ?_
    refine ms_sld dL_law_1626 rfl (by show i + 3 < S.1; omega) (by show S.1 < 2 ^ 31; omega) ?_
    refine ms_if_eq (tgt := 1634) dL_law_1627 (by decide) (fun z => absurd z hb3) (fun _ => ?_)
    refine ms_iconst (v := nI 1) dL_law_1630 (by decide) ?_
    refine ms_goto (tgt := 1635) dL_law_1631 (by decide) ?_
    refine ms_aload_n dL_law_1635 rfl ?_
    refine qY5 dL_law_1636 kL_177 (d := 10) (by decide) rfl rfl rfl rfl rfl (Nat.le_of_ble_eq_true rfl) (Nat.le_of_ble_eq_true rfl) (hw 10 (Nat.le_refl _)) (by omega) (by omega) rfl ?_
    refine ms_istore dL_law_1639 (Nat.le_of_ble_eq_true rfl) ?_
    refine ms_aload_n dL_law_1641 rfl ?_
    refine ms_aload_n dL_law_1642 rfl ?_
    refine ms_iload dL_law_1643 rfl ?_
    refine ms_iconst (v := nI 1) dL_law_1645 (by decide) ?_
    refine n_iadd dL_law_1646 ?_
    refine ms_sld dL_law_1647 rfl (by show i + 1 < S.1; omega) (by show S.1 < 2 ^ 31; omega) ?_
    refine ms_aload_n dL_law_1648 rfl ?_
    refine ms_iload dL_law_1649 rfl ?_
    refine ms_iconst (v := nI 2) dL_law_1651 (by decide) ?_
    refine n_iadd dL_law_1652 ?_
    refine ms_sld dL_law_1653 rfl (by show i + 2 < S.1; omega) (by show S.1 < 2 ^ 31; omega) ?_
    refine ms_aload_n dL_law_1654 rfl ?_
    refine ms_iload dL_law_1655 rfl ?_
    refine ms_iconst (v := nI 3) dL_law_1657 (by decide) ?_
    refine n_iadd dL_law_1658 ?_
    refine ms_sld dL_law_1659 rfl (by show i + 3 < S.1; omega) (by show S.1 < 2 ^ 31; omega) ?_
    refine ms_if_eq (tgt := 1667) dL_law_1660 (by decide) (fun z => absurd z hb3) (fun _ => ?_)
    refine ms_iconst (v := nI 1) dL_law_1663 (by decide) ?_
    refine ms_goto (tgt := 1668) dL_law_1664 (by decide) ?_
    refine qRV3 dL_law_1668 kL_179 (show 143 < 178 by decide) (show (sh0 143).1 = _ by decide) (d := 10) (by decide) rfl rfl rfl (Nat.le_of_ble_eq_true rfl) (Nat.le_of_ble_eq_true rfl) (hr 10 (by decide)) rfl ?_
    refine ms_istore dL_law_1671 (Nat.le_of_ble_eq_true rfl) ?_
    refine ms_aload_n dL_law_1673 rfl ?_
    refine qRV0 dL_law_1674 kL_108 (show 143 < 178 by decide) (show (sh0 143).1 = _ by decide) (d := 10) (by decide) (Nat.le_of_ble_eq_true rfl) (Nat.le_of_ble_eq_true rfl) (kr_thrown) rfl ?_
    refine ms_iload dL_law_1677 rfl ?_
    refine ms_icmp_eq (tgt := 1684) dL_law_1679 (by decide) (fun _ => ?_) (fun w => absurd (h0) w)
    refine ms_iload dL_law_1684 rfl ?_
    refine ms_if_ne (tgt := 1701) dL_law_1686 (by decide) (fun _ => ?_) (fun z => ?_)
    · refine ms_goto (tgt := 1969) dL_law_1701 (by decide) ?_
      exact hT _ _ _ _ _ _ hI2 hC2 (by omega) (by omega)
    · have hy := hv (nI_z0 hz z)
      refine ms_aload_n dL_law_1689 rfl ?_
      refine ms_iconst (v := nI 0) dL_law_1690 (by decide) ?_
      refine q_lald dL_law_1691 ?_
      refine ms_iload dL_law_1692 rfl ?_
      refine ms_i2l dL_law_1694 ?_
      refine ms_lcmp dL_law_1695 ?_
      rw [show lg1 = y.toInt64 from hy, lg_self]
      refine ms_if_eq (tgt := 1701) dL_law_1696 (by decide) (fun _ => ?_) (fun w => absurd rfl w)
      refine ms_goto (tgt := 1969) dL_law_1701 (by decide) ?_
      exact hT _ _ _ _ _ _ hI2 hC2 (by omega) (by omega)
theorem l_shoot {S : m_S} {c i : Nat} {I : m_I} {lg : Int64} {d5 d6 : Option Value} {rc rs : Nat} (hi : i + 6 ≤ S.1) (hn : S.1 ≤ 3072) (hc : c < 512) (hI : Iv c I) (hC : Cr I I) (hrc : 512 - c ≤ rc) (hrs : 6 * (512 - c) ≤ rs) (hT : lT S c i) : m_W S lB 1704 [some (.ref m_scr), some (.ref 0), some (.ref 143), some (.ref 177), some (.int (nI i)), d5, d6] [] (hh I lg) rc rs := by
  obtain ⟨z, y, lg1, I1, I2, hz, hw, hr, h0, hv, hI2, hC2⟩ := L_shoot lg (o_shoot (S.2 (i + 1)) (S.2 (i + 2)) hc hI hC)
  refine ms_aload_n dL_law_1704 rfl ?_
  refine ms_aload_n dL_law_1705 rfl ?_
  refine ms_iload dL_law_1706 rfl ?_
  refine ms_iconst (v := nI 1) dL_law_1708 (by decide) ?_
  refine n_iadd dL_law_1709 ?_
  refine ms_sld dL_law_1710 rfl (by show i + 1 < S.1; omega) (by show S.1 < 2 ^ 31; omega) ?_
  refine ms_aload_n dL_law_1711 rfl ?_
  refine ms_iload dL_law_1712 rfl ?_
  refine ms_iconst (v := nI 2) dL_law_1714 (by decide) ?_
  refine n_iadd dL_law_1715 ?_
  refine ms_sld dL_law_1716 rfl (by show i + 2 < S.1; omega) (by show S.1 < 2 ^ 31; omega) ?_
  refine ms_aload_n dL_law_1717 rfl ?_
  refine qY4 dL_law_1718 kL_180 (d := 10) (by decide) rfl rfl rfl rfl (Nat.le_of_ble_eq_true rfl) (Nat.le_of_ble_eq_true rfl) (hw 10 (Nat.le_refl _)) (by omega) (by omega) rfl ?_
  refine ms_istore dL_law_1721 (Nat.le_of_ble_eq_true rfl) ?_
  refine ms_aload_n dL_law_1723 rfl ?_
  refine ms_aload_n dL_law_1724 rfl ?_
  refine ms_iload dL_law_1725 rfl ?_
  refine ms_iconst (v := nI 1) dL_law_1727 (by decide) ?_
  refine n_iadd dL_law_1728 ?_
  refine ms_sld dL_law_1729 rfl (by show i + 1 < S.1; omega) (by show S.1 < 2 ^ 31; omega) ?_
  refine ms_aload_n dL_law_1730 rfl ?_
  refine ms_iload dL_law_1731 rfl ?_
  refine ms_iconst (v := nI 2) dL_law_1733 (by decide) ?_
  refine n_iadd dL_law_1734 ?_
  refine ms_sld dL_law_1735 rfl (by show i + 2 < S.1; omega) (by show S.1 < 2 ^ 31; omega) ?_
  refine qRV2 dL_law_1736 kL_182 (show 143 < 178 by decide) (show (sh0 143).1 = _ by decide) (d := 10) (by decide) rfl rfl (Nat.le_of_ble_eq_true rfl) (Nat.le_of_ble_eq_true rfl) (hr 10 (by decide)) rfl ?_
  refine ms_istore dL_law_1739 (Nat.le_of_ble_eq_true rfl) ?_
  refine ms_aload_n dL_law_1741 rfl ?_
  refine qRV0 dL_law_1742 kL_108 (show 143 < 178 by decide) (show (sh0 143).1 = _ by decide) (d := 10) (by decide) (Nat.le_of_ble_eq_true rfl) (Nat.le_of_ble_eq_true rfl) (kr_thrown) rfl ?_
  refine ms_iload dL_law_1745 rfl ?_
  refine ms_icmp_eq (tgt := 1752) dL_law_1747 (by decide) (fun _ => ?_) (fun w => absurd (h0) w)
  refine ms_iload dL_law_1752 rfl ?_
  refine ms_if_ne (tgt := 1769) dL_law_1754 (by decide) (fun _ => ?_) (fun z => ?_)
  · refine ms_goto (tgt := 1969) dL_law_1769 (by decide) ?_
    exact hT _ _ _ _ _ _ hI2 hC2 (by omega) (by omega)
  · have hy := hv (nI_z0 hz z)
    refine ms_aload_n dL_law_1757 rfl ?_
    refine ms_iconst (v := nI 0) dL_law_1758 (by decide) ?_
    refine q_lald dL_law_1759 ?_
    refine ms_iload dL_law_1760 rfl ?_
    refine ms_i2l dL_law_1762 ?_
    refine ms_lcmp dL_law_1763 ?_
    rw [show lg1 = y.toInt64 from hy, lg_self]
    refine ms_if_eq (tgt := 1769) dL_law_1764 (by decide) (fun _ => ?_) (fun w => absurd rfl w)
    refine ms_goto (tgt := 1969) dL_law_1769 (by decide) ?_
    exact hT _ _ _ _ _ _ hI2 hC2 (by omega) (by omega)
theorem l_lose {S : m_S} {c i : Nat} {I : m_I} {lg : Int64} {d5 d6 : Option Value} {rc rs : Nat} (hi : i + 6 ≤ S.1) (hn : S.1 ≤ 3072) (hc : c < 512) (hI : Iv c I) (hC : Cr I I) (hrc : 512 - c ≤ rc) (hrs : 6 * (512 - c) ≤ rs) (hT : lT S c i) : m_W S lB 1772 [some (.ref m_scr), some (.ref 0), some (.ref 143), some (.ref 177), some (.int (nI i)), d5, d6] [] (hh I lg) rc rs := by
  obtain ⟨z, y, lg1, I1, I2, hz, hw, hr, h0, hv, hI2, hC2⟩ := L_lose lg (o_lose (S.2 (i + 1)) hI hC)
  refine ms_aload_n dL_law_1772 rfl ?_
  refine ms_aload_n dL_law_1773 rfl ?_
  refine ms_iload dL_law_1774 rfl ?_
  refine ms_iconst (v := nI 1) dL_law_1776 (by decide) ?_
  refine n_iadd dL_law_1777 ?_
  refine ms_sld dL_law_1778 rfl (by show i + 1 < S.1; omega) (by show S.1 < 2 ^ 31; omega) ?_
  refine ms_aload_n dL_law_1779 rfl ?_
  refine qY3 dL_law_1780 kL_183 (d := 10) (by decide) rfl rfl rfl (Nat.le_of_ble_eq_true rfl) (Nat.le_of_ble_eq_true rfl) (hw 10 (Nat.le_refl _)) (by omega) (by omega) rfl ?_
  refine ms_istore dL_law_1783 (Nat.le_of_ble_eq_true rfl) ?_
  refine ms_aload_n dL_law_1785 rfl ?_
  refine ms_aload_n dL_law_1786 rfl ?_
  refine ms_iload dL_law_1787 rfl ?_
  refine ms_iconst (v := nI 1) dL_law_1789 (by decide) ?_
  refine n_iadd dL_law_1790 ?_
  refine ms_sld dL_law_1791 rfl (by show i + 1 < S.1; omega) (by show S.1 < 2 ^ 31; omega) ?_
  refine qRV1 dL_law_1792 kL_185 (show 143 < 178 by decide) (show (sh0 143).1 = _ by decide) (d := 10) (by decide) rfl (Nat.le_of_ble_eq_true rfl) (Nat.le_of_ble_eq_true rfl) (hr 10 (by decide)) rfl ?_
  refine ms_istore dL_law_1795 (Nat.le_of_ble_eq_true rfl) ?_
  refine ms_aload_n dL_law_1797 rfl ?_
  refine qRV0 dL_law_1798 kL_108 (show 143 < 178 by decide) (show (sh0 143).1 = _ by decide) (d := 10) (by decide) (Nat.le_of_ble_eq_true rfl) (Nat.le_of_ble_eq_true rfl) (kr_thrown) rfl ?_
  refine ms_iload dL_law_1801 rfl ?_
  refine ms_icmp_eq (tgt := 1808) dL_law_1803 (by decide) (fun _ => ?_) (fun w => absurd (h0) w)
  refine ms_iload dL_law_1808 rfl ?_
  refine ms_if_ne (tgt := 1825) dL_law_1810 (by decide) (fun _ => ?_) (fun z => ?_)
  · refine ms_goto (tgt := 1969) dL_law_1825 (by decide) ?_
    exact hT _ _ _ _ _ _ hI2 hC2 (by omega) (by omega)
  · have hy := hv (nI_z0 hz z)
    refine ms_aload_n dL_law_1813 rfl ?_
    refine ms_iconst (v := nI 0) dL_law_1814 (by decide) ?_
    refine q_lald dL_law_1815 ?_
    refine ms_iload dL_law_1816 rfl ?_
    refine ms_i2l dL_law_1818 ?_
    refine ms_lcmp dL_law_1819 ?_
    rw [show lg1 = y.toInt64 from hy, lg_self]
    refine ms_if_eq (tgt := 1825) dL_law_1820 (by decide) (fun _ => ?_) (fun w => absurd rfl w)
    refine ms_goto (tgt := 1969) dL_law_1825 (by decide) ?_
    exact hT _ _ _ _ _ _ hI2 hC2 (by omega) (by omega)
theorem l_next {S : m_S} {c i : Nat} {I : m_I} {lg : Int64} {d5 d6 : Option Value} {rc rs : Nat} (hi : i + 6 ≤ S.1) (hn : S.1 ≤ 3072) (hc : c < 512) (hI : Iv c I) (hC : Cr I I) (hrc : 512 - c ≤ rc) (hrs : 6 * (512 - c) ≤ rs) (hT : lT S c i) : m_W S lB 1828 [some (.ref m_scr), some (.ref 0), some (.ref 143), some (.ref 177), some (.int (nI i)), d5, d6] [] (hh I lg) rc rs := by
  obtain ⟨z, y, lg1, I1, I2, hz, hw, hr, h0, hv, hI2, hC2⟩ := L_next lg (o_next hI hC)
  refine ms_aload_n dL_law_1828 rfl ?_
  refine ms_aload_n dL_law_1829 rfl ?_
  refine qY2 dL_law_1830 kL_186 (d := 10) (by decide) rfl rfl (Nat.le_of_ble_eq_true rfl) (Nat.le_of_ble_eq_true rfl) (hw 10 (Nat.le_refl _)) (by omega) (by omega) rfl ?_
  refine ms_istore dL_law_1833 (Nat.le_of_ble_eq_true rfl) ?_
  refine ms_aload_n dL_law_1835 rfl ?_
  refine qRV0 dL_law_1836 kL_188 (show 143 < 178 by decide) (show (sh0 143).1 = _ by decide) (d := 10) (by decide) (Nat.le_of_ble_eq_true rfl) (Nat.le_of_ble_eq_true rfl) (hr 10 (by decide)) rfl ?_
  refine ms_istore dL_law_1839 (Nat.le_of_ble_eq_true rfl) ?_
  refine ms_aload_n dL_law_1841 rfl ?_
  refine qRV0 dL_law_1842 kL_108 (show 143 < 178 by decide) (show (sh0 143).1 = _ by decide) (d := 10) (by decide) (Nat.le_of_ble_eq_true rfl) (Nat.le_of_ble_eq_true rfl) (kr_thrown) rfl ?_
  refine ms_iload dL_law_1845 rfl ?_
  refine ms_icmp_eq (tgt := 1852) dL_law_1847 (by decide) (fun _ => ?_) (fun w => absurd (h0) w)
  refine ms_iload dL_law_1852 rfl ?_
  refine ms_if_ne (tgt := 1869) dL_law_1854 (by decide) (fun _ => ?_) (fun z => ?_)
  · refine ms_goto (tgt := 1969) dL_law_1869 (by decide) ?_
    exact hT _ _ _ _ _ _ hI2 hC2 (by omega) (by omega)
  · have hy := hv (nI_z0 hz z)
    refine ms_aload_n dL_law_1857 rfl ?_
    refine ms_iconst (v := nI 0) dL_law_1858 (by decide) ?_
    refine q_lald dL_law_1859 ?_
    refine ms_iload dL_law_1860 rfl ?_
    refine ms_i2l dL_law_1862 ?_
    refine ms_lcmp dL_law_1863 ?_
    rw [show lg1 = y.toInt64 from hy, lg_self]
    refine ms_if_eq (tgt := 1869) dL_law_1864 (by decide) (fun _ => ?_) (fun w => absurd rfl w)
    refine ms_goto (tgt := 1969) dL_law_1869 (by decide) ?_
    exact hT _ _ _ _ _ _ hI2 hC2 (by omega) (by omega)
theorem l_pay {S : m_S} {c i : Nat} {I : m_I} {lg : Int64} {d5 d6 : Option Value} {rc rs : Nat} (hi : i + 6 ≤ S.1) (hn : S.1 ≤ 3072) (hc : c < 512) (hI : Iv c I) (hC : Cr I I) (hrc : 512 - c ≤ rc) (hrs : 6 * (512 - c) ≤ rs) (hT : lT S c i) : m_W S lB 1872 [some (.ref m_scr), some (.ref 0), some (.ref 143), some (.ref 177), some (.int (nI i)), d5, d6] [] (hh I lg) rc rs := by
  by_cases hb2 : S.2 (i + 2) = 0
  · obtain ⟨z, y, lg1, I1, I2, hz, hw, hr, h0, hv, hI2, hC2⟩ := L_pay lg (o_pay (S.2 (i + 1)) (false) hc hI hC)
    refine ms_aload_n dL_law_1872 rfl ?_
    refine ms_aload_n dL_law_1873 rfl ?_
    refine ms_iload dL_law_1874 rfl ?_
    refine ms_iconst (v := nI 1) dL_law_1876 (by decide) ?_
    refine n_iadd dL_law_1877 ?_
    refine ms_sld dL_law_1878 rfl (by show i + 1 < S.1; omega) (by show S.1 < 2 ^ 31; omega) ?_
    refine ms_aload_n dL_law_1879 rfl ?_
    refine ms_iload dL_law_1880 rfl ?_
    refine ms_iconst (v := nI 2) dL_law_1882 (by decide) ?_
    refine n_iadd dL_law_1883 ?_
    refine ms_sld dL_law_1884 rfl (by show i + 2 < S.1; omega) (by show S.1 < 2 ^ 31; omega) ?_
    refine ms_if_eq (tgt := 1892) dL_law_1885 (by decide) (fun _ => ?_) (fun z => absurd hb2 z)
    refine ms_iconst (v := nI 0) dL_law_1892 (by decide) ?_
    refine ms_aload_n dL_law_1893 rfl ?_
    refine qY4 dL_law_1894 kL_189 (d := 10) (by decide) rfl rfl rfl rfl (Nat.le_of_ble_eq_true rfl) (Nat.le_of_ble_eq_true rfl) (hw 10 (Nat.le_refl _)) (by omega) (by omega) rfl ?_
    refine ms_istore dL_law_1897 (Nat.le_of_ble_eq_true rfl) ?_
    refine ms_aload_n dL_law_1899 rfl ?_
    refine ms_aload_n dL_law_1900 rfl ?_
    refine ms_iload dL_law_1901 rfl ?_
    refine ms_iconst (v := nI 1) dL_law_1903 (by decide) ?_
    refine n_iadd dL_law_1904 ?_
    refine ms_sld dL_law_1905 rfl (by show i + 1 < S.1; omega) (by show S.1 < 2 ^ 31; omega) ?_
    refine ms_aload_n dL_law_1906 rfl ?_
    refine ms_iload dL_law_1907 rfl ?_
    refine ms_iconst (v := nI 2) dL_law_1909 (by decide) ?_
    refine n_iadd dL_law_1910 ?_
    refine ms_sld dL_law_1911 rfl (by show i + 2 < S.1; omega) (by show S.1 < 2 ^ 31; omega) ?_
    refine ms_if_eq (tgt := 1919) dL_law_1912 (by decide) (fun _ => ?_) (fun z => absurd hb2 z)
    refine ms_iconst (v := nI 0) dL_law_1919 (by decide) ?_
    refine qRV2 dL_law_1920 kL_192 (show 143 < 178 by decide) (show (sh0 143).1 = _ by decide) (d := 10) (by decide) rfl rfl (Nat.le_of_ble_eq_true rfl) (Nat.le_of_ble_eq_true rfl) (hr 10 (by decide)) rfl ?_
    refine ms_istore dL_law_1923 (Nat.le_of_ble_eq_true rfl) ?_
    refine ms_aload_n dL_law_1925 rfl ?_
    refine qRV0 dL_law_1926 kL_108 (show 143 < 178 by decide) (show (sh0 143).1 = _ by decide) (d := 10) (by decide) (Nat.le_of_ble_eq_true rfl) (Nat.le_of_ble_eq_true rfl) (kr_thrown) rfl ?_
    refine ms_iload dL_law_1929 rfl ?_
    refine ms_icmp_eq (tgt := 1936) dL_law_1931 (by decide) (fun _ => ?_) (fun w => absurd (h0) w)
    refine ms_iload dL_law_1936 rfl ?_
    refine ms_if_ne (tgt := 1953) dL_law_1938 (by decide) (fun _ => ?_) (fun z => ?_)
    · refine ms_goto (tgt := 1969) dL_law_1953 (by decide) ?_
      exact hT _ _ _ _ _ _ hI2 hC2 (by omega) (by omega)
    · have hy := hv (nI_z0 hz z)
      refine ms_aload_n dL_law_1941 rfl ?_
      refine ms_iconst (v := nI 0) dL_law_1942 (by decide) ?_
      refine q_lald dL_law_1943 ?_
      refine ms_iload dL_law_1944 rfl ?_
      refine ms_i2l dL_law_1946 ?_
      refine ms_lcmp dL_law_1947 ?_
      rw [show lg1 = y.toInt64 from hy, lg_self]
      refine ms_if_eq (tgt := 1953) dL_law_1948 (by decide) (fun _ => ?_) (fun w => absurd rfl w)
      refine ms_goto (tgt := 1969) dL_law_1953 (by decide) ?_
      exact hT _ _ _ _ _ _ hI2 hC2 (by omega) (by omega)
  · obtain ⟨z, y, lg1, I1, I2, hz, hw, hr, h0, hv, hI2, hC2⟩ := L_pay lg (o_pay (S.2 (i + 1)) (true) hc hI hC)
    refine ms_aload_n dL_law_1872 rfl ?_
    refine ms_aload_n dL_law_1873 rfl ?_
    refine ms_iload dL_law_1874 rfl ?_
    refine ms_iconst (v := nI 1) dL_law_1876 (by decide) ?_
    refine n_iadd dL_law_1877 ?_
    refine ms_sld dL_law_1878 rfl (by show i + 1 < S.1; omega) (by show S.1 < 2 ^ 31; omega) ?_
    refine ms_aload_n dL_law_1879 rfl ?_
    refine ms_iload dL_law_1880 rfl ?_
    refine ms_iconst (v := nI 2) dL_law_1882 (by decide) ?_
    refine n_iadd dL_law_1883 ?_
    refine ms_sld dL_law_1884 rfl (by show i + 2 < S.1; omega) (by show S.1 < 2 ^ 31; omega) ?_
    refine ms_if_eq (tgt := 1892) dL_law_1885 (by decide) (fun z => absurd z hb2) (fun _ => ?_)
    refine ms_iconst (v := nI 1) dL_law_1888 (by decide) ?_
    refine ms_goto (tgt := 1893) dL_law_1889 (by decide) ?_
    refine ms_aload_n dL_law_1893 rfl ?_
    refine qY4 dL_law_1894 kL_189 (d := 10) (by decide) rfl rfl rfl rfl (Nat.le_of_ble_eq_true rfl) (Nat.le_of_ble_eq_true rfl) (hw 10 (Nat.le_refl _)) (by omega) (by omega) rfl ?_
    refine ms_istore dL_law_1897 (Nat.le_of_ble_eq_true rfl) ?_
    refine ms_aload_n dL_law_1899 rfl ?_
    refine ms_aload_n dL_law_1900 rfl ?_
    refine ms_iload dL_law_1901 rfl ?_
    refine ms_iconst (v := nI 1) dL_law_1903 (by decide) ?_
    refine n_iadd dL_law_1904 ?_
    refine ms_sld dL_law_1905 rfl (by show i + 1 < S.1; omega) (by show S.1 < 2 ^ 31; omega) ?_
    refine ms_aload_n dL_law_1906 rfl ?_
    refine ms_iload dL_law_1907 rfl ?_
    refine ms_iconst (v := nI 2) dL_law_1909 (by decide) ?_
    refine n_iadd dL_law_1910 ?_
    refine ms_sld dL_law_1911 rfl (by show i + 2 < S.1; omega) (by show S.1 < 2 ^ 31; omega) ?_
    refine ms_if_eq (tgt := 1919) dL_law_1912 (by decide) (fun z => absurd z hb2) (fun _ => ?_)
    refine ms_iconst (v := nI 1) dL_law_1915 (by decide) ?_
    refine ms_goto (tgt := 1920) dL_law_1916 (by decide) ?_
    refine qRV2 dL_law_1920 kL_192 (show 143 < 178 by decide) (show (sh0 143).1 = _ by decide) (d := 10) (by decide) rfl rfl (Nat.le_of_ble_eq_true rfl) (Nat.le_of_ble_eq_true rfl) (hr 10 (by decide)) rfl ?_
    refine ms_istore dL_law_1923 (Nat.le_of_ble_eq_true rfl) ?_
    refine ms_aload_n dL_law_1925 rfl ?_
    refine qRV0 dL_law_1926 kL_108 (show 143 < 178 by decide) (show (sh0 143).1 = _ by decide) (d := 10) (by decide) (Nat.le_of_ble_eq_true rfl) (Nat.le_of_ble_eq_true rfl) (kr_thrown) rfl ?_
    refine ms_iload dL_law_1929 rfl ?_
    refine ms_icmp_eq (tgt := 1936) dL_law_1931 (by decide) (fun _ => ?_) (fun w => absurd (h0) w)
    refine ms_iload dL_law_1936 rfl ?_
    refine ms_if_ne (tgt := 1953) dL_law_1938 (by decide) (fun _ => ?_) (fun z => ?_)
    · refine ms_goto (tgt := 1969) dL_law_1953 (by decide) ?_
      exact hT _ _ _ _ _ _ hI2 hC2 (by omega) (by omega)
    · have hy := hv (nI_z0 hz z)
      refine ms_aload_n dL_law_1941 rfl ?_
      refine ms_iconst (v := nI 0) dL_law_1942 (by decide) ?_
      refine q_lald dL_law_1943 ?_
      refine ms_iload dL_law_1944 rfl ?_
      refine ms_i2l dL_law_1946 ?_
      refine ms_lcmp dL_law_1947 ?_
      rw [show lg1 = y.toInt64 from hy, lg_self]
      refine ms_if_eq (tgt := 1953) dL_law_1948 (by decide) (fun _ => ?_) (fun w => absurd rfl w)
      refine ms_goto (tgt := 1969) dL_law_1953 (by decide) ?_
      exact hT _ _ _ _ _ _ hI2 hC2 (by omega) (by omega)
theorem l_cost {S : m_S} {c i : Nat} {I : m_I} {lg : Int64} {d5 d6 : Option Value} {rc rs : Nat} (hi : i + 6 ≤ S.1) (hn : S.1 ≤ 3072) (hc : c < 512) (hI : Iv c I) (hC : Cr I I) (hrc : 512 - c ≤ rc) (hrs : 6 * (512 - c) ≤ rs) (hT : lT S c i) : m_W S lB 1956 [some (.ref m_scr), some (.ref 0), some (.ref 143), some (.ref 177), some (.int (nI i)), d5, d6] [] (hh I lg) rc rs := by
  obtain ⟨y, I1, I2, hk, hr, hI2, hC2⟩ := Okc_nil lg (o_cost hc hI hC) (Or.inl rfl)
  refine ms_aload_n dL_law_1956 rfl ?_
  refine qRV0 dL_law_1957 kL_193 (show 0 < 178 by decide) (show (sh0 0).1 = _ by decide) (d := 10) (by decide) (Nat.le_of_ble_eq_true rfl) (Nat.le_of_ble_eq_true rfl) (hk 10 (by decide)) rfl ?_
  refine ms_aload_n dL_law_1960 rfl ?_
  refine qRV0 dL_law_1961 kL_196 (show 143 < 178 by decide) (show (sh0 143).1 = _ by decide) (d := 10) (by decide) (Nat.le_of_ble_eq_true rfl) (Nat.le_of_ble_eq_true rfl) (hr 10 (by decide)) rfl ?_
  refine ms_icmp_eq (tgt := 1969) dL_law_1964 (by decide) (fun _ => ?_) (fun w => absurd (rfl) w)
  exact hT _ _ _ _ _ _ hI2 hC2 (by omega) (by omega)

