-- NAME model
/-! the law's start: the reference -/
/-- the reference's links once j of its rows are made -/
def Rm (R : m_Rf) (j : Nat) : m_Rf := fun i k => if i = 143 then (if 4 ≤ k ∧ k ≤ 19 ∧ k < 4 + j then some (k + 140) else if 23 ≤ k ∧ k ≤ 27 ∧ k < 7 + j then some (k + 137) else if 29 ≤ k ∧ k ≤ 40 ∧ k < 8 + j then some (k + 136) else none) else R i k
theorem Rm_0 {R : m_Rf} (h : ∀ k, R 143 k = none) : R = Rm R 0 := by
  funext i k
  unfold Rm
  by_cases h1 : i = 143
  · rw [if_pos h1, if_neg (by omega), if_neg (by omega), if_neg (by omega), h1]
    exact h k
  · rw [if_neg h1]
theorem Rm_st {R : m_Rf} {j k0 a : Nat} (h : (4 ≤ k0 ∧ k0 ≤ 19 ∧ k0 = 4 + j ∧ a = k0 + 140) ∨ (23 ≤ k0 ∧ k0 ≤ 27 ∧ k0 = 7 + j ∧ a = k0 + 137) ∨ (29 ≤ k0 ∧ k0 ≤ 40 ∧ k0 = 8 + j ∧ a = k0 + 136)) : m_up2 (Rm R j) 143 k0 (some a) = Rm R (j + 1) := by
  funext i k
  by_cases h1 : i = 143
  · subst h1
    by_cases h2 : k = k0
    · subst h2
      rw [u2_eq]
      unfold Rm
      rw [if_pos rfl]
      rcases h with h | h | h
      · rw [if_pos (by omega), h.2.2.2]
      · rw [if_neg (by omega), if_pos (by omega), h.2.2.2]
      · rw [if_neg (by omega), if_neg (by omega), if_pos (by omega), h.2.2.2]
    · rw [u2_ne (by omega)]
      unfold Rm
      rw [if_pos rfl, if_pos rfl]
      by_cases y1 : 4 ≤ k ∧ k ≤ 19 ∧ k < 4 + j
      · rw [if_pos y1, if_pos (by omega)]
      · rw [if_neg y1, if_neg (show ¬ (4 ≤ k ∧ k ≤ 19 ∧ k < 4 + (j + 1)) by omega)]
        by_cases y2 : 23 ≤ k ∧ k ≤ 27 ∧ k < 7 + j
        · rw [if_pos y2, if_pos (by omega)]
        · rw [if_neg y2, if_neg (show ¬ (23 ≤ k ∧ k ≤ 27 ∧ k < 7 + (j + 1)) by omega)]
          by_cases y3 : 29 ≤ k ∧ k ≤ 40 ∧ k < 8 + j
          · rw [if_pos y3, if_pos (by omega)]
          · rw [if_neg y3, if_neg (by omega)]
  · rw [u2_ne (by omega)]
    unfold Rm
    rw [if_neg h1, if_neg h1]
theorem Rm_ch {R C : m_Rf} (h : C = Rm R 0) : m_up2 (m_up2 (m_up2 (m_up2 (m_up2 (m_up2 (m_up2 (m_up2 (m_up2 (m_up2 (m_up2 (m_up2 (m_up2 (m_up2 (m_up2 (m_up2 (m_up2 (m_up2 (m_up2 (m_up2 (m_up2 (m_up2 (m_up2 (m_up2 (m_up2 (m_up2 (m_up2 (m_up2 (m_up2 (m_up2 (m_up2 (m_up2 (m_up2 (C) 143 4 (some 144)) 143 5 (some 145)) 143 6 (some 146)) 143 7 (some 147)) 143 8 (some 148)) 143 9 (some 149)) 143 10 (some 150)) 143 11 (some 151)) 143 12 (some 152)) 143 13 (some 153)) 143 14 (some 154)) 143 15 (some 155)) 143 16 (some 156)) 143 17 (some 157)) 143 18 (some 158)) 143 19 (some 159)) 143 23 (some 160)) 143 24 (some 161)) 143 25 (some 162)) 143 26 (some 163)) 143 27 (some 164)) 143 29 (some 165)) 143 30 (some 166)) 143 31 (some 167)) 143 32 (some 168)) 143 33 (some 169)) 143 34 (some 170)) 143 35 (some 171)) 143 36 (some 172)) 143 37 (some 173)) 143 38 (some 174)) 143 39 (some 175)) 143 40 (some 176) = Rm R 33 := by
  rw [h]
  rw [Rm_st (R := R) (j := 0) (k0 := 4) (a := 144) (by omega)]
  rw [Rm_st (R := R) (j := 1) (k0 := 5) (a := 145) (by omega)]
  rw [Rm_st (R := R) (j := 2) (k0 := 6) (a := 146) (by omega)]
  rw [Rm_st (R := R) (j := 3) (k0 := 7) (a := 147) (by omega)]
  rw [Rm_st (R := R) (j := 4) (k0 := 8) (a := 148) (by omega)]
  rw [Rm_st (R := R) (j := 5) (k0 := 9) (a := 149) (by omega)]
  rw [Rm_st (R := R) (j := 6) (k0 := 10) (a := 150) (by omega)]
  rw [Rm_st (R := R) (j := 7) (k0 := 11) (a := 151) (by omega)]
  rw [Rm_st (R := R) (j := 8) (k0 := 12) (a := 152) (by omega)]
  rw [Rm_st (R := R) (j := 9) (k0 := 13) (a := 153) (by omega)]
  rw [Rm_st (R := R) (j := 10) (k0 := 14) (a := 154) (by omega)]
  rw [Rm_st (R := R) (j := 11) (k0 := 15) (a := 155) (by omega)]
  rw [Rm_st (R := R) (j := 12) (k0 := 16) (a := 156) (by omega)]
  rw [Rm_st (R := R) (j := 13) (k0 := 17) (a := 157) (by omega)]
  rw [Rm_st (R := R) (j := 14) (k0 := 18) (a := 158) (by omega)]
  rw [Rm_st (R := R) (j := 15) (k0 := 19) (a := 159) (by omega)]
  rw [Rm_st (R := R) (j := 16) (k0 := 23) (a := 160) (by omega)]
  rw [Rm_st (R := R) (j := 17) (k0 := 24) (a := 161) (by omega)]
  rw [Rm_st (R := R) (j := 18) (k0 := 25) (a := 162) (by omega)]
  rw [Rm_st (R := R) (j := 19) (k0 := 26) (a := 163) (by omega)]
  rw [Rm_st (R := R) (j := 20) (k0 := 27) (a := 164) (by omega)]
  rw [Rm_st (R := R) (j := 21) (k0 := 29) (a := 165) (by omega)]
  rw [Rm_st (R := R) (j := 22) (k0 := 30) (a := 166) (by omega)]
  rw [Rm_st (R := R) (j := 23) (k0 := 31) (a := 167) (by omega)]
  rw [Rm_st (R := R) (j := 24) (k0 := 32) (a := 168) (by omega)]
  rw [Rm_st (R := R) (j := 25) (k0 := 33) (a := 169) (by omega)]
  rw [Rm_st (R := R) (j := 26) (k0 := 34) (a := 170) (by omega)]
  rw [Rm_st (R := R) (j := 27) (k0 := 35) (a := 171) (by omega)]
  rw [Rm_st (R := R) (j := 28) (k0 := 36) (a := 172) (by omega)]
  rw [Rm_st (R := R) (j := 29) (k0 := 37) (a := 173) (by omega)]
  rw [Rm_st (R := R) (j := 30) (k0 := 38) (a := 174) (by omega)]
  rw [Rm_st (R := R) (j := 31) (k0 := 39) (a := 175) (by omega)]
  rw [Rm_st (R := R) (j := 32) (k0 := 40) (a := 176) (by omega)]
theorem rf_143 {k : Nat} : rf0 143 k = if 4 ≤ k ∧ k ≤ 19 ∧ k < 4 + 33 then some (k + 140) else if 23 ≤ k ∧ k ≤ 27 ∧ k < 7 + 33 then some (k + 137) else if 29 ≤ k ∧ k ≤ 40 ∧ k < 8 + 33 then some (k + 136) else none := by
  rw [rf_A (by omega) (by omega) (by omega) (by omega)]
  by_cases h : k < 41
  · exact (show ∀ k, k < 41 → rfA 143 k = if 4 ≤ k ∧ k ≤ 19 ∧ k < 4 + 33 then some (k + 140) else if 23 ≤ k ∧ k ≤ 27 ∧ k < 7 + 33 then some (k + 137) else if 29 ≤ k ∧ k ≤ 40 ∧ k < 8 + 33 then some (k + 136) else none by decide +kernel) k h
  · rw [if_neg (by omega), if_neg (by omega), if_neg (by omega)]
    obtain ⟨j, rfl⟩ : ∃ j, k = j + 41 := ⟨k - 41, by omega⟩
    rfl
theorem rf_ar {i k : Nat} (h : 144 ≤ i) : rf0 i k = none := by
  rw [rf_A (by omega) (by omega) (by omega) (by omega)]
  obtain ⟨j, rfl⟩ : ∃ j, i = j + 144 := ⟨i - 144, by omega⟩
  rfl
theorem Rm_33 {R : m_Rf} (h : ∀ i k, 143 ≤ i → R i k = none) : Rm R 33 = pR R 143 177 := by
  funext i k
  unfold Rm pR
  by_cases h1 : i = 143
  · subst h1
    rw [if_pos rfl, show (if 143 ≤ 143 ∧ 143 < 177 then rf0 143 k else R 143 k) = rf0 143 k from if_pos (by omega), rf_143]
  · rw [if_neg h1]
    by_cases h2 : 143 ≤ i ∧ i < 177
    · rw [if_pos h2, rf_ar (by omega)]
      exact h i k h2.1
    · rw [if_neg h2]
def s1I (I : m_I) (s : Nat) : m_I := fun i k => if i = 168 ∧ k < s then nI 480 else if i = 169 ∧ k < s then nI 360 else if i = 170 ∧ k < s then nI 1080 else I i k
theorem s1I_0 {I : m_I} : I = s1I I 0 := by
  funext i k
  unfold s1I
  rw [if_neg (by omega), if_neg (by omega), if_neg (by omega)]
theorem s1I_st {I : m_I} {s : Nat} : m_up2 (m_up2 (m_up2 (s1I I s) 168 s (nI 480)) 169 s (nI 360)) 170 s (nI 1080) = s1I I (s + 1) := by
  funext i k
  by_cases h3 : i = 170 ∧ k = s
  · rw [h3.1, h3.2, u2_eq]
    unfold s1I
    rw [if_neg (by omega), if_neg (by omega), if_pos (by omega)]
  · rw [u2_ne h3]
    by_cases h2 : i = 169 ∧ k = s
    · rw [h2.1, h2.2, u2_eq]
      unfold s1I
      rw [if_neg (by omega), if_pos (by omega)]
    · rw [u2_ne h2]
      by_cases h1 : i = 168 ∧ k = s
      · rw [h1.1, h1.2, u2_eq]
        unfold s1I
        rw [if_pos (by omega)]
      · rw [u2_ne h1]
        unfold s1I
        by_cases y1 : i = 168 ∧ k < s
        · rw [if_pos y1, if_pos (by omega)]
        · rw [if_neg y1, if_neg (show ¬ (i = 168 ∧ k < s + 1) by omega)]
          by_cases y2 : i = 169 ∧ k < s
          · rw [if_pos y2, if_pos (by omega)]
          · rw [if_neg y2, if_neg (show ¬ (i = 169 ∧ k < s + 1) by omega)]
            by_cases y3 : i = 170 ∧ k < s
            · rw [if_pos y3, if_pos (by omega)]
            · rw [if_neg y3, if_neg (by omega)]
def s2I (I : m_I) (s : Nat) : m_I := fun i k => if i = 167 ∧ k < s then nI 60 else I i k
theorem s2I_0 {I : m_I} : I = s2I I 0 := by
  funext i k
  unfold s2I
  rw [if_neg (by omega)]
theorem s2I_st {I : m_I} {s : Nat} : m_up2 (s2I I s) 167 s (nI 60) = s2I I (s + 1) := by
  funext i k
  by_cases h1 : i = 167 ∧ k = s
  · rw [h1.1, h1.2, u2_eq]
    unfold s2I
    rw [if_pos (by omega)]
  · rw [u2_ne h1]
    unfold s2I
    by_cases y1 : i = 167 ∧ k < s
    · rw [if_pos y1, if_pos (by omega)]
    · rw [if_neg y1, if_neg (by omega)]
theorem sI_end {I : m_I} (h : ∀ i k, 143 ≤ i → I i k = 0) : s2I (s1I I 30) 36 = pI I 143 177 := by
  funext i k
  unfold s2I s1I pI
  by_cases h1 : 143 ≤ i ∧ i < 177
  · rw [show (if 143 ≤ i ∧ i < 177 then iv0 i k else I i k) = iv0 i k from if_pos h1]
    unfold iv0
    rw [if_neg (show ¬ (5 ≤ i ∧ i < 65) by omega), if_neg (show ¬ i = 71 by omega), if_neg (show ¬ (80 ≤ i ∧ i < 140) by omega)]
    by_cases a1 : i = 167
    · rw [if_pos a1]
      by_cases b1 : k < 36
      · rw [if_pos b1, if_pos ⟨a1, b1⟩]
      · rw [if_neg b1, if_neg (by omega), if_neg (by omega), if_neg (by omega), if_neg (by omega)]
        exact h i k h1.1
    · rw [if_neg (show ¬ (i = 167 ∧ k < 36) by omega), if_neg a1]
      by_cases a2 : i = 168
      · rw [if_pos a2]
        by_cases b1 : k < 30
        · rw [if_pos b1, if_pos ⟨a2, b1⟩]
        · rw [if_neg b1, if_neg (by omega), if_neg (by omega), if_neg (by omega)]
          exact h i k h1.1
      · rw [if_neg (show ¬ (i = 168 ∧ k < 30) by omega), if_neg a2]
        by_cases a3 : i = 169
        · rw [if_pos a3]
          by_cases b1 : k < 30
          · rw [if_pos b1, if_pos ⟨a3, b1⟩]
          · rw [if_neg b1, if_neg (by omega), if_neg (by omega)]
            exact h i k h1.1
        · rw [if_neg (show ¬ (i = 169 ∧ k < 30) by omega), if_neg a3]
          by_cases a4 : i = 170
          · rw [if_pos a4]
            by_cases b1 : k < 30
            · rw [if_pos b1, if_pos ⟨a4, b1⟩]
            · rw [if_neg b1, if_neg (by omega)]
              exact h i k h1.1
          · rw [if_neg (show ¬ (i = 170 ∧ k < 30) by omega), if_neg a4]
            exact h i k h1.1
  · rw [if_neg (by omega), if_neg (by omega), if_neg (by omega), if_neg (by omega), if_neg h1]
theorem Zz_s1 {n s : Nat} {I : m_I} {R : m_Rf} (h : Zz n I R) (hn : 170 < n) : Zz n (s1I I s) R := by
  refine ⟨fun i k hi => ⟨?_, (h.1 i k hi).2⟩, h.2⟩
  unfold s1I
  rw [if_neg (by omega), if_neg (by omega), if_neg (by omega)]
  exact (h.1 i k hi).1
theorem Zz_s2 {n s : Nat} {I : m_I} {R : m_Rf} (h : Zz n I R) (hn : 170 < n) : Zz n (s2I I s) R := by
  refine ⟨fun i k hi => ⟨?_, (h.1 i k hi).2⟩, h.2⟩
  unfold s2I
  rw [if_neg (by omega)]
  exact (h.1 i k hi).1
theorem Zz_Rm {I : m_I} {R : m_Rf} (h : Zz 143 I R) : Zz 177 I (Rm R 33) := by
  refine ⟨fun i k hi => ⟨(h.1 i k (by omega)).1, ?_⟩, fun i k a e => ?_⟩
  · unfold Rm
    rw [if_neg (by omega)]
    exact (h.1 i k (by omega)).2
  · unfold Rm at e
    by_cases h1 : i = 143
    · rw [if_pos h1] at e
      by_cases y1 : 4 ≤ k ∧ k ≤ 19 ∧ k < 4 + 33
      · rw [if_pos y1] at e
        have := Option.some.inj e
        omega
      · rw [if_neg y1] at e
        by_cases y2 : 23 ≤ k ∧ k ≤ 27 ∧ k < 7 + 33
        · rw [if_pos y2] at e
          have := Option.some.inj e
          omega
        · rw [if_neg y2] at e
          by_cases y3 : 29 ≤ k ∧ k ≤ 40 ∧ k < 8 + 33
          · rw [if_pos y3] at e
            have := Option.some.inj e
            omega
          · rw [if_neg y3] at e
            cases e
    · rw [if_neg h1] at e
      have := h.2 i k a e
      omega
theorem b_X11 {S : m_S} {I : m_I} {R : m_Rf} {d : Nat} (hd : 4 ≤ d) (hz : Zz 143 I R) : m_RR S M_X11_init d [.ref 143] (hq 144 I R) none (hq 177 (pI I 143 177) (pR R 143 177)) 33 916 ∧ Zz 177 (pI I 143 177) (pR R 143 177) := by
  have hI1 : ∀ i k, 143 ≤ i → I i k = 0 := fun i k h => (hz.1 i k h).1
  have hR1 : ∀ i k, 143 ≤ i → R i k = none := fun i k h => (hz.1 i k h).2
  have hzR := Zz_Rm hz
  have hz2 := Zz_s2 (s := 36) (Zz_s1 (s := 30) hzR (by omega)) (by omega)
  rw [sI_end hI1, Rm_33 hR1] at hz2
  refine ⟨?_, hz2⟩
  have g1 : Rm R 33 143 32 = some 168 := rfl
  have g2 : Rm R 33 143 33 = some 169 := rfl
  have g3 : Rm R 33 143 34 = some 170 := rfl
  have g4 : Rm R 33 143 31 = some 167 := rfl
  have loop2 : ∀ (q s : Nat), s ≤ 36 → 36 - s < q → ∀ rc rs, m_W S (M_X11_init, d, fun w g => w = none ∧ g = hq 177 (pI I 143 177) (pR R 143 177), fun _ _ => False) 311 [some (.ref 143), some (.int (nI s))] [] (hq 177 (s2I (s1I I 30) s) (Rm R 33)) rc rs := by
    intro q
    induction q with
    | zero => exact fun s _ h => absurd h (Nat.not_lt_zero _)
    | succ q ih =>
      intro s hs hq rc rs
      have hz := Zz_s2 (s := s) (Zz_s1 (s := 30) hzR (by omega)) (by omega)
      refine ms_iload_n dX11_init_311 rfl ?_
      refine ms_bipush (v := nI 36) dX11_init_312 (by decide) ?_
      refine n_icmp_ge (tgt := 331) dX11_init_314 (by decide) (by omega) (by omega) (fun c314 => ?_) (fun c314 => ?_)
      · obtain rfl : s = 36 := by omega
        refine ms_vret dX11_init_331 rfl rfl ⟨rfl, ?_⟩
        rw [sI_end hI1, Rm_33 hR1]
      · refine ms_aload_n dX11_init_317 rfl ?_
        refine p_getr dX11_init_318 fX11_80 kd_11_31 (by omega) (by first | rfl | assumption) (g4) ?_
        refine ms_iload_n dX11_init_321 rfl ?_
        refine ms_bipush (v := nI 60) dX11_init_322 (by decide) ?_
        refine p_iast dX11_init_324 hz (by omega) (by first | rfl | assumption) (by omega) (by omega) (fun hz => ?_)
        rw [s2I_st]
        refine n_iinc dX11_init_325 rfl ?_
        refine ms_goto (tgt := 311) dX11_init_328 (by decide) ?_
        exact ih (s + 1) (by omega) (by omega) _ _
  have loop1 : ∀ (q s : Nat), s ≤ 30 → 30 - s < q → ∀ rc rs, m_W S (M_X11_init, d, fun w g => w = none ∧ g = hq 177 (pI I 143 177) (pR R 143 177), fun _ _ => False) 270 [some (.ref 143), some (.int (nI s))] [] (hq 177 (s1I I s) (Rm R 33)) rc rs := by
    intro q
    induction q with
    | zero => exact fun s _ h => absurd h (Nat.not_lt_zero _)
    | succ q ih =>
      intro s hs hq rc rs
      have hz := Zz_s1 (s := s) hzR (by omega)
      refine ms_iload_n dX11_init_270 rfl ?_
      refine ms_bipush (v := nI 30) dX11_init_271 (by decide) ?_
      refine n_icmp_ge (tgt := 309) dX11_init_273 (by decide) (by omega) (by omega) (fun c273 => ?_) (fun c273 => ?_)
      · obtain rfl : s = 30 := by omega
        have h9 := loop2 37 0 (by omega) (by omega)
        rw [← s2I_0] at h9
        refine ms_iconst (v := nI 0) dX11_init_309 (by decide) ?_
        refine ms_istore_n dX11_init_310 (Nat.le_of_ble_eq_true rfl) ?_
        exact h9 _ _
      · refine ms_aload_n dX11_init_276 rfl ?_
        refine p_getr dX11_init_277 fX11_83 kd_11_32 (by omega) (by first | rfl | assumption) (g1) ?_
        refine ms_iload_n dX11_init_280 rfl ?_
        refine ms_sipush (v := nI 480) dX11_init_281 (by decide) ?_
        refine p_iast dX11_init_284 hz (by omega) (by first | rfl | assumption) (by omega) (by omega) (fun hz => ?_)
        refine ms_aload_n dX11_init_285 rfl ?_
        refine p_getr dX11_init_286 fX11_86 kd_11_33 (by omega) (by first | rfl | assumption) (g2) ?_
        refine ms_iload_n dX11_init_289 rfl ?_
        refine ms_sipush (v := nI 360) dX11_init_290 (by decide) ?_
        refine p_iast dX11_init_293 hz (by omega) (by first | rfl | assumption) (by omega) (by omega) (fun hz => ?_)
        refine ms_aload_n dX11_init_294 rfl ?_
        refine p_getr dX11_init_295 fX11_89 kd_11_34 (by omega) (by first | rfl | assumption) (g3) ?_
        refine ms_iload_n dX11_init_298 rfl ?_
        refine ms_sipush (v := nI 1080) dX11_init_299 (by decide) ?_
        refine p_iast dX11_init_302 hz (by omega) (by first | rfl | assumption) (by omega) (by omega) (fun hz => ?_)
        rw [s1I_st]
        refine n_iinc dX11_init_303 rfl ?_
        refine ms_goto (tgt := 270) dX11_init_306 (by decide) ?_
        exact ih (s + 1) (by omega) (by omega) _ _
  have h9 := loop1 31 0 (by omega) (by omega)
  rw [← s1I_0, ← Rm_ch (Rm_0 (fun k => hR1 143 k (Nat.le_refl _)))] at h9
  have hz := Zz_mono hz (Nat.le_succ 143)
  refine ms_aload_n dX11_init_0 rfl ?_
  refine ms_obj dX11_init_1 oX11_1 oi1 oi2 (by show 1 ≤ d; omega) (Nat.le_of_ble_eq_true rfl) ?_
  refine ms_aload_n dX11_init_4 rfl ?_
  refine ms_bipush (v := nI 20) dX11_init_5 (by decide) ?_
  refine p_newI dX11_init_7 hz (by omega) (by first | rfl | (simp [lvA, lvb, lvc]; done) | (simp [lvA, lvb, lvc]; omega) | (simp [lvA, lvb, lvc, m_L0]; done) | (simp [lvA, lvb, lvc, m_L0]; omega)) (by first | rfl | (simp [lvA, lvb, lvc]; done) | (simp [lvA, lvb, lvc]; omega) | (simp [lvA, lvb, lvc, m_L0]; done) | (simp [lvA, lvb, lvc, m_L0]; omega)) (by first | rfl | assumption) (by omega) (by omega) (by omega) (fun hz => ?_)
  refine p_putr dX11_init_9 fX11_7 pX11_11_4 kd_11_4 hz (by omega) (by first | rfl | assumption) (by omega) rfl (fun hz => ?_)
  refine ms_aload_n dX11_init_12 rfl ?_
  refine ms_bipush (v := nI 20) dX11_init_13 (by decide) ?_
  refine p_newI dX11_init_15 hz (by omega) (by first | rfl | (simp [lvA, lvb, lvc]; done) | (simp [lvA, lvb, lvc]; omega) | (simp [lvA, lvb, lvc, m_L0]; done) | (simp [lvA, lvb, lvc, m_L0]; omega)) (by first | rfl | (simp [lvA, lvb, lvc]; done) | (simp [lvA, lvb, lvc]; omega) | (simp [lvA, lvb, lvc, m_L0]; done) | (simp [lvA, lvb, lvc, m_L0]; omega)) (by first | rfl | assumption) (by omega) (by omega) (by omega) (fun hz => ?_)
  refine p_putr dX11_init_17 fX11_13 pX11_11_5 kd_11_5 hz (by omega) (by first | rfl | assumption) (by omega) rfl (fun hz => ?_)
  refine ms_aload_n dX11_init_20 rfl ?_
  refine ms_bipush (v := nI 20) dX11_init_21 (by decide) ?_
  refine p_newI dX11_init_23 hz (by omega) (by first | rfl | (simp [lvA, lvb, lvc]; done) | (simp [lvA, lvb, lvc]; omega) | (simp [lvA, lvb, lvc, m_L0]; done) | (simp [lvA, lvb, lvc, m_L0]; omega)) (by first | rfl | (simp [lvA, lvb, lvc]; done) | (simp [lvA, lvb, lvc]; omega) | (simp [lvA, lvb, lvc, m_L0]; done) | (simp [lvA, lvb, lvc, m_L0]; omega)) (by first | rfl | assumption) (by omega) (by omega) (by omega) (fun hz => ?_)
  refine p_putr dX11_init_25 fX11_16 pX11_11_6 kd_11_6 hz (by omega) (by first | rfl | assumption) (by omega) rfl (fun hz => ?_)
  refine ms_aload_n dX11_init_28 rfl ?_
  refine ms_bipush (v := nI 20) dX11_init_29 (by decide) ?_
  refine p_newI dX11_init_31 hz (by omega) (by first | rfl | (simp [lvA, lvb, lvc]; done) | (simp [lvA, lvb, lvc]; omega) | (simp [lvA, lvb, lvc, m_L0]; done) | (simp [lvA, lvb, lvc, m_L0]; omega)) (by first | rfl | (simp [lvA, lvb, lvc]; done) | (simp [lvA, lvb, lvc]; omega) | (simp [lvA, lvb, lvc, m_L0]; done) | (simp [lvA, lvb, lvc, m_L0]; omega)) (by first | rfl | assumption) (by omega) (by omega) (by omega) (fun hz => ?_)
  refine p_putr dX11_init_33 fX11_19 pX11_11_7 kd_11_7 hz (by omega) (by first | rfl | assumption) (by omega) rfl (fun hz => ?_)
  refine ms_aload_n dX11_init_36 rfl ?_
  refine ms_bipush (v := nI 20) dX11_init_37 (by decide) ?_
  refine p_newZ dX11_init_39 hz (by omega) (by first | rfl | (simp [lvA, lvb, lvc]; done) | (simp [lvA, lvb, lvc]; omega) | (simp [lvA, lvb, lvc, m_L0]; done) | (simp [lvA, lvb, lvc, m_L0]; omega)) (by first | rfl | (simp [lvA, lvb, lvc]; done) | (simp [lvA, lvb, lvc]; omega) | (simp [lvA, lvb, lvc, m_L0]; done) | (simp [lvA, lvb, lvc, m_L0]; omega)) (by first | rfl | assumption) (by omega) (by omega) (by omega) (fun hz => ?_)
  refine p_putr dX11_init_41 fX11_22 pX11_11_8 kd_11_8 hz (by omega) (by first | rfl | assumption) (by omega) rfl (fun hz => ?_)
  refine ms_aload_n dX11_init_44 rfl ?_
  refine ms_bipush (v := nI 20) dX11_init_45 (by decide) ?_
  refine p_newZ dX11_init_47 hz (by omega) (by first | rfl | (simp [lvA, lvb, lvc]; done) | (simp [lvA, lvb, lvc]; omega) | (simp [lvA, lvb, lvc, m_L0]; done) | (simp [lvA, lvb, lvc, m_L0]; omega)) (by first | rfl | (simp [lvA, lvb, lvc]; done) | (simp [lvA, lvb, lvc]; omega) | (simp [lvA, lvb, lvc, m_L0]; done) | (simp [lvA, lvb, lvc, m_L0]; omega)) (by first | rfl | assumption) (by omega) (by omega) (by omega) (fun hz => ?_)
  refine p_putr dX11_init_49 fX11_26 pX11_11_9 kd_11_9 hz (by omega) (by first | rfl | assumption) (by omega) rfl (fun hz => ?_)
  refine ms_aload_n dX11_init_52 rfl ?_
  refine ms_bipush (v := nI 20) dX11_init_53 (by decide) ?_
  refine p_newI dX11_init_55 hz (by omega) (by first | rfl | (simp [lvA, lvb, lvc]; done) | (simp [lvA, lvb, lvc]; omega) | (simp [lvA, lvb, lvc, m_L0]; done) | (simp [lvA, lvb, lvc, m_L0]; omega)) (by first | rfl | (simp [lvA, lvb, lvc]; done) | (simp [lvA, lvb, lvc]; omega) | (simp [lvA, lvb, lvc, m_L0]; done) | (simp [lvA, lvb, lvc, m_L0]; omega)) (by first | rfl | assumption) (by omega) (by omega) (by omega) (fun hz => ?_)
  refine p_putr dX11_init_57 fX11_29 pX11_11_10 kd_11_10 hz (by omega) (by first | rfl | assumption) (by omega) rfl (fun hz => ?_)
  refine ms_aload_n dX11_init_60 rfl ?_
  refine ms_bipush (v := nI 20) dX11_init_61 (by decide) ?_
  refine p_newI dX11_init_63 hz (by omega) (by first | rfl | (simp [lvA, lvb, lvc]; done) | (simp [lvA, lvb, lvc]; omega) | (simp [lvA, lvb, lvc, m_L0]; done) | (simp [lvA, lvb, lvc, m_L0]; omega)) (by first | rfl | (simp [lvA, lvb, lvc]; done) | (simp [lvA, lvb, lvc]; omega) | (simp [lvA, lvb, lvc, m_L0]; done) | (simp [lvA, lvb, lvc, m_L0]; omega)) (by first | rfl | assumption) (by omega) (by omega) (by omega) (fun hz => ?_)
  refine p_putr dX11_init_65 fX11_32 pX11_11_11 kd_11_11 hz (by omega) (by first | rfl | assumption) (by omega) rfl (fun hz => ?_)
  refine ms_aload_n dX11_init_68 rfl ?_
  refine ms_bipush (v := nI 80) dX11_init_69 (by decide) ?_
  refine p_newI dX11_init_71 hz (by omega) (by first | rfl | (simp [lvA, lvb, lvc]; done) | (simp [lvA, lvb, lvc]; omega) | (simp [lvA, lvb, lvc, m_L0]; done) | (simp [lvA, lvb, lvc, m_L0]; omega)) (by first | rfl | (simp [lvA, lvb, lvc]; done) | (simp [lvA, lvb, lvc]; omega) | (simp [lvA, lvb, lvc, m_L0]; done) | (simp [lvA, lvb, lvc, m_L0]; omega)) (by first | rfl | assumption) (by omega) (by omega) (by omega) (fun hz => ?_)
  refine p_putr dX11_init_73 fX11_35 pX11_11_12 kd_11_12 hz (by omega) (by first | rfl | assumption) (by omega) rfl (fun hz => ?_)
  refine ms_aload_n dX11_init_76 rfl ?_
  refine ms_bipush (v := nI 80) dX11_init_77 (by decide) ?_
  refine p_newI dX11_init_79 hz (by omega) (by first | rfl | (simp [lvA, lvb, lvc]; done) | (simp [lvA, lvb, lvc]; omega) | (simp [lvA, lvb, lvc, m_L0]; done) | (simp [lvA, lvb, lvc, m_L0]; omega)) (by first | rfl | (simp [lvA, lvb, lvc]; done) | (simp [lvA, lvb, lvc]; omega) | (simp [lvA, lvb, lvc, m_L0]; done) | (simp [lvA, lvb, lvc, m_L0]; omega)) (by first | rfl | assumption) (by omega) (by omega) (by omega) (fun hz => ?_)
  refine p_putr dX11_init_81 fX11_38 pX11_11_13 kd_11_13 hz (by omega) (by first | rfl | assumption) (by omega) rfl (fun hz => ?_)
  refine ms_aload_n dX11_init_84 rfl ?_
  refine ms_bipush (v := nI 20) dX11_init_85 (by decide) ?_
  refine p_newI dX11_init_87 hz (by omega) (by first | rfl | (simp [lvA, lvb, lvc]; done) | (simp [lvA, lvb, lvc]; omega) | (simp [lvA, lvb, lvc, m_L0]; done) | (simp [lvA, lvb, lvc, m_L0]; omega)) (by first | rfl | (simp [lvA, lvb, lvc]; done) | (simp [lvA, lvb, lvc]; omega) | (simp [lvA, lvb, lvc, m_L0]; done) | (simp [lvA, lvb, lvc, m_L0]; omega)) (by first | rfl | assumption) (by omega) (by omega) (by omega) (fun hz => ?_)
  refine p_putr dX11_init_89 fX11_41 pX11_11_14 kd_11_14 hz (by omega) (by first | rfl | assumption) (by omega) rfl (fun hz => ?_)
  refine ms_aload_n dX11_init_92 rfl ?_
  refine ms_bipush (v := nI 20) dX11_init_93 (by decide) ?_
  refine p_newZ dX11_init_95 hz (by omega) (by first | rfl | (simp [lvA, lvb, lvc]; done) | (simp [lvA, lvb, lvc]; omega) | (simp [lvA, lvb, lvc, m_L0]; done) | (simp [lvA, lvb, lvc, m_L0]; omega)) (by first | rfl | (simp [lvA, lvb, lvc]; done) | (simp [lvA, lvb, lvc]; omega) | (simp [lvA, lvb, lvc, m_L0]; done) | (simp [lvA, lvb, lvc, m_L0]; omega)) (by first | rfl | assumption) (by omega) (by omega) (by omega) (fun hz => ?_)
  refine p_putr dX11_init_97 fX11_44 pX11_11_15 kd_11_15 hz (by omega) (by first | rfl | assumption) (by omega) rfl (fun hz => ?_)
  refine ms_aload_n dX11_init_100 rfl ?_
  refine ms_bipush (v := nI 20) dX11_init_101 (by decide) ?_
  refine p_newZ dX11_init_103 hz (by omega) (by first | rfl | (simp [lvA, lvb, lvc]; done) | (simp [lvA, lvb, lvc]; omega) | (simp [lvA, lvb, lvc, m_L0]; done) | (simp [lvA, lvb, lvc, m_L0]; omega)) (by first | rfl | (simp [lvA, lvb, lvc]; done) | (simp [lvA, lvb, lvc]; omega) | (simp [lvA, lvb, lvc, m_L0]; done) | (simp [lvA, lvb, lvc, m_L0]; omega)) (by first | rfl | assumption) (by omega) (by omega) (by omega) (fun hz => ?_)
  refine p_putr dX11_init_105 fX11_47 pX11_11_16 kd_11_16 hz (by omega) (by first | rfl | assumption) (by omega) rfl (fun hz => ?_)
  refine ms_aload_n dX11_init_108 rfl ?_
  refine ms_bipush (v := nI 20) dX11_init_109 (by decide) ?_
  refine p_newZ dX11_init_111 hz (by omega) (by first | rfl | (simp [lvA, lvb, lvc]; done) | (simp [lvA, lvb, lvc]; omega) | (simp [lvA, lvb, lvc, m_L0]; done) | (simp [lvA, lvb, lvc, m_L0]; omega)) (by first | rfl | (simp [lvA, lvb, lvc]; done) | (simp [lvA, lvb, lvc]; omega) | (simp [lvA, lvb, lvc, m_L0]; done) | (simp [lvA, lvb, lvc, m_L0]; omega)) (by first | rfl | assumption) (by omega) (by omega) (by omega) (fun hz => ?_)
  refine p_putr dX11_init_113 fX11_50 pX11_11_17 kd_11_17 hz (by omega) (by first | rfl | assumption) (by omega) rfl (fun hz => ?_)
  refine ms_aload_n dX11_init_116 rfl ?_
  refine ms_bipush (v := nI 20) dX11_init_117 (by decide) ?_
  refine p_newI dX11_init_119 hz (by omega) (by first | rfl | (simp [lvA, lvb, lvc]; done) | (simp [lvA, lvb, lvc]; omega) | (simp [lvA, lvb, lvc, m_L0]; done) | (simp [lvA, lvb, lvc, m_L0]; omega)) (by first | rfl | (simp [lvA, lvb, lvc]; done) | (simp [lvA, lvb, lvc]; omega) | (simp [lvA, lvb, lvc, m_L0]; done) | (simp [lvA, lvb, lvc, m_L0]; omega)) (by first | rfl | assumption) (by omega) (by omega) (by omega) (fun hz => ?_)
  refine p_putr dX11_init_121 fX11_53 pX11_11_18 kd_11_18 hz (by omega) (by first | rfl | assumption) (by omega) rfl (fun hz => ?_)
  refine ms_aload_n dX11_init_124 rfl ?_
  refine ms_bipush (v := nI 20) dX11_init_125 (by decide) ?_
  refine p_newI dX11_init_127 hz (by omega) (by first | rfl | (simp [lvA, lvb, lvc]; done) | (simp [lvA, lvb, lvc]; omega) | (simp [lvA, lvb, lvc, m_L0]; done) | (simp [lvA, lvb, lvc, m_L0]; omega)) (by first | rfl | (simp [lvA, lvb, lvc]; done) | (simp [lvA, lvb, lvc]; omega) | (simp [lvA, lvb, lvc, m_L0]; done) | (simp [lvA, lvb, lvc, m_L0]; omega)) (by first | rfl | assumption) (by omega) (by omega) (by omega) (fun hz => ?_)
  refine p_putr dX11_init_129 fX11_56 pX11_11_19 kd_11_19 hz (by omega) (by first | rfl | assumption) (by omega) rfl (fun hz => ?_)
  refine ms_aload_n dX11_init_132 rfl ?_
  refine ms_bipush (v := nI 8) dX11_init_133 (by decide) ?_
  refine p_newI dX11_init_135 hz (by omega) (by first | rfl | (simp [lvA, lvb, lvc]; done) | (simp [lvA, lvb, lvc]; omega) | (simp [lvA, lvb, lvc, m_L0]; done) | (simp [lvA, lvb, lvc, m_L0]; omega)) (by first | rfl | (simp [lvA, lvb, lvc]; done) | (simp [lvA, lvb, lvc]; omega) | (simp [lvA, lvb, lvc, m_L0]; done) | (simp [lvA, lvb, lvc, m_L0]; omega)) (by first | rfl | assumption) (by omega) (by omega) (by omega) (fun hz => ?_)
  refine p_putr dX11_init_137 fX11_59 pX11_11_23 kd_11_23 hz (by omega) (by first | rfl | assumption) (by omega) rfl (fun hz => ?_)
  refine ms_aload_n dX11_init_140 rfl ?_
  refine ms_bipush (v := nI 8) dX11_init_141 (by decide) ?_
  refine p_newI dX11_init_143 hz (by omega) (by first | rfl | (simp [lvA, lvb, lvc]; done) | (simp [lvA, lvb, lvc]; omega) | (simp [lvA, lvb, lvc, m_L0]; done) | (simp [lvA, lvb, lvc, m_L0]; omega)) (by first | rfl | (simp [lvA, lvb, lvc]; done) | (simp [lvA, lvb, lvc]; omega) | (simp [lvA, lvb, lvc, m_L0]; done) | (simp [lvA, lvb, lvc, m_L0]; omega)) (by first | rfl | assumption) (by omega) (by omega) (by omega) (fun hz => ?_)
  refine p_putr dX11_init_145 fX11_62 pX11_11_24 kd_11_24 hz (by omega) (by first | rfl | assumption) (by omega) rfl (fun hz => ?_)
  refine ms_aload_n dX11_init_148 rfl ?_
  refine ms_bipush (v := nI 8) dX11_init_149 (by decide) ?_
  refine p_newI dX11_init_151 hz (by omega) (by first | rfl | (simp [lvA, lvb, lvc]; done) | (simp [lvA, lvb, lvc]; omega) | (simp [lvA, lvb, lvc, m_L0]; done) | (simp [lvA, lvb, lvc, m_L0]; omega)) (by first | rfl | (simp [lvA, lvb, lvc]; done) | (simp [lvA, lvb, lvc]; omega) | (simp [lvA, lvb, lvc, m_L0]; done) | (simp [lvA, lvb, lvc, m_L0]; omega)) (by first | rfl | assumption) (by omega) (by omega) (by omega) (fun hz => ?_)
  refine p_putr dX11_init_153 fX11_65 pX11_11_25 kd_11_25 hz (by omega) (by first | rfl | assumption) (by omega) rfl (fun hz => ?_)
  refine ms_aload_n dX11_init_156 rfl ?_
  refine ms_bipush (v := nI 8) dX11_init_157 (by decide) ?_
  refine p_newZ dX11_init_159 hz (by omega) (by first | rfl | (simp [lvA, lvb, lvc]; done) | (simp [lvA, lvb, lvc]; omega) | (simp [lvA, lvb, lvc, m_L0]; done) | (simp [lvA, lvb, lvc, m_L0]; omega)) (by first | rfl | (simp [lvA, lvb, lvc]; done) | (simp [lvA, lvb, lvc]; omega) | (simp [lvA, lvb, lvc, m_L0]; done) | (simp [lvA, lvb, lvc, m_L0]; omega)) (by first | rfl | assumption) (by omega) (by omega) (by omega) (fun hz => ?_)
  refine p_putr dX11_init_161 fX11_68 pX11_11_26 kd_11_26 hz (by omega) (by first | rfl | assumption) (by omega) rfl (fun hz => ?_)
  refine ms_aload_n dX11_init_164 rfl ?_
  refine ms_bipush (v := nI 8) dX11_init_165 (by decide) ?_
  refine p_newI dX11_init_167 hz (by omega) (by first | rfl | (simp [lvA, lvb, lvc]; done) | (simp [lvA, lvb, lvc]; omega) | (simp [lvA, lvb, lvc, m_L0]; done) | (simp [lvA, lvb, lvc, m_L0]; omega)) (by first | rfl | (simp [lvA, lvb, lvc]; done) | (simp [lvA, lvb, lvc]; omega) | (simp [lvA, lvb, lvc, m_L0]; done) | (simp [lvA, lvb, lvc, m_L0]; omega)) (by first | rfl | assumption) (by omega) (by omega) (by omega) (fun hz => ?_)
  refine p_putr dX11_init_169 fX11_71 pX11_11_27 kd_11_27 hz (by omega) (by first | rfl | assumption) (by omega) rfl (fun hz => ?_)
  refine ms_aload_n dX11_init_172 rfl ?_
  refine ms_bipush (v := nI 6) dX11_init_173 (by decide) ?_
  refine p_newI dX11_init_175 hz (by omega) (by first | rfl | (simp [lvA, lvb, lvc]; done) | (simp [lvA, lvb, lvc]; omega) | (simp [lvA, lvb, lvc, m_L0]; done) | (simp [lvA, lvb, lvc, m_L0]; omega)) (by first | rfl | (simp [lvA, lvb, lvc]; done) | (simp [lvA, lvb, lvc]; omega) | (simp [lvA, lvb, lvc, m_L0]; done) | (simp [lvA, lvb, lvc, m_L0]; omega)) (by first | rfl | assumption) (by omega) (by omega) (by omega) (fun hz => ?_)
  refine p_putr dX11_init_177 fX11_74 pX11_11_29 kd_11_29 hz (by omega) (by first | rfl | assumption) (by omega) rfl (fun hz => ?_)
  refine ms_aload_n dX11_init_180 rfl ?_
  refine ms_bipush (v := nI 6) dX11_init_181 (by decide) ?_
  refine p_newI dX11_init_183 hz (by omega) (by first | rfl | (simp [lvA, lvb, lvc]; done) | (simp [lvA, lvb, lvc]; omega) | (simp [lvA, lvb, lvc, m_L0]; done) | (simp [lvA, lvb, lvc, m_L0]; omega)) (by first | rfl | (simp [lvA, lvb, lvc]; done) | (simp [lvA, lvb, lvc]; omega) | (simp [lvA, lvb, lvc, m_L0]; done) | (simp [lvA, lvb, lvc, m_L0]; omega)) (by first | rfl | assumption) (by omega) (by omega) (by omega) (fun hz => ?_)
  refine p_putr dX11_init_185 fX11_77 pX11_11_30 kd_11_30 hz (by omega) (by first | rfl | assumption) (by omega) rfl (fun hz => ?_)
  refine ms_aload_n dX11_init_188 rfl ?_
  refine ms_bipush (v := nI 36) dX11_init_189 (by decide) ?_
  refine p_newI dX11_init_191 hz (by omega) (by first | rfl | (simp [lvA, lvb, lvc]; done) | (simp [lvA, lvb, lvc]; omega) | (simp [lvA, lvb, lvc, m_L0]; done) | (simp [lvA, lvb, lvc, m_L0]; omega)) (by first | rfl | (simp [lvA, lvb, lvc]; done) | (simp [lvA, lvb, lvc]; omega) | (simp [lvA, lvb, lvc, m_L0]; done) | (simp [lvA, lvb, lvc, m_L0]; omega)) (by first | rfl | assumption) (by omega) (by omega) (by omega) (fun hz => ?_)
  refine p_putr dX11_init_193 fX11_80 pX11_11_31 kd_11_31 hz (by omega) (by first | rfl | assumption) (by omega) rfl (fun hz => ?_)
  refine ms_aload_n dX11_init_196 rfl ?_
  refine ms_bipush (v := nI 30) dX11_init_197 (by decide) ?_
  refine p_newI dX11_init_199 hz (by omega) (by first | rfl | (simp [lvA, lvb, lvc]; done) | (simp [lvA, lvb, lvc]; omega) | (simp [lvA, lvb, lvc, m_L0]; done) | (simp [lvA, lvb, lvc, m_L0]; omega)) (by first | rfl | (simp [lvA, lvb, lvc]; done) | (simp [lvA, lvb, lvc]; omega) | (simp [lvA, lvb, lvc, m_L0]; done) | (simp [lvA, lvb, lvc, m_L0]; omega)) (by first | rfl | assumption) (by omega) (by omega) (by omega) (fun hz => ?_)
  refine p_putr dX11_init_201 fX11_83 pX11_11_32 kd_11_32 hz (by omega) (by first | rfl | assumption) (by omega) rfl (fun hz => ?_)
  refine ms_aload_n dX11_init_204 rfl ?_
  refine ms_bipush (v := nI 30) dX11_init_205 (by decide) ?_
  refine p_newI dX11_init_207 hz (by omega) (by first | rfl | (simp [lvA, lvb, lvc]; done) | (simp [lvA, lvb, lvc]; omega) | (simp [lvA, lvb, lvc, m_L0]; done) | (simp [lvA, lvb, lvc, m_L0]; omega)) (by first | rfl | (simp [lvA, lvb, lvc]; done) | (simp [lvA, lvb, lvc]; omega) | (simp [lvA, lvb, lvc, m_L0]; done) | (simp [lvA, lvb, lvc, m_L0]; omega)) (by first | rfl | assumption) (by omega) (by omega) (by omega) (fun hz => ?_)
  refine p_putr dX11_init_209 fX11_86 pX11_11_33 kd_11_33 hz (by omega) (by first | rfl | assumption) (by omega) rfl (fun hz => ?_)
  refine ms_aload_n dX11_init_212 rfl ?_
  refine ms_bipush (v := nI 30) dX11_init_213 (by decide) ?_
  refine p_newI dX11_init_215 hz (by omega) (by first | rfl | (simp [lvA, lvb, lvc]; done) | (simp [lvA, lvb, lvc]; omega) | (simp [lvA, lvb, lvc, m_L0]; done) | (simp [lvA, lvb, lvc, m_L0]; omega)) (by first | rfl | (simp [lvA, lvb, lvc]; done) | (simp [lvA, lvb, lvc]; omega) | (simp [lvA, lvb, lvc, m_L0]; done) | (simp [lvA, lvb, lvc, m_L0]; omega)) (by first | rfl | assumption) (by omega) (by omega) (by omega) (fun hz => ?_)
  refine p_putr dX11_init_217 fX11_89 pX11_11_34 kd_11_34 hz (by omega) (by first | rfl | assumption) (by omega) rfl (fun hz => ?_)
  refine ms_aload_n dX11_init_220 rfl ?_
  refine ms_sipush (v := nI 240) dX11_init_221 (by decide) ?_
  refine p_newI dX11_init_224 hz (by omega) (by first | rfl | (simp [lvA, lvb, lvc]; done) | (simp [lvA, lvb, lvc]; omega) | (simp [lvA, lvb, lvc, m_L0]; done) | (simp [lvA, lvb, lvc, m_L0]; omega)) (by first | rfl | (simp [lvA, lvb, lvc]; done) | (simp [lvA, lvb, lvc]; omega) | (simp [lvA, lvb, lvc, m_L0]; done) | (simp [lvA, lvb, lvc, m_L0]; omega)) (by first | rfl | assumption) (by omega) (by omega) (by omega) (fun hz => ?_)
  refine p_putr dX11_init_226 fX11_92 pX11_11_35 kd_11_35 hz (by omega) (by first | rfl | assumption) (by omega) rfl (fun hz => ?_)
  refine ms_aload_n dX11_init_229 rfl ?_
  refine ms_bipush (v := nI 30) dX11_init_230 (by decide) ?_
  refine p_newI dX11_init_232 hz (by omega) (by first | rfl | (simp [lvA, lvb, lvc]; done) | (simp [lvA, lvb, lvc]; omega) | (simp [lvA, lvb, lvc, m_L0]; done) | (simp [lvA, lvb, lvc, m_L0]; omega)) (by first | rfl | (simp [lvA, lvb, lvc]; done) | (simp [lvA, lvb, lvc]; omega) | (simp [lvA, lvb, lvc, m_L0]; done) | (simp [lvA, lvb, lvc, m_L0]; omega)) (by first | rfl | assumption) (by omega) (by omega) (by omega) (fun hz => ?_)
  refine p_putr dX11_init_234 fX11_95 pX11_11_36 kd_11_36 hz (by omega) (by first | rfl | assumption) (by omega) rfl (fun hz => ?_)
  refine ms_aload_n dX11_init_237 rfl ?_
  refine ms_iconst (v := nI 4) dX11_init_238 (by decide) ?_
  refine p_newI dX11_init_239 hz (by omega) (by first | rfl | (simp [lvA, lvb, lvc]; done) | (simp [lvA, lvb, lvc]; omega) | (simp [lvA, lvb, lvc, m_L0]; done) | (simp [lvA, lvb, lvc, m_L0]; omega)) (by first | rfl | (simp [lvA, lvb, lvc]; done) | (simp [lvA, lvb, lvc]; omega) | (simp [lvA, lvb, lvc, m_L0]; done) | (simp [lvA, lvb, lvc, m_L0]; omega)) (by first | rfl | assumption) (by omega) (by omega) (by omega) (fun hz => ?_)
  refine p_putr dX11_init_241 fX11_98 pX11_11_37 kd_11_37 hz (by omega) (by first | rfl | assumption) (by omega) rfl (fun hz => ?_)
  refine ms_aload_n dX11_init_244 rfl ?_
  refine ms_bipush (v := nI 8) dX11_init_245 (by decide) ?_
  refine p_newI dX11_init_247 hz (by omega) (by first | rfl | (simp [lvA, lvb, lvc]; done) | (simp [lvA, lvb, lvc]; omega) | (simp [lvA, lvb, lvc, m_L0]; done) | (simp [lvA, lvb, lvc, m_L0]; omega)) (by first | rfl | (simp [lvA, lvb, lvc]; done) | (simp [lvA, lvb, lvc]; omega) | (simp [lvA, lvb, lvc, m_L0]; done) | (simp [lvA, lvb, lvc, m_L0]; omega)) (by first | rfl | assumption) (by omega) (by omega) (by omega) (fun hz => ?_)
  refine p_putr dX11_init_249 fX11_101 pX11_11_38 kd_11_38 hz (by omega) (by first | rfl | assumption) (by omega) rfl (fun hz => ?_)
  refine ms_aload_n dX11_init_252 rfl ?_
  refine ms_bipush (v := nI 8) dX11_init_253 (by decide) ?_
  refine p_newI dX11_init_255 hz (by omega) (by first | rfl | (simp [lvA, lvb, lvc]; done) | (simp [lvA, lvb, lvc]; omega) | (simp [lvA, lvb, lvc, m_L0]; done) | (simp [lvA, lvb, lvc, m_L0]; omega)) (by first | rfl | (simp [lvA, lvb, lvc]; done) | (simp [lvA, lvb, lvc]; omega) | (simp [lvA, lvb, lvc, m_L0]; done) | (simp [lvA, lvb, lvc, m_L0]; omega)) (by first | rfl | assumption) (by omega) (by omega) (by omega) (fun hz => ?_)
  refine p_putr dX11_init_257 fX11_104 pX11_11_39 kd_11_39 hz (by omega) (by first | rfl | assumption) (by omega) rfl (fun hz => ?_)
  refine ms_aload_n dX11_init_260 rfl ?_
  refine ms_bipush (v := nI 8) dX11_init_261 (by decide) ?_
  refine p_newI dX11_init_263 hz (by omega) (by first | rfl | (simp [lvA, lvb, lvc]; done) | (simp [lvA, lvb, lvc]; omega) | (simp [lvA, lvb, lvc, m_L0]; done) | (simp [lvA, lvb, lvc, m_L0]; omega)) (by first | rfl | (simp [lvA, lvb, lvc]; done) | (simp [lvA, lvb, lvc]; omega) | (simp [lvA, lvb, lvc, m_L0]; done) | (simp [lvA, lvb, lvc, m_L0]; omega)) (by first | rfl | assumption) (by omega) (by omega) (by omega) (fun hz => ?_)
  refine p_putr dX11_init_265 fX11_107 pX11_11_40 kd_11_40 hz (by omega) (by first | rfl | assumption) (by omega) rfl (fun hz => ?_)
  refine ms_iconst (v := nI 0) dX11_init_268 (by decide) ?_
  refine ms_istore_n dX11_init_269 (Nat.le_of_ble_eq_true rfl) ?_
  exact h9 _ _

