-- NAME whole
/-! the law's start, whole -/
def z0 : m_I := fun _ _ => 0
def r0 : m_Rf := fun _ _ => none
theorem Zz_00 : Zz 0 z0 r0 := ⟨fun _ _ _ => ⟨rfl, rfl⟩, fun _ _ _ e => by cases e⟩
theorem rfA_big {i j : Nat} : rfA i (j + 41) = none := by
  unfold rfA
  split <;> rfl
theorem rf_big {i k : Nat} (h : 41 ≤ k) : rf0 i k = none := by
  obtain ⟨j, rfl⟩ : ∃ j, k = j + 41 := ⟨k - 41, by omega⟩
  unfold rf0
  by_cases a1 : 5 ≤ i ∧ i < 65
  · rw [if_pos a1]
    by_cases a2 : (i - 5) % 3 = 0
    · rw [if_pos a2, if_neg (by omega), if_neg (by omega)]
    · rw [if_neg a2]
  · rw [if_neg a1]
    by_cases a3 : 80 ≤ i ∧ i < 140
    · rw [if_pos a3, if_neg (by omega)]
    · rw [if_neg a3]
      by_cases a4 : i = 2
      · rw [if_pos a4, if_neg (by omega)]
      · rw [if_neg a4]
        by_cases a5 : i = 74
        · rw [if_pos a5, if_neg (by omega)]
        · rw [if_neg a5]
          exact rfA_big
theorem R10_eq : m_up2 (m_up2 (m_up2 (m_up2 (m_up2 (m_up2 (m_up2 (m_up2 (m_up2 (m_up2 (pR (m_up2 (m_up2 (m_up2 (m_up2 (m_up2 (m_up2 (m_up2 (m_up2 (pR r0 1 65) 0 0 (some 1)) 65 0 (some 66)) 65 1 (some 67)) 65 2 (some 68)) 0 1 (some 65)) 69 0 (some 70)) 69 1 (some 71)) 0 2 (some 69)) 72 140) 0 3 (some 72)) 140 2 (some 141)) 140 0 (some 1)) 140 1 (some 72)) 0 4 (some 140)) 142 0 (some 1)) 142 1 (some 65)) 142 2 (some 69)) 142 3 (some 72)) 0 5 (some 142) = pR r0 0 143 := by
  funext i k
  by_cases h : i < 143 ∧ k < 41
  · exact (show ∀ i, i < 143 → ∀ k, k < 41 → (m_up2 (m_up2 (m_up2 (m_up2 (m_up2 (m_up2 (m_up2 (m_up2 (m_up2 (m_up2 (pR (m_up2 (m_up2 (m_up2 (m_up2 (m_up2 (m_up2 (m_up2 (m_up2 (pR r0 1 65) 0 0 (some 1)) 65 0 (some 66)) 65 1 (some 67)) 65 2 (some 68)) 0 1 (some 65)) 69 0 (some 70)) 69 1 (some 71)) 0 2 (some 69)) 72 140) 0 3 (some 72)) 140 2 (some 141)) 140 0 (some 1)) 140 1 (some 72)) 0 4 (some 140)) 142 0 (some 1)) 142 1 (some 65)) 142 2 (some 69)) 142 3 (some 72)) 0 5 (some 142)) i k = pR r0 0 143 i k by decide +kernel) i h.1 k h.2
  · have e1 : pR r0 0 143 i k = none := by
      unfold pR
      by_cases y : 0 ≤ i ∧ i < 143
      · rw [if_pos y]
        exact rf_big (by omega)
      · rw [if_neg y]
        rfl
    rw [e1]
    by_cases hk : 41 ≤ k
    · rw [u2_ne (by omega), u2_ne (by omega), u2_ne (by omega), u2_ne (by omega), u2_ne (by omega), u2_ne (by omega), u2_ne (by omega), u2_ne (by omega), u2_ne (by omega), u2_ne (by omega)]
      unfold pR
      by_cases y : 72 ≤ i ∧ i < 140
      · rw [if_pos y]
        exact rf_big hk
      · rw [if_neg y, u2_ne (by omega), u2_ne (by omega), u2_ne (by omega), u2_ne (by omega), u2_ne (by omega), u2_ne (by omega), u2_ne (by omega), u2_ne (by omega)]
        by_cases y2 : 1 ≤ i ∧ i < 65
        · rw [if_pos y2]
          exact rf_big hk
        · rw [if_neg y2]
          rfl
    · rw [u2_ne (by omega), u2_ne (by omega), u2_ne (by omega), u2_ne (by omega), u2_ne (by omega), u2_ne (by omega), u2_ne (by omega), u2_ne (by omega), u2_ne (by omega), u2_ne (by omega)]
      unfold pR
      rw [if_neg (by omega), u2_ne (by omega), u2_ne (by omega), u2_ne (by omega), u2_ne (by omega), u2_ne (by omega), u2_ne (by omega), u2_ne (by omega), u2_ne (by omega), if_neg (by omega)]
      rfl
theorem iv_71 {k : Nat} : iv0 71 k = if k < 36 then nI 60 else 0 := rfl
theorem I10_eq : pI (flI (pI z0 1 65) 71 36 (nI 60)) 72 140 = pI z0 0 143 := by
  funext i k
  by_cases h1 : 72 ≤ i ∧ i < 140
  · exact (show pI (flI (pI z0 1 65) 71 36 (nI 60)) 72 140 i k = iv0 i k from if_pos h1).trans (show pI z0 0 143 i k = iv0 i k from if_pos (by omega)).symm
  · refine (show pI (flI (pI z0 1 65) 71 36 (nI 60)) 72 140 i k = flI (pI z0 1 65) 71 36 (nI 60) i k from if_neg h1).trans ?_
    by_cases h2 : i = 71
    · subst h2
      rw [show pI z0 0 143 71 k = iv0 71 k from if_pos (by omega), iv_71]
      unfold flI
      by_cases h3 : k < 36
      · rw [if_pos ⟨rfl, h3⟩, if_pos h3]
      · rw [if_neg (by omega), if_neg h3]
        rfl
    · refine (show flI (pI z0 1 65) 71 36 (nI 60) i k = pI z0 1 65 i k from if_neg (by omega)).trans ?_
      by_cases h4 : 1 ≤ i ∧ i < 65
      · exact (show pI z0 1 65 i k = iv0 i k from if_pos h4).trans (show pI z0 0 143 i k = iv0 i k from if_pos (by omega)).symm
      · refine (show pI z0 1 65 i k = 0 from if_neg h4).trans ?_
        by_cases h5 : i < 143
        · exact ((show pI z0 0 143 i k = iv0 i k from if_pos (by omega)).trans (iv_z (by omega) h2 (by omega) (by omega))).symm
        · exact (show pI z0 0 143 i k = 0 from if_neg (by omega)).symm
theorem Z_X2 {I : m_I} {R : m_Rf} (hz : Zz 66 I R) : Zz 69 I (m_up2 (m_up2 (m_up2 R 65 0 (some 66)) 65 1 (some 67)) 65 2 (some 68)) := Zz_r (Zz_r (Zz_r (Zz_mono hz (by omega)) (by omega) (by omega)) (by omega) (by omega)) (by omega) (by omega)
theorem Z_X7 {I : m_I} {R : m_Rf} (hz : Zz 70 I R) : Zz 72 (flI I 71 36 (nI 60)) (m_up2 (m_up2 R 69 0 (some 70)) 69 1 (some 71)) := Zz_f (Zz_r (Zz_r (Zz_mono hz (by omega)) (by omega) (by omega)) (by omega) (by omega)) (by omega)
theorem Z_X4 {I : m_I} {R : m_Rf} (hz : Zz 141 I R) : Zz 142 I (m_up2 (m_up2 (m_up2 R 140 2 (some 141)) 140 0 (some 1)) 140 1 (some 72)) := Zz_r (Zz_r (Zz_r (Zz_mono hz (by omega)) (by omega) (by omega)) (by omega) (by omega)) (by omega) (by omega)
theorem Z_X6 {I : m_I} {R : m_Rf} (hz : Zz 143 I R) : Zz 143 I (m_up2 (m_up2 (m_up2 (m_up2 R 142 0 (some 1)) 142 1 (some 65)) 142 2 (some 69)) 142 3 (some 72)) := Zz_r (Zz_r (Zz_r (Zz_r hz (by omega) (by omega)) (by omega) (by omega)) (by omega) (by omega)) (by omega) (by omega)
theorem Z_10 : Zz 143 (pI z0 0 143) (pR r0 0 143) := by
  rw [← I10_eq, ← R10_eq]
  have h1 := (b_X9 (S := (0, fun _ => 0)) (d := 4) (Nat.le_refl _) (Zz_mono Zz_00 (Nat.zero_le 1))).2
  have h2 := Z_X2 (Zz_mono (Zz_r h1 (i := 0) (k := 0) (a := 1) (by omega) (by omega)) (Nat.le_succ 65))
  have h3 := Z_X7 (Zz_mono (Zz_r h2 (i := 0) (k := 1) (a := 65) (by omega) (by omega)) (Nat.le_succ 69))
  have h4 := (b_X0 (S := (0, fun _ => 0)) (d := 4) (Nat.le_refl _) (Zz_r h3 (i := 0) (k := 2) (a := 69) (by omega) (by omega))).2
  have h5 := Z_X4 (Zz_mono (Zz_r h4 (i := 0) (k := 3) (a := 72) (by omega) (by omega)) (Nat.le_succ 140))
  have h6 := Z_X6 (Zz_mono (Zz_r h5 (i := 0) (k := 4) (a := 140) (by omega) (by omega)) (Nat.le_succ 142))
  exact Zz_r h6 (i := 0) (k := 5) (a := 142) (by omega) (by omega)
theorem b_X10 {S : m_S} {d : Nat} (hd : 6 ≤ d) : m_RR S M_X10_init d [.ref 0] (hq 1 z0 r0) none (hq 143 (pI z0 0 143) (pR r0 0 143)) 142 1148 := by
  have hz := Zz_mono Zz_00 (Nat.zero_le 1)
  have hA := hz
  refine ms_aload_n dX10_init_0 rfl ?_
  refine ms_obj dX10_init_1 oX10_1 oi1 oi2 (by show 1 ≤ d; omega) (Nat.le_of_ble_eq_true rfl) ?_
  refine ms_aload_n dX10_init_4 rfl ?_
  refine p_new 5 dX10_init_5 hz (by omega) (by first | rfl | (simp [lvA, lvb, lvc]; done) | (simp [lvA, lvb, lvc]; omega) | (simp [lvA, lvb, lvc, m_L0]; done) | (simp [lvA, lvb, lvc, m_L0]; omega)) (by first | rfl | (simp [lvA, lvb, lvc]; done) | (simp [lvA, lvb, lvc]; omega) | (simp [lvA, lvb, lvc, m_L0]; done) | (simp [lvA, lvb, lvc, m_L0]; omega)) nX10_7 (by decide) (by first | rfl | assumption) (by omega) (by omega) (fun hz => ?_)
  refine ms_dup dX10_init_8 rfl ?_
  refine p_cI0 dX10_init_9 kX10_9 (d := d - 1) (by show d - 1 + 1 ≤ d; omega) (Nat.le_of_ble_eq_true rfl) (Nat.le_of_ble_eq_true rfl) ((b_X9 (by omega) hA).1) (by omega) (by omega) (by first | rfl | (simp [lvA, lvb, lvc]; done) | (simp [lvA, lvb, lvc]; omega) | (simp [lvA, lvb, lvc, m_L0]; done) | (simp [lvA, lvb, lvc, m_L0]; omega)) (by first | rfl | (simp [lvA, lvb, lvc]; done) | (simp [lvA, lvb, lvc]; omega) | (simp [lvA, lvb, lvc, m_L0]; done) | (simp [lvA, lvb, lvc, m_L0]; omega)) ?_
  have hz := (b_X9 (S := S) (d := 4) (Nat.le_refl _) hA).2
  refine p_putr dX10_init_12 fX10_10 pX10_10_0 kd_10_0 hz (by omega) (by first | rfl | assumption) (by omega) rfl (fun hz => ?_)
  refine ms_aload_n dX10_init_15 rfl ?_
  refine p_new 5 dX10_init_16 hz (by omega) (by first | rfl | (simp [lvA, lvb, lvc]; done) | (simp [lvA, lvb, lvc]; omega) | (simp [lvA, lvb, lvc, m_L0]; done) | (simp [lvA, lvb, lvc, m_L0]; omega)) (by first | rfl | (simp [lvA, lvb, lvc]; done) | (simp [lvA, lvb, lvc]; omega) | (simp [lvA, lvb, lvc, m_L0]; done) | (simp [lvA, lvb, lvc, m_L0]; omega)) nX10_16 (by decide) (by first | rfl | assumption) (by omega) (by omega) (fun hz => ?_)
  refine ms_dup dX10_init_19 rfl ?_
  refine p_cJ0 dX10_init_20 kX10_18 (d := d - 1) (by show d - 1 + 1 ≤ d; omega) (Nat.le_of_ble_eq_true rfl) (Nat.le_of_ble_eq_true rfl) (b_X2 (by omega) hz) (by omega) (by omega) (by first | rfl | (simp [lvA, lvb, lvc]; done) | (simp [lvA, lvb, lvc]; omega) | (simp [lvA, lvb, lvc, m_L0]; done) | (simp [lvA, lvb, lvc, m_L0]; omega)) (by first | rfl | (simp [lvA, lvb, lvc]; done) | (simp [lvA, lvb, lvc]; omega) | (simp [lvA, lvb, lvc, m_L0]; done) | (simp [lvA, lvb, lvc, m_L0]; omega)) ?_
  have hz := Z_X2 hz
  refine p_putr dX10_init_23 fX10_19 pX10_10_1 kd_10_1 hz (by omega) (by first | rfl | assumption) (by omega) rfl (fun hz => ?_)
  refine ms_aload_n dX10_init_26 rfl ?_
  refine p_new 3 dX10_init_27 hz (by omega) (by first | rfl | (simp [lvA, lvb, lvc]; done) | (simp [lvA, lvb, lvc]; omega) | (simp [lvA, lvb, lvc, m_L0]; done) | (simp [lvA, lvb, lvc, m_L0]; omega)) (by first | rfl | (simp [lvA, lvb, lvc]; done) | (simp [lvA, lvb, lvc]; omega) | (simp [lvA, lvb, lvc, m_L0]; done) | (simp [lvA, lvb, lvc, m_L0]; omega)) nX10_23 (by decide) (by first | rfl | assumption) (by omega) (by omega) (fun hz => ?_)
  refine ms_dup dX10_init_30 rfl ?_
  refine p_cI0 dX10_init_31 kX10_25 (d := d - 1) (by show d - 1 + 1 ≤ d; omega) (Nat.le_of_ble_eq_true rfl) (Nat.le_of_ble_eq_true rfl) (b_X7 (by omega) hz) (by omega) (by omega) (by first | rfl | (simp [lvA, lvb, lvc]; done) | (simp [lvA, lvb, lvc]; omega) | (simp [lvA, lvb, lvc, m_L0]; done) | (simp [lvA, lvb, lvc, m_L0]; omega)) (by first | rfl | (simp [lvA, lvb, lvc]; done) | (simp [lvA, lvb, lvc]; omega) | (simp [lvA, lvb, lvc, m_L0]; done) | (simp [lvA, lvb, lvc, m_L0]; omega)) ?_
  have hz := Z_X7 hz
  refine p_putr dX10_init_34 fX10_26 pX10_10_2 kd_10_2 hz (by omega) (by first | rfl | assumption) (by omega) rfl (fun hz => ?_)
  refine ms_aload_n dX10_init_37 rfl ?_
  have hA := hz
  refine p_new 5 dX10_init_38 hz (by omega) (by first | rfl | (simp [lvA, lvb, lvc]; done) | (simp [lvA, lvb, lvc]; omega) | (simp [lvA, lvb, lvc, m_L0]; done) | (simp [lvA, lvb, lvc, m_L0]; omega)) (by first | rfl | (simp [lvA, lvb, lvc]; done) | (simp [lvA, lvb, lvc]; omega) | (simp [lvA, lvb, lvc, m_L0]; done) | (simp [lvA, lvb, lvc, m_L0]; omega)) nX10_30 (by decide) (by first | rfl | assumption) (by omega) (by omega) (fun hz => ?_)
  refine ms_dup dX10_init_41 rfl ?_
  refine ms_aload_n dX10_init_42 rfl ?_
  refine p_getr dX10_init_43 fX10_10 kd_10_0 (by omega) (by first | rfl | assumption) (rfl) ?_
  refine ms_aload_n dX10_init_46 rfl ?_
  refine p_getr dX10_init_47 fX10_19 kd_10_1 (by omega) (by first | rfl | assumption) (rfl) ?_
  refine ms_aload_n dX10_init_50 rfl ?_
  refine p_getr dX10_init_51 fX10_26 kd_10_2 (by omega) (by first | rfl | assumption) (rfl) ?_
  refine p_cI3 dX10_init_54 kX10_32 (d := d - 1) (by show d - 1 + 1 ≤ d; omega) rfl rfl rfl (Nat.le_of_ble_eq_true rfl) (Nat.le_of_ble_eq_true rfl) ((b_X0 (by omega) hA).1) (by omega) (by omega) (by first | rfl | (simp [lvA, lvb, lvc]; done) | (simp [lvA, lvb, lvc]; omega) | (simp [lvA, lvb, lvc, m_L0]; done) | (simp [lvA, lvb, lvc, m_L0]; omega)) (by first | rfl | (simp [lvA, lvb, lvc]; done) | (simp [lvA, lvb, lvc]; omega) | (simp [lvA, lvb, lvc, m_L0]; done) | (simp [lvA, lvb, lvc, m_L0]; omega)) ?_
  have hz := (b_X0 (S := S) (d := 4) (Nat.le_refl _) hA).2
  refine p_putr dX10_init_57 fX10_35 pX10_10_3 kd_10_3 hz (by omega) (by first | rfl | assumption) (by omega) rfl (fun hz => ?_)
  refine ms_aload_n dX10_init_60 rfl ?_
  refine p_new 3 dX10_init_61 hz (by omega) (by first | rfl | (simp [lvA, lvb, lvc]; done) | (simp [lvA, lvb, lvc]; omega) | (simp [lvA, lvb, lvc, m_L0]; done) | (simp [lvA, lvb, lvc, m_L0]; omega)) (by first | rfl | (simp [lvA, lvb, lvc]; done) | (simp [lvA, lvb, lvc]; omega) | (simp [lvA, lvb, lvc, m_L0]; done) | (simp [lvA, lvb, lvc, m_L0]; omega)) nX10_39 (by decide) (by first | rfl | assumption) (by omega) (by omega) (fun hz => ?_)
  refine ms_dup dX10_init_64 rfl ?_
  refine ms_aload_n dX10_init_65 rfl ?_
  refine p_getr dX10_init_66 fX10_10 kd_10_0 (by omega) (by first | rfl | assumption) (rfl) ?_
  refine ms_aload_n dX10_init_69 rfl ?_
  refine p_getr dX10_init_70 fX10_35 kd_10_3 (by omega) (by first | rfl | assumption) (rfl) ?_
  refine p_cI2 dX10_init_73 kX10_41 (d := d - 1) (by show d - 1 + 1 ≤ d; omega) rfl rfl (Nat.le_of_ble_eq_true rfl) (Nat.le_of_ble_eq_true rfl) (b_X4 (by omega) hz) (by omega) (by omega) (by first | rfl | (simp [lvA, lvb, lvc]; done) | (simp [lvA, lvb, lvc]; omega) | (simp [lvA, lvb, lvc, m_L0]; done) | (simp [lvA, lvb, lvc, m_L0]; omega)) (by first | rfl | (simp [lvA, lvb, lvc]; done) | (simp [lvA, lvb, lvc]; omega) | (simp [lvA, lvb, lvc, m_L0]; done) | (simp [lvA, lvb, lvc, m_L0]; omega)) ?_
  have hz := Z_X4 hz
  refine p_putr dX10_init_76 fX10_44 pX10_10_4 kd_10_4 hz (by omega) (by first | rfl | assumption) (by omega) rfl (fun hz => ?_)
  refine ms_aload_n dX10_init_79 rfl ?_
  refine p_new 4 dX10_init_80 hz (by omega) (by first | rfl | (simp [lvA, lvb, lvc]; done) | (simp [lvA, lvb, lvc]; omega) | (simp [lvA, lvb, lvc, m_L0]; done) | (simp [lvA, lvb, lvc, m_L0]; omega)) (by first | rfl | (simp [lvA, lvb, lvc]; done) | (simp [lvA, lvb, lvc]; omega) | (simp [lvA, lvb, lvc, m_L0]; done) | (simp [lvA, lvb, lvc, m_L0]; omega)) nX10_48 (by decide) (by first | rfl | assumption) (by omega) (by omega) (fun hz => ?_)
  refine ms_dup dX10_init_83 rfl ?_
  refine ms_aload_n dX10_init_84 rfl ?_
  refine p_getr dX10_init_85 fX10_10 kd_10_0 (by omega) (by first | rfl | assumption) (rfl) ?_
  refine ms_aload_n dX10_init_88 rfl ?_
  refine p_getr dX10_init_89 fX10_19 kd_10_1 (by omega) (by first | rfl | assumption) (rfl) ?_
  refine ms_aload_n dX10_init_92 rfl ?_
  refine p_getr dX10_init_93 fX10_26 kd_10_2 (by omega) (by first | rfl | assumption) (rfl) ?_
  refine ms_aload_n dX10_init_96 rfl ?_
  refine p_getr dX10_init_97 fX10_35 kd_10_3 (by omega) (by first | rfl | assumption) (rfl) ?_
  refine p_cI4 dX10_init_100 kX10_50 (d := d - 1) (by show d - 1 + 1 ≤ d; omega) rfl rfl rfl rfl (Nat.le_of_ble_eq_true rfl) (Nat.le_of_ble_eq_true rfl) (b_X6 (by omega) hz) (by omega) (by omega) (by first | rfl | (simp [lvA, lvb, lvc]; done) | (simp [lvA, lvb, lvc]; omega) | (simp [lvA, lvb, lvc, m_L0]; done) | (simp [lvA, lvb, lvc, m_L0]; omega)) (by first | rfl | (simp [lvA, lvb, lvc]; done) | (simp [lvA, lvb, lvc]; omega) | (simp [lvA, lvb, lvc, m_L0]; done) | (simp [lvA, lvb, lvc, m_L0]; omega)) ?_
  have hz := Z_X6 hz
  refine p_putr dX10_init_103 fX10_53 pX10_10_5 kd_10_5 hz (by omega) (by first | rfl | assumption) (by omega) rfl (fun hz => ?_)
  refine ms_vret dX10_init_106 rfl rfl ⟨rfl, ?_⟩
  rw [R10_eq, I10_eq]
theorem hq_hh : hq 178 (pI (pI z0 0 143) 143 177) (pR (pR r0 0 143) 143 177) = hh iv0 0 := by
  have e1 : pI (pI z0 0 143) 143 177 = iv0 := by
    funext i k
    unfold pI
    by_cases h1 : 143 ≤ i ∧ i < 177
    · rw [if_pos h1]
    · rw [if_neg h1]
      by_cases h2 : 0 ≤ i ∧ i < 143
      · rw [if_pos h2]
      · rw [if_neg h2, iv_z (by omega) (by omega) (by omega) (by omega)]
        rfl
  have e2 : pR (pR r0 0 143) 143 177 = rf0 := by
    funext i k
    unfold pR
    by_cases h1 : 143 ≤ i ∧ i < 177
    · rw [if_pos h1]
    · rw [if_neg h1]
      by_cases h2 : 0 ≤ i ∧ i < 143
      · rw [if_pos h2]
      · rw [if_neg h2, rf_ar (by omega)]
        rfl
  have e3 : (fun (_ _ : Nat) => (0 : Int64)) = fun i k => if i = 177 ∧ k = 0 then 0 else 0 := by
    funext i k
    split <;> rfl
  rw [e1, e2]
  show (178, sh0, iv0, rf0, fun (_ _ : Nat) => (0 : Int64)) = (178, sh0, iv0, rf0, fun i k => if i = 177 ∧ k = 0 then (0 : Int64) else 0)
  rw [e3]
theorem bt_z (i : Nat) : bt 0 i = false := b_0 i
theorem iv_sc0 {s k : Nat} (hs : s < 20) (hk : k ≠ 15) : iv0 (scI s) k = 0 := by
  rw [iv_sc (i := scI s) hs rfl, if_neg hk]
theorem Iv_0 : Iv 0 iv0 := by
  have em : vm iv0 = 0 := rfl
  have ep : vpn iv0 = 0 := rfl
  have el : vlc iv0 = 0 := rfl
  have ed : ∀ t, t < 30 → ∀ k, 2 < k → iv0 (dyI t) k = 0 := fun t ht k hk => by
    rw [iv_dy (i := dyI t) ht rfl, if_neg (by omega), if_neg (by omega), if_neg (by omega)]
  have en : ∀ t, t < 30 → vn iv0 t = 0 := fun t ht => by
    unfold vn
    rw [ed t ht 6 (by omega)]
    rfl
  refine ⟨⟨by omega, fun t ht => by rw [en t ht]; omega, fun t j ht hj => ?_, fun t i j ht hi => ?_, fun s hs => ?_, fun s hs => ?_⟩, ⟨by omega, by omega, ?_⟩, fun s hs b _ _ => ?_, fun s hs => ?_, ⟨fun k hk => ?_, fun i j hi => ?_⟩, fun s hs => ?_, fun s hs _ => ?_, fun s hs b _ _ => ?_, fun s hs => ?_, fun t ht p _ _ => ?_, ⟨fun t ht => ?_, fun k hk => ?_⟩, ⟨?_, ?_⟩⟩
  · rw [en t ht] at hj
    omega
  · rw [en t ht] at hi
    omega
  · rw [em] at hs
    omega
  · rw [em] at hs
    omega
  · show vN (iv0 72 4) < 30
    decide
  · rw [iv_sc0 hs (by omega)]
    exact bt_z b
  · rw [em] at hs
    omega
  · rw [em] at hk
    omega
  · rw [em] at hi
    omega
  · rw [iv_sc0 hs (by omega), iv_sc0 hs (by omega), iv_sc0 hs (by omega)]
    decide
  · refine ⟨iv_sc0 hs (by omega), by rw [iv_sc (i := scI s) hs rfl, if_pos rfl], iv_sc0 hs (by omega), iv_sc0 hs (by omega), fun t ht => ⟨?_, ?_⟩⟩
    · rw [iv_ar (i := waI s) hs (Or.inl (by unfold waI; omega)), if_pos ht]
    · rw [iv_ar (i := leI s) hs (Or.inr (by unfold leI; omega)), if_pos ht]
  · rw [iv_sc0 hs (by omega)]
    exact bt_z b
  · rw [em] at hs
    omega
  · rw [ed t ht 4 (by omega)]
    exact bt_z p
  · rw [iv_dy (i := dyI t) ht rfl, if_pos rfl]
    decide
  · rw [iv_71, if_pos hk]
    decide
  · show vN (iv0 73 0) ≤ 1000 * 0
    decide
  · show vN (iv0 73 1) ≤ 32 * 0
    decide
theorem Cr_0 : Cr iv0 iv0 := by
  have el : vlc iv0 = 0 := rfl
  refine ⟨fun a b hl => ?_, fun p hp => ?_, fun p t hp ht => ?_, fun p t hp ht => ?_⟩
  · have hl0 : lvR 0 a b := hl
    rcases hl0 with ⟨rfl, h⟩ | ⟨h1, h2, h⟩ | ⟨h1, h2, h⟩ | ⟨h1, h2, h⟩ | ⟨rfl, h⟩ | ⟨h1, h2, h⟩ | ⟨rfl, h⟩ | ⟨rfl, h⟩ | ⟨h1, h2, h⟩ | ⟨rfl, h⟩ | ⟨rfl, h⟩
    · rcases h with rfl | rfl | rfl | rfl | rfl | rfl | rfl <;> rfl
    · obtain ⟨j, rfl⟩ : ∃ j, a = 144 + j := ⟨a - 144, by omega⟩
      exact (show ∀ j, j < 8 → ∀ b, b < 20 → iv0 (144 + j) b = iv0 (mpR (144 + j) b).1 (mpR (144 + j) b).2 by decide +kernel) j (by omega) b h
    · omega
    · obtain ⟨j, rfl⟩ : ∃ j, a = 154 + j := ⟨a - 154, by omega⟩
      exact (show ∀ j, j < 5 → ∀ b, b < 20 → iv0 (154 + j) b = iv0 (mpR (154 + j) b).1 (mpR (154 + j) b).2 by decide +kernel) j (by omega) b h
    · omega
    · obtain ⟨j, rfl⟩ : ∃ j, a = 160 + j := ⟨a - 160, by omega⟩
      exact (show ∀ j, j < 3 → ∀ b, b < 8 → iv0 (160 + j) b = iv0 (mpR (160 + j) b).1 (mpR (160 + j) b).2 by decide +kernel) j (by omega) b h
    · exact (show ∀ b, b < 6 → iv0 165 b = iv0 (mpR 165 b).1 (mpR 165 b).2 by decide +kernel) b h
    · exact (show ∀ b, b < 36 → iv0 167 b = iv0 (mpR 167 b).1 (mpR 167 b).2 by decide +kernel) b h
    · obtain ⟨j, rfl⟩ : ∃ j, a = 168 + j := ⟨a - 168, by omega⟩
      exact (show ∀ j, j < 3 → ∀ b, b < 30 → iv0 (168 + j) b = iv0 (mpR (168 + j) b).1 (mpR (168 + j) b).2 by decide +kernel) j (by omega) b h
    · exact (show ∀ b, b < 240 → iv0 171 b = iv0 (mpR 171 b).1 (mpR 171 b).2 by decide +kernel) b h
    · exact (show ∀ b, b < 30 → iv0 172 b = iv0 (mpR 172 b).1 (mpR 172 b).2 by decide +kernel) b h
  · rw [iv_z (by omega) (by omega) (by omega) (by omega), iv_z (by omega) (by omega) (by omega) (by omega), bt_z]
    rfl
  · rw [iv_z (by omega) (by omega) (by omega) (by omega), iv_dy (i := dyI t) ht rfl, if_neg (by omega), if_neg (by omega), if_neg (by omega), bt_z, bt_z]
  · rw [el] at hp
    omega
theorem law_start {S : m_S} (hn : S.1 ≤ 3072) : m_W S lB 0 [some (.ref m_scr), none, none, none, none, none, none] [] (hq 0 z0 r0) 690 5184 := by
  have hz := Zz_00
  refine p_new 6 dL_law_0 hz (by omega) (by first | rfl | (simp [lvA, lvb, lvc]; done) | (simp [lvA, lvb, lvc]; omega)) (by first | rfl | (simp [lvA, lvb, lvc]; done) | (simp [lvA, lvb, lvc]; omega)) nL_8 (by decide) rfl (by omega) (by omega) (fun hz => ?_)
  refine ms_dup dL_law_3 rfl ?_
  refine p_cI0 dL_law_4 kL_98 (d := 10) (by decide) (Nat.le_of_ble_eq_true rfl) (Nat.le_of_ble_eq_true rfl) (b_X10 (by omega)) (by omega) (by omega) (by first | rfl | (simp [lvA, lvb, lvc]; done) | (simp [lvA, lvb, lvc]; omega)) (by first | rfl | (simp [lvA, lvb, lvc]; done) | (simp [lvA, lvb, lvc]; omega)) ?_
  have hz := Z_10
  refine ms_astore_n dL_law_7 (Nat.le_of_ble_eq_true rfl) ?_
  refine p_new 41 dL_law_8 hz (by omega) (by first | rfl | (simp [lvA, lvb, lvc]; done) | (simp [lvA, lvb, lvc]; omega)) (by first | rfl | (simp [lvA, lvb, lvc]; done) | (simp [lvA, lvb, lvc]; omega)) nL_99 (by decide) rfl (by omega) (by omega) (fun hz => ?_)
  refine ms_dup dL_law_11 rfl ?_
  refine p_cI0 dL_law_12 kL_101 (d := 10) (by decide) (Nat.le_of_ble_eq_true rfl) (Nat.le_of_ble_eq_true rfl) (b_X11 (by omega) Z_10).1 (by omega) (by omega) (by first | rfl | (simp [lvA, lvb, lvc]; done) | (simp [lvA, lvb, lvc]; omega)) (by first | rfl | (simp [lvA, lvb, lvc]; done) | (simp [lvA, lvb, lvc]; omega)) ?_
  have hz := (b_X11 (S := S) (d := 4) (Nat.le_refl _) Z_10).2
  refine ms_astore_n dL_law_15 (Nat.le_of_ble_eq_true rfl) ?_
  refine ms_iconst (v := nI 1) dL_law_16 (by decide) ?_
  refine p_newJ dL_law_17 hz (by omega) (by first | rfl | (simp [lvA, lvb, lvc]; done) | (simp [lvA, lvb, lvc]; omega)) (by first | rfl | (simp [lvA, lvb, lvc]; done) | (simp [lvA, lvb, lvc]; omega)) rfl (by omega) (by omega) (by omega) (fun hz => ?_)
  refine ms_astore_n dL_law_19 (Nat.le_of_ble_eq_true rfl) ?_
  refine ms_iconst (v := nI 0) dL_law_20 (by decide) ?_
  refine ms_istore dL_law_21 (Nat.le_of_ble_eq_true rfl) ?_
  rw [hq_hh]
  exact law_loop hn 513 0 0 iv0 0 none none _ _ rfl (by omega) (by omega) Iv_0 Cr_0 (by omega) (by omega)

