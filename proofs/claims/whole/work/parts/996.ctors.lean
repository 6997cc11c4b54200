-- NAME ctors
/-! the law's start: the small ones -/
theorem b_X8 {S : m_S} {I : m_I} {R : m_Rf} {d a : Nat} (hd : 2 ≤ d) (ha : a < 900) (h0 : sh0 a = (8, 0)) (h1 : sh0 (a + 1) = (100, 4)) (h2 : sh0 (a + 2) = (100, 4)) (hz : Zz (a + 1) I R) : m_RR S M_X8_init d [.ref a] (hq (a + 1) I R) none (hq (a + 3) (flI (flI (m_up2 I a 15 (-1)) (a + 1) 4 (-1)) (a + 2) 4 (-1)) (m_up2 (m_up2 R a 8 (some (a + 1))) a 9 (some (a + 2)))) 2 8 := by
  refine ms_aload_n dX8_init_0 rfl ?_
  refine ms_obj dX8_init_1 oX8_3 oi1 oi2 (by show 1 ≤ d; omega) (Nat.le_of_ble_eq_true rfl) ?_
  refine ms_aload_n dX8_init_4 rfl ?_
  refine ms_iconst (v := nI 4) dX8_init_5 (by decide) ?_
  refine p_newI dX8_init_6 hz (by omega) (by first | rfl | (simp [lvA, lvb, lvc]; done) | (simp [lvA, lvb, lvc]; omega) | (simp [lvA, lvb, lvc, m_L0]; done) | (simp [lvA, lvb, lvc, m_L0]; omega)) (by first | rfl | (simp [lvA, lvb, lvc]; done) | (simp [lvA, lvb, lvc]; omega) | (simp [lvA, lvb, lvc, m_L0]; done) | (simp [lvA, lvb, lvc, m_L0]; omega)) (by first | rfl | assumption) (by omega) (by omega) (by omega) (fun hz => ?_)
  refine p_putr dX8_init_8 fX8_9 pX8_8_8 kd_8_8 hz (by omega) (by first | rfl | assumption) (by omega) rfl (fun hz => ?_)
  refine ms_aload_n dX8_init_11 rfl ?_
  refine ms_iconst (v := nI 4) dX8_init_12 (by decide) ?_
  refine p_newI dX8_init_13 hz (by omega) (by first | rfl | (simp [lvA, lvb, lvc]; done) | (simp [lvA, lvb, lvc]; omega) | (simp [lvA, lvb, lvc, m_L0]; done) | (simp [lvA, lvb, lvc, m_L0]; omega)) (by first | rfl | (simp [lvA, lvb, lvc]; done) | (simp [lvA, lvb, lvc]; omega) | (simp [lvA, lvb, lvc, m_L0]; done) | (simp [lvA, lvb, lvc, m_L0]; omega)) (by first | rfl | assumption) (by omega) (by omega) (by omega) (fun hz => ?_)
  refine p_putr dX8_init_15 fX8_15 pX8_8_9 kd_8_9 hz (by omega) (by first | rfl | assumption) (by omega) rfl (fun hz => ?_)
  refine ms_aload_n dX8_init_18 rfl ?_
  refine ms_iconst (v := -1) dX8_init_19 (by decide) ?_
  refine p_puti dX8_init_20 fX8_18 pX8_8_15 kd_8_15 hz (by omega) (by first | rfl | assumption) (fun hz => ?_)
  refine ms_aload_n dX8_init_23 rfl ?_
  refine p_getr dX8_init_24 fX8_9 kd_8_8 (by omega) (by first | rfl | assumption) ((u2_ne (by omega)).trans u2_eq) ?_
  refine ms_iconst (v := -1) dX8_init_27 (by decide) ?_
  refine p_fill dX8_init_28 kX8_22 (d := d - 1) (by show d - 1 + 1 ≤ d; omega) (Nat.le_of_ble_eq_true rfl) hz (by omega) (by first | rfl | assumption) (by omega) (fun hz => ?_)
  refine ms_aload_n dX8_init_31 rfl ?_
  refine p_getr dX8_init_32 fX8_15 kd_8_9 (by omega) (by first | rfl | assumption) (u2_eq) ?_
  refine ms_iconst (v := -1) dX8_init_35 (by decide) ?_
  refine p_fill dX8_init_36 kX8_22 (d := d - 1) (by show d - 1 + 1 ≤ d; omega) (Nat.le_of_ble_eq_true rfl) hz (by omega) (by first | rfl | assumption) (by omega) (fun hz => ?_)
  refine ms_vret dX8_init_39 rfl rfl ⟨rfl, ?_⟩
  rfl
theorem b_X3 {S : m_S} {I : m_I} {R : m_Rf} {d a : Nat} (hd : 2 ≤ d) (ha : a < 900) (h0 : sh0 a = (3, 0)) (h1 : sh0 (a + 1) = (100, 8)) (hz : Zz (a + 1) I R) : m_RR S M_X3_init d [.ref a] (hq (a + 1) I R) none (hq (a + 2) (m_up2 (m_up2 (m_up2 I a 0 (nI 480)) a 1 (nI 360)) a 2 (nI 1080)) (m_up2 R a 5 (some (a + 1)))) 1 8 := by
  refine ms_aload_n dX3_init_0 rfl ?_
  refine ms_obj dX3_init_1 oX3_3 oi1 oi2 (by show 1 ≤ d; omega) (Nat.le_of_ble_eq_true rfl) ?_
  refine ms_aload_n dX3_init_4 rfl ?_
  refine ms_sipush (v := nI 480) dX3_init_5 (by decide) ?_
  refine p_puti dX3_init_8 fX3_9 pX3_3_0 kd_3_0 hz (by omega) (by first | rfl | assumption) (fun hz => ?_)
  refine ms_aload_n dX3_init_11 rfl ?_
  refine ms_sipush (v := nI 360) dX3_init_12 (by decide) ?_
  refine p_puti dX3_init_15 fX3_15 pX3_3_1 kd_3_1 hz (by omega) (by first | rfl | assumption) (fun hz => ?_)
  refine ms_aload_n dX3_init_18 rfl ?_
  refine ms_sipush (v := nI 1080) dX3_init_19 (by decide) ?_
  refine p_puti dX3_init_22 fX3_18 pX3_3_2 kd_3_2 hz (by omega) (by first | rfl | assumption) (fun hz => ?_)
  refine ms_aload_n dX3_init_25 rfl ?_
  refine ms_bipush (v := nI 8) dX3_init_26 (by decide) ?_
  refine p_newI dX3_init_28 hz (by omega) (by first | rfl | (simp [lvA, lvb, lvc]; done) | (simp [lvA, lvb, lvc]; omega) | (simp [lvA, lvb, lvc, m_L0]; done) | (simp [lvA, lvb, lvc, m_L0]; omega)) (by first | rfl | (simp [lvA, lvb, lvc]; done) | (simp [lvA, lvb, lvc]; omega) | (simp [lvA, lvb, lvc, m_L0]; done) | (simp [lvA, lvb, lvc, m_L0]; omega)) (by first | rfl | assumption) (by omega) (by omega) (by omega) (fun hz => ?_)
  refine p_putr dX3_init_30 fX3_21 pX3_3_5 kd_3_5 hz (by omega) (by first | rfl | assumption) (by omega) rfl (fun hz => ?_)
  refine ms_vret dX3_init_33 rfl rfl ⟨rfl, ?_⟩
  rfl
theorem b_X2 {S : m_S} {I : m_I} {R : m_Rf} {d : Nat} (hd : 2 ≤ d) (hz : Zz 66 I R) : m_RR S M_X2_init d [.ref 65] (hq 66 I R) none (hq 69 I (m_up2 (m_up2 (m_up2 R 65 0 (some 66)) 65 1 (some 67)) 65 2 (some 68))) 3 24 := by
  refine ms_aload_n dX2_init_0 rfl ?_
  refine ms_obj dX2_init_1 oX2_3 oi1 oi2 (by show 1 ≤ d; omega) (Nat.le_of_ble_eq_true rfl) ?_
  refine ms_aload_n dX2_init_4 rfl ?_
  refine ms_bipush (v := nI 8) dX2_init_5 (by decide) ?_
  refine p_newI dX2_init_7 hz (by omega) (by first | rfl | (simp [lvA, lvb, lvc]; done) | (simp [lvA, lvb, lvc]; omega) | (simp [lvA, lvb, lvc, m_L0]; done) | (simp [lvA, lvb, lvc, m_L0]; omega)) (by first | rfl | (simp [lvA, lvb, lvc]; done) | (simp [lvA, lvb, lvc]; omega) | (simp [lvA, lvb, lvc, m_L0]; done) | (simp [lvA, lvb, lvc, m_L0]; omega)) (by first | rfl | assumption) (by omega) (by omega) (by omega) (fun hz => ?_)
  refine p_putr dX2_init_9 fX2_9 pX2_2_0 kd_2_0 hz (by omega) (by first | rfl | assumption) (by omega) rfl (fun hz => ?_)
  refine ms_aload_n dX2_init_12 rfl ?_
  refine ms_bipush (v := nI 8) dX2_init_13 (by decide) ?_
  refine p_newI dX2_init_15 hz (by omega) (by first | rfl | (simp [lvA, lvb, lvc]; done) | (simp [lvA, lvb, lvc]; omega) | (simp [lvA, lvb, lvc, m_L0]; done) | (simp [lvA, lvb, lvc, m_L0]; omega)) (by first | rfl | (simp [lvA, lvb, lvc]; done) | (simp [lvA, lvb, lvc]; omega) | (simp [lvA, lvb, lvc, m_L0]; done) | (simp [lvA, lvb, lvc, m_L0]; omega)) (by first | rfl | assumption) (by omega) (by omega) (by omega) (fun hz => ?_)
  refine p_putr dX2_init_17 fX2_15 pX2_2_1 kd_2_1 hz (by omega) (by first | rfl | assumption) (by omega) rfl (fun hz => ?_)
  refine ms_aload_n dX2_init_20 rfl ?_
  refine ms_bipush (v := nI 8) dX2_init_21 (by decide) ?_
  refine p_newI dX2_init_23 hz (by omega) (by first | rfl | (simp [lvA, lvb, lvc]; done) | (simp [lvA, lvb, lvc]; omega) | (simp [lvA, lvb, lvc, m_L0]; done) | (simp [lvA, lvb, lvc, m_L0]; omega)) (by first | rfl | (simp [lvA, lvb, lvc]; done) | (simp [lvA, lvb, lvc]; omega) | (simp [lvA, lvb, lvc, m_L0]; done) | (simp [lvA, lvb, lvc, m_L0]; omega)) (by first | rfl | assumption) (by omega) (by omega) (by omega) (fun hz => ?_)
  refine p_putr dX2_init_25 fX2_18 pX2_2_2 kd_2_2 hz (by omega) (by first | rfl | assumption) (by omega) rfl (fun hz => ?_)
  refine ms_vret dX2_init_28 rfl rfl ⟨rfl, ?_⟩
  rfl
theorem b_X7 {S : m_S} {I : m_I} {R : m_Rf} {d : Nat} (hd : 2 ≤ d) (hz : Zz 70 I R) : m_RR S M_X7_init d [.ref 69] (hq 70 I R) none (hq 72 (flI I 71 36 (nI 60)) (m_up2 (m_up2 R 69 0 (some 70)) 69 1 (some 71))) 2 42 := by
  refine ms_aload_n dX7_init_0 rfl ?_
  refine ms_obj dX7_init_1 oX7_3 oi1 oi2 (by show 1 ≤ d; omega) (Nat.le_of_ble_eq_true rfl) ?_
  refine ms_aload_n dX7_init_4 rfl ?_
  refine ms_bipush (v := nI 6) dX7_init_5 (by decide) ?_
  refine p_newI dX7_init_7 hz (by omega) (by first | rfl | (simp [lvA, lvb, lvc]; done) | (simp [lvA, lvb, lvc]; omega) | (simp [lvA, lvb, lvc, m_L0]; done) | (simp [lvA, lvb, lvc, m_L0]; omega)) (by first | rfl | (simp [lvA, lvb, lvc]; done) | (simp [lvA, lvb, lvc]; omega) | (simp [lvA, lvb, lvc, m_L0]; done) | (simp [lvA, lvb, lvc, m_L0]; omega)) (by first | rfl | assumption) (by omega) (by omega) (by omega) (fun hz => ?_)
  refine p_putr dX7_init_9 fX7_9 pX7_7_0 kd_7_0 hz (by omega) (by first | rfl | assumption) (by omega) rfl (fun hz => ?_)
  refine ms_aload_n dX7_init_12 rfl ?_
  refine ms_bipush (v := nI 36) dX7_init_13 (by decide) ?_
  refine p_newI dX7_init_15 hz (by omega) (by first | rfl | (simp [lvA, lvb, lvc]; done) | (simp [lvA, lvb, lvc]; omega) | (simp [lvA, lvb, lvc, m_L0]; done) | (simp [lvA, lvb, lvc, m_L0]; omega)) (by first | rfl | (simp [lvA, lvb, lvc]; done) | (simp [lvA, lvb, lvc]; omega) | (simp [lvA, lvb, lvc, m_L0]; done) | (simp [lvA, lvb, lvc, m_L0]; omega)) (by first | rfl | assumption) (by omega) (by omega) (by omega) (fun hz => ?_)
  refine p_putr dX7_init_17 fX7_15 pX7_7_1 kd_7_1 hz (by omega) (by first | rfl | assumption) (by omega) rfl (fun hz => ?_)
  refine ms_aload_n dX7_init_20 rfl ?_
  refine p_getr dX7_init_21 fX7_15 kd_7_1 (by omega) (by first | rfl | assumption) (u2_eq) ?_
  refine ms_bipush (v := nI 60) dX7_init_24 (by decide) ?_
  refine p_fill dX7_init_26 kX7_18 (d := d - 1) (by show d - 1 + 1 ≤ d; omega) (Nat.le_of_ble_eq_true rfl) hz (by omega) (by first | rfl | assumption) (by omega) (fun hz => ?_)
  refine ms_vret dX7_init_29 rfl rfl ⟨rfl, ?_⟩
  rfl
theorem b_X5 {S : m_S} {I : m_I} {R : m_Rf} {d n b : Nat} (hd : 2 ≤ d) : m_RR S M_X5_init d [.ref b] (hq n I R) none (hq n I R) 0 0 := by
  refine ms_aload_n dX5_init_0 rfl ?_
  refine ms_obj dX5_init_1 oX5_1 oi1 oi2 (by show 1 ≤ d; omega) (Nat.le_of_ble_eq_true rfl) ?_
  refine ms_vret dX5_init_4 rfl rfl ⟨rfl, ?_⟩
  rfl
theorem b_X1 {S : m_S} {I : m_I} {R : m_Rf} {d : Nat} (hd : 2 ≤ d) (hz : Zz 76 I R) : m_RR S M_X1_init d [.ref 75, .ref 1, .ref 65, .ref 69, .ref 73] (hq 76 I R) none (hq 80 I (m_up2 (m_up2 (m_up2 (m_up2 (m_up2 (m_up2 (m_up2 (m_up2 R 75 4 (some 76)) 75 5 (some 77)) 75 6 (some 78)) 75 7 (some 79)) 75 0 (some 1)) 75 1 (some 65)) 75 2 (some 69)) 75 3 (some 73))) 4 32 := by
  refine ms_aload_n dX1_init_0 rfl ?_
  refine ms_obj dX1_init_1 oX1_3 oi1 oi2 (by show 1 ≤ d; omega) (Nat.le_of_ble_eq_true rfl) ?_
  refine ms_aload_n dX1_init_4 rfl ?_
  refine ms_bipush (v := nI 8) dX1_init_5 (by decide) ?_
  refine p_newI dX1_init_7 hz (by omega) (by first | rfl | (simp [lvA, lvb, lvc]; done) | (simp [lvA, lvb, lvc]; omega) | (simp [lvA, lvb, lvc, m_L0]; done) | (simp [lvA, lvb, lvc, m_L0]; omega)) (by first | rfl | (simp [lvA, lvb, lvc]; done) | (simp [lvA, lvb, lvc]; omega) | (simp [lvA, lvb, lvc, m_L0]; done) | (simp [lvA, lvb, lvc, m_L0]; omega)) (by first | rfl | assumption) (by omega) (by omega) (by omega) (fun hz => ?_)
  refine p_putr dX1_init_9 fX1_9 pX1_1_4 kd_1_4 hz (by omega) (by first | rfl | assumption) (by omega) rfl (fun hz => ?_)
  refine ms_aload_n dX1_init_12 rfl ?_
  refine ms_bipush (v := nI 8) dX1_init_13 (by decide) ?_
  refine p_newI dX1_init_15 hz (by omega) (by first | rfl | (simp [lvA, lvb, lvc]; done) | (simp [lvA, lvb, lvc]; omega) | (simp [lvA, lvb, lvc, m_L0]; done) | (simp [lvA, lvb, lvc, m_L0]; omega)) (by first | rfl | (simp [lvA, lvb, lvc]; done) | (simp [lvA, lvb, lvc]; omega) | (simp [lvA, lvb, lvc, m_L0]; done) | (simp [lvA, lvb, lvc, m_L0]; omega)) (by first | rfl | assumption) (by omega) (by omega) (by omega) (fun hz => ?_)
  refine p_putr dX1_init_17 fX1_15 pX1_1_5 kd_1_5 hz (by omega) (by first | rfl | assumption) (by omega) rfl (fun hz => ?_)
  refine ms_aload_n dX1_init_20 rfl ?_
  refine ms_bipush (v := nI 8) dX1_init_21 (by decide) ?_
  refine p_newI dX1_init_23 hz (by omega) (by first | rfl | (simp [lvA, lvb, lvc]; done) | (simp [lvA, lvb, lvc]; omega) | (simp [lvA, lvb, lvc, m_L0]; done) | (simp [lvA, lvb, lvc, m_L0]; omega)) (by first | rfl | (simp [lvA, lvb, lvc]; done) | (simp [lvA, lvb, lvc]; omega) | (simp [lvA, lvb, lvc, m_L0]; done) | (simp [lvA, lvb, lvc, m_L0]; omega)) (by first | rfl | assumption) (by omega) (by omega) (by omega) (fun hz => ?_)
  refine p_putr dX1_init_25 fX1_18 pX1_1_6 kd_1_6 hz (by omega) (by first | rfl | assumption) (by omega) rfl (fun hz => ?_)
  refine ms_aload_n dX1_init_28 rfl ?_
  refine ms_bipush (v := nI 8) dX1_init_29 (by decide) ?_
  refine p_newI dX1_init_31 hz (by omega) (by first | rfl | (simp [lvA, lvb, lvc]; done) | (simp [lvA, lvb, lvc]; omega) | (simp [lvA, lvb, lvc, m_L0]; done) | (simp [lvA, lvb, lvc, m_L0]; omega)) (by first | rfl | (simp [lvA, lvb, lvc]; done) | (simp [lvA, lvb, lvc]; omega) | (simp [lvA, lvb, lvc, m_L0]; done) | (simp [lvA, lvb, lvc, m_L0]; omega)) (by first | rfl | assumption) (by omega) (by omega) (by omega) (fun hz => ?_)
  refine p_putr dX1_init_33 fX1_21 pX1_1_7 kd_1_7 hz (by omega) (by first | rfl | assumption) (by omega) rfl (fun hz => ?_)
  refine ms_aload_n dX1_init_36 rfl ?_
  refine ms_aload_n dX1_init_37 rfl ?_
  refine p_putr dX1_init_38 fX1_24 pX1_1_0 kd_1_0 hz (by omega) (by first | rfl | assumption) (by omega) rfl (fun hz => ?_)
  refine ms_aload_n dX1_init_41 rfl ?_
  refine ms_aload_n dX1_init_42 rfl ?_
  refine p_putr dX1_init_43 fX1_28 pX1_1_1 kd_1_1 hz (by omega) (by first | rfl | assumption) (by omega) rfl (fun hz => ?_)
  refine ms_aload_n dX1_init_46 rfl ?_
  refine ms_aload_n dX1_init_47 rfl ?_
  refine p_putr dX1_init_48 fX1_32 pX1_1_2 kd_1_2 hz (by omega) (by first | rfl | assumption) (by omega) rfl (fun hz => ?_)
  refine ms_aload_n dX1_init_51 rfl ?_
  refine ms_aload dX1_init_52 rfl ?_
  refine p_putr dX1_init_54 fX1_36 pX1_1_3 kd_1_3 hz (by omega) (by first | rfl | assumption) (by omega) rfl (fun hz => ?_)
  refine ms_vret dX1_init_57 rfl rfl ⟨rfl, ?_⟩
  rfl
theorem b_X4 {S : m_S} {I : m_I} {R : m_Rf} {d : Nat} (hd : 2 ≤ d) (hz : Zz 141 I R) : m_RR S M_X4_init d [.ref 140, .ref 1, .ref 72] (hq 141 I R) none (hq 142 I (m_up2 (m_up2 (m_up2 R 140 2 (some 141)) 140 0 (some 1)) 140 1 (some 72))) 1 8 := by
  refine ms_aload_n dX4_init_0 rfl ?_
  refine ms_obj dX4_init_1 oX4_3 oi1 oi2 (by show 1 ≤ d; omega) (Nat.le_of_ble_eq_true rfl) ?_
  refine ms_aload_n dX4_init_4 rfl ?_
  refine ms_bipush (v := nI 8) dX4_init_5 (by decide) ?_
  refine p_newI dX4_init_7 hz (by omega) (by first | rfl | (simp [lvA, lvb, lvc]; done) | (simp [lvA, lvb, lvc]; omega) | (simp [lvA, lvb, lvc, m_L0]; done) | (simp [lvA, lvb, lvc, m_L0]; omega)) (by first | rfl | (simp [lvA, lvb, lvc]; done) | (simp [lvA, lvb, lvc]; omega) | (simp [lvA, lvb, lvc, m_L0]; done) | (simp [lvA, lvb, lvc, m_L0]; omega)) (by first | rfl | assumption) (by omega) (by omega) (by omega) (fun hz => ?_)
  refine p_putr dX4_init_9 fX4_9 pX4_4_2 kd_4_2 hz (by omega) (by first | rfl | assumption) (by omega) rfl (fun hz => ?_)
  refine ms_aload_n dX4_init_12 rfl ?_
  refine ms_aload_n dX4_init_13 rfl ?_
  refine p_putr dX4_init_14 fX4_15 pX4_4_0 kd_4_0 hz (by omega) (by first | rfl | assumption) (by omega) rfl (fun hz => ?_)
  refine ms_aload_n dX4_init_17 rfl ?_
  refine ms_aload_n dX4_init_18 rfl ?_
  refine p_putr dX4_init_19 fX4_19 pX4_4_1 kd_4_1 hz (by omega) (by first | rfl | assumption) (by omega) rfl (fun hz => ?_)
  refine ms_vret dX4_init_22 rfl rfl ⟨rfl, ?_⟩
  rfl
theorem b_X6 {S : m_S} {I : m_I} {R : m_Rf} {d : Nat} (hd : 2 ≤ d) (hz : Zz 143 I R) : m_RR S M_X6_init d [.ref 142, .ref 1, .ref 65, .ref 69, .ref 72] (hq 143 I R) none (hq 143 I (m_up2 (m_up2 (m_up2 (m_up2 R 142 0 (some 1)) 142 1 (some 65)) 142 2 (some 69)) 142 3 (some 72))) 0 0 := by
  refine ms_aload_n dX6_init_0 rfl ?_
  refine ms_obj dX6_init_1 oX6_3 oi1 oi2 (by show 1 ≤ d; omega) (Nat.le_of_ble_eq_true rfl) ?_
  refine ms_aload_n dX6_init_4 rfl ?_
  refine ms_aload_n dX6_init_5 rfl ?_
  refine p_putr dX6_init_6 fX6_9 pX6_6_0 kd_6_0 hz (by omega) (by first | rfl | assumption) (by omega) rfl (fun hz => ?_)
  refine ms_aload_n dX6_init_9 rfl ?_
  refine ms_aload_n dX6_init_10 rfl ?_
  refine p_putr dX6_init_11 fX6_15 pX6_6_1 kd_6_1 hz (by omega) (by first | rfl | assumption) (by omega) rfl (fun hz => ?_)
  refine ms_aload_n dX6_init_14 rfl ?_
  refine ms_aload_n dX6_init_15 rfl ?_
  refine p_putr dX6_init_16 fX6_19 pX6_6_2 kd_6_2 hz (by omega) (by first | rfl | assumption) (by omega) rfl (fun hz => ?_)
  refine ms_aload_n dX6_init_19 rfl ?_
  refine ms_aload dX6_init_20 rfl ?_
  refine p_putr dX6_init_22 fX6_23 pX6_6_3 kd_6_3 hz (by omega) (by first | rfl | assumption) (by omega) rfl (fun hz => ?_)
  refine ms_vret dX6_init_25 rfl rfl ⟨rfl, ?_⟩
  rfl

