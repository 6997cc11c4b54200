-- NAME face
/-! the class's face: the rest, fill and mend aside -/
theorem k_bind {S : m_S} {I : m_I} {lg : Int64} {d m s b : Nat} (hd : 4 ≤ d) (hM : Md I m) (hs : s < m) (hb : b < m) (hr : bt (rOut I m (nI 1 <<< (nI b &&& 31)) m) s = false) (hx : ∀ i, 20 ≤ i → i < 32 → bt (I (scI s) 5 ||| (nI 1 <<< (nI b &&& 31))) i = false) : m_R S M_X10_bind d [.ref 0, .int (nI s), .int (nI b)] (hh I lg) (some (.int (nI (pc (I (scI s) 5 ||| (nI 1 <<< (nI b &&& 31))) 20)))) (hh (m_up2 I (scI s) 5 (I (scI s) 5 ||| (nI 1 <<< (nI b &&& 31)))) lg) := by
  have hM1 := hM.1
  have hM2 := hM.2
  have hl := k_leadsTo (S := S) (I := I) (lg := lg) (d := d - 1) (m := m) (a := b) (g := s) (by omega) hM1 hM2 (by omega)
  rw [hr] at hl
  refine ms_aload_n dX10_bind_0 rfl ?_
  refine ms_iload_n dX10_bind_1 rfl ?_
  refine qRV1 dX10_bind_2 kX10_57 (by show _ < 178; first | decide | exact lt_sc (by omega) | exact lt_dy (by omega)) (by show (sh0 _).1 = _; first | rfl | rw [sh_sc (by omega)] | rw [sh_dy (by omega)]) (d := d - 1) (by show d - 1 + 1 ≤ d; omega) rfl (Nat.le_of_ble_eq_true rfl) (Nat.le_of_ble_eq_true rfl) (k_checkScene (by omega) hM rfl hs) rfl ?_
  refine ms_aload_n dX10_bind_5 rfl ?_
  refine ms_iload_n dX10_bind_6 rfl ?_
  refine qRV1 dX10_bind_7 kX10_57 (by show _ < 178; first | decide | exact lt_sc (by omega) | exact lt_dy (by omega)) (by show (sh0 _).1 = _; first | rfl | rw [sh_sc (by omega)] | rw [sh_dy (by omega)]) (d := d - 1) (by show d - 1 + 1 ≤ d; omega) rfl (Nat.le_of_ble_eq_true rfl) (Nat.le_of_ble_eq_true rfl) (k_checkScene (by omega) hM rfl hb) rfl ?_
  refine ms_aload_n dX10_bind_10 rfl ?_
  refine q_getr dX10_bind_11 fX10_10 kd_10_0 (by first | decide | exact lt_sc (by omega) | exact lt_dy (by omega) | exact lt_rw (by omega) | exact lt_wa (by omega) | exact lt_le (by omega)) (by first | rfl | rw [sh_sc (by omega)] | rw [sh_dy (by omega)]) (by first | rfl | exact rf_wa (by omega) | exact rf_le (by omega) | exact rf_rw (by omega)) ?_
  refine ms_iload_n dX10_bind_14 rfl ?_
  refine ms_iload_n dX10_bind_15 rfl ?_
  refine qRV2 dX10_bind_16 kX10_149 (by show _ < 178; first | decide | exact lt_sc (by omega) | exact lt_dy (by omega)) (by show (sh0 _).1 = _; first | rfl | rw [sh_sc (by omega)] | rw [sh_dy (by omega)]) (d := d - 1) (by show d - 1 + 1 ≤ d; omega) rfl rfl (Nat.le_of_ble_eq_true rfl) (Nat.le_of_ble_eq_true rfl) (hl) rfl ?_
  refine ms_if_eq (tgt := 32) dX10_bind_19 (by decide) (fun c19 => ?_) (fun c19 => ?_)
  · refine ms_aload_n dX10_bind_32 rfl ?_
    refine q_getr dX10_bind_33 fX10_10 kd_10_0 (by first | decide | exact lt_sc (by omega) | exact lt_dy (by omega) | exact lt_rw (by omega) | exact lt_wa (by omega) | exact lt_le (by omega)) (by first | rfl | rw [sh_sc (by omega)] | rw [sh_dy (by omega)]) (by first | rfl | exact rf_wa (by omega) | exact rf_le (by omega) | exact rf_rw (by omega)) ?_
    refine q_getr dX10_bind_36 fX10_96 kd_9_0 (by first | decide | exact lt_sc (by omega) | exact lt_dy (by omega) | exact lt_rw (by omega) | exact lt_wa (by omega) | exact lt_le (by omega)) (by first | rfl | rw [sh_sc (by omega)] | rw [sh_dy (by omega)]) (by first | rfl | exact rf_wa (by omega) | exact rf_le (by omega) | exact rf_rw (by omega)) ?_
    refine ms_iload_n dX10_bind_39 rfl ?_
    refine q_aald dX10_bind_40 (by first | exact Or.inl ⟨rfl, by omega, rfl⟩ | exact Or.inr ⟨rfl, by omega, rfl⟩) ?_
    refine ms_astore_n dX10_bind_41 (Nat.le_of_ble_eq_true rfl) ?_
    refine ms_aload_n dX10_bind_42 rfl ?_
    refine ms_dup dX10_bind_43 rfl ?_
    refine q_geti dX10_bind_44 fX10_155 (by rw [kd_8_5]; decide) (by first | decide | exact lt_sc (by omega) | exact lt_dy (by omega) | exact lt_rw (by omega) | exact lt_wa (by omega) | exact lt_le (by omega)) (by first | rfl | rw [sh_sc (by omega)] | rw [sh_dy (by omega)]) rfl ?_
    refine ms_iconst (v := nI 1) dX10_bind_47 (by decide) ?_
    refine ms_iload_n dX10_bind_48 rfl ?_
    refine ms_ishl dX10_bind_49 ?_
    refine ms_ior dX10_bind_50 ?_
    refine q_puti dX10_bind_51 fX10_155 pX10_8_5 kd_8_5 (by first | decide | exact lt_sc (by omega) | exact lt_dy (by omega) | exact lt_rw (by omega) | exact lt_wa (by omega) | exact lt_le (by omega)) (by first | rfl | rw [sh_sc (by omega)] | rw [sh_dy (by omega)]) ?_
    refine ms_aload_n dX10_bind_54 rfl ?_
    refine q_geti dX10_bind_55 fX10_155 (by rw [kd_8_5]; decide) (by first | decide | exact lt_sc (by omega) | exact lt_dy (by omega) | exact lt_rw (by omega) | exact lt_wa (by omega) | exact lt_le (by omega)) (by first | rfl | rw [sh_sc (by omega)] | rw [sh_dy (by omega)]) m_up2_eq ?_
    refine qRS1 dX10_bind_58 kX10_126 (d := d - 1) (by show d - 1 + 1 ≤ d; omega) rfl (Nat.le_of_ble_eq_true rfl) (Nat.le_of_ble_eq_true rfl) (k_bitCount (n := 20) (by omega) (by omega) hx) rfl ?_
    refine ms_iret dX10_bind_61 rfl rfl ⟨?_, ?_⟩
    · rfl
    · rfl
  · exact absurd rfl c19
theorem k_bindT1 {S : m_S} {I : m_I} {lg : Int64} {d m : Nat} {x y : Int32} (hd : 8 ≤ d) (hM : Md I m) (hx : ∀ j, j < m → x ≠ nI j) : m_T S M_X10_bind d [.ref 0, .int x, .int y] (hh I lg) "java/lang/IndexOutOfBoundsException" := by
  refine ms_aload_n dX10_bind_0 rfl ?_
  refine ms_iload_n dX10_bind_1 rfl ?_
  exact qTV1 dX10_bind_2 kX10_57 (by show _ < 178; first | decide | exact lt_sc (by omega) | exact lt_dy (by omega)) (by show (sh0 _).1 = _; first | rfl | rw [sh_sc (by omega)] | rw [sh_dy (by omega)]) (d := d - 1) (by show d - 1 + 1 ≤ d; omega) rfl (Nat.le_of_ble_eq_true rfl) (Nat.le_of_ble_eq_true rfl) (k_checkSceneT (by omega) hM hx) (by decide) (by decide) (Or.inl ⟨rfl, rfl, rfl⟩)
theorem k_bindT2 {S : m_S} {I : m_I} {lg : Int64} {d m s : Nat} {y : Int32} (hd : 8 ≤ d) (hM : Md I m) (hs : s < m) (hx : ∀ j, j < m → y ≠ nI j) : m_T S M_X10_bind d [.ref 0, .int (nI s), .int y] (hh I lg) "java/lang/IndexOutOfBoundsException" := by
  refine ms_aload_n dX10_bind_0 rfl ?_
  refine ms_iload_n dX10_bind_1 rfl ?_
  refine qRV1 dX10_bind_2 kX10_57 (by show _ < 178; first | decide | exact lt_sc (by omega) | exact lt_dy (by omega)) (by show (sh0 _).1 = _; first | rfl | rw [sh_sc (by omega)] | rw [sh_dy (by omega)]) (d := d - 1) (by show d - 1 + 1 ≤ d; omega) rfl (Nat.le_of_ble_eq_true rfl) (Nat.le_of_ble_eq_true rfl) (k_checkScene (by omega) hM rfl hs) rfl ?_
  refine ms_aload_n dX10_bind_5 rfl ?_
  refine ms_iload_n dX10_bind_6 rfl ?_
  exact qTV1 dX10_bind_7 kX10_57 (by show _ < 178; first | decide | exact lt_sc (by omega) | exact lt_dy (by omega)) (by show (sh0 _).1 = _; first | rfl | rw [sh_sc (by omega)] | rw [sh_dy (by omega)]) (d := d - 1) (by show d - 1 + 1 ≤ d; omega) rfl (Nat.le_of_ble_eq_true rfl) (Nat.le_of_ble_eq_true rfl) (k_checkSceneT (by omega) hM hx) (by decide) (by decide) (Or.inl ⟨rfl, rfl, rfl⟩)
theorem k_bindT3 {S : m_S} {I : m_I} {lg : Int64} {d m s b : Nat} (hd : 8 ≤ d) (hM : Md I m) (hs : s < m) (hb : b < m) (hr : bt (rOut I m (nI 1 <<< (nI b &&& 31)) m) s = true) : m_T S M_X10_bind d [.ref 0, .int (nI s), .int (nI b)] (hh I lg) "java/lang/IllegalStateException" := by
  have hM1 := hM.1
  have hM2 := hM.2
  have hl := k_leadsTo (S := S) (I := I) (lg := lg) (d := d - 1) (m := m) (a := b) (g := s) (by omega) hM1 hM2 (by omega)
  rw [hr] at hl
  refine ms_aload_n dX10_bind_0 rfl ?_
  refine ms_iload_n dX10_bind_1 rfl ?_
  refine qRV1 dX10_bind_2 kX10_57 (by show _ < 178; first | decide | exact lt_sc (by omega) | exact lt_dy (by omega)) (by show (sh0 _).1 = _; first | rfl | rw [sh_sc (by omega)] | rw [sh_dy (by omega)]) (d := d - 1) (by show d - 1 + 1 ≤ d; omega) rfl (Nat.le_of_ble_eq_true rfl) (Nat.le_of_ble_eq_true rfl) (k_checkScene (by omega) hM rfl hs) rfl ?_
  refine ms_aload_n dX10_bind_5 rfl ?_
  refine ms_iload_n dX10_bind_6 rfl ?_
  refine qRV1 dX10_bind_7 kX10_57 (by show _ < 178; first | decide | exact lt_sc (by omega) | exact lt_dy (by omega)) (by show (sh0 _).1 = _; first | rfl | rw [sh_sc (by omega)] | rw [sh_dy (by omega)]) (d := d - 1) (by show d - 1 + 1 ≤ d; omega) rfl (Nat.le_of_ble_eq_true rfl) (Nat.le_of_ble_eq_true rfl) (k_checkScene (by omega) hM rfl hb) rfl ?_
  refine ms_aload_n dX10_bind_10 rfl ?_
  refine q_getr dX10_bind_11 fX10_10 kd_10_0 (by first | decide | exact lt_sc (by omega) | exact lt_dy (by omega) | exact lt_rw (by omega) | exact lt_wa (by omega) | exact lt_le (by omega)) (by first | rfl | rw [sh_sc (by omega)] | rw [sh_dy (by omega)]) (by first | rfl | exact rf_wa (by omega) | exact rf_le (by omega) | exact rf_rw (by omega)) ?_
  refine ms_iload_n dX10_bind_14 rfl ?_
  refine ms_iload_n dX10_bind_15 rfl ?_
  refine qRV2 dX10_bind_16 kX10_149 (by show _ < 178; first | decide | exact lt_sc (by omega) | exact lt_dy (by omega)) (by show (sh0 _).1 = _; first | rfl | rw [sh_sc (by omega)] | rw [sh_dy (by omega)]) (d := d - 1) (by show d - 1 + 1 ≤ d; omega) rfl rfl (Nat.le_of_ble_eq_true rfl) (Nat.le_of_ble_eq_true rfl) (hl) rfl ?_
  refine ms_if_eq (tgt := 32) dX10_bind_19 (by decide) (fun c19 => ?_) (fun c19 => ?_)
  · exact absurd c19 (by decide)
  · exact ms_thr dX10_bind_22 dX10_bind_25 dX10_bind_26 dX10_bind_28 dX10_bind_31 thX10_bind_22 rfl (by show 6 ≤ d; omega) (by decide) (by decide) (Nat.le_of_ble_eq_true rfl) ⟨rfl, rfl⟩
theorem k_omit {S : m_S} {I J : m_I} {lg : Int64} {d m s : Nat} (hd : 4 ≤ d) (hM : Md I m) (hs : s < m) (h1 : I (scI s) 11 = 0) (h2 : I (scI s) 12 = 0) (hto : ∀ d, 2 ≤ d → m_R S M_X0_takeOff d [.ref 72, .int (nI s)] (hh I lg) none (hh J lg)) (hJ : J 1 3 = nI m) : m_R S M_X10_omit d [.ref 0, .int (nI s)] (hh I lg) (some (.int (nI m - nI (fb_ct (fun i => decide (stC (m_up2 J (scI s) 11 (nI 1)) i = 4)) m)))) (hh (m_up2 J (scI s) 11 (nI 1)) lg) := by
  have hM2 := hM.2
  have hm' : m_up2 J (scI s) 11 (nI 1) 1 3 = nI m := (m_up2_ne (by unfold scI; omega)).trans hJ
  refine ms_aload_n dX10_omit_0 rfl ?_
  refine ms_iload_n dX10_omit_1 rfl ?_
  refine qRV1 dX10_omit_2 kX10_57 (by show _ < 178; first | decide | exact lt_sc (by omega) | exact lt_dy (by omega)) (by show (sh0 _).1 = _; first | rfl | rw [sh_sc (by omega)] | rw [sh_dy (by omega)]) (d := d - 1) (by show d - 1 + 1 ≤ d; omega) rfl (Nat.le_of_ble_eq_true rfl) (Nat.le_of_ble_eq_true rfl) (k_checkScene (by omega) hM rfl hs) rfl ?_
  refine ms_aload_n dX10_omit_5 rfl ?_
  refine q_getr dX10_omit_6 fX10_10 kd_10_0 (by first | decide | exact lt_sc (by omega) | exact lt_dy (by omega) | exact lt_rw (by omega) | exact lt_wa (by omega) | exact lt_le (by omega)) (by first | rfl | rw [sh_sc (by omega)] | rw [sh_dy (by omega)]) (by first | rfl | exact rf_wa (by omega) | exact rf_le (by omega) | exact rf_rw (by omega)) ?_
  refine q_getr dX10_omit_9 fX10_96 kd_9_0 (by first | decide | exact lt_sc (by omega) | exact lt_dy (by omega) | exact lt_rw (by omega) | exact lt_wa (by omega) | exact lt_le (by omega)) (by first | rfl | rw [sh_sc (by omega)] | rw [sh_dy (by omega)]) (by first | rfl | exact rf_wa (by omega) | exact rf_le (by omega) | exact rf_rw (by omega)) ?_
  refine ms_iload_n dX10_omit_12 rfl ?_
  refine q_aald dX10_omit_13 (by first | exact Or.inl ⟨rfl, by omega, rfl⟩ | exact Or.inr ⟨rfl, by omega, rfl⟩) ?_
  refine ms_astore_n dX10_omit_14 (Nat.le_of_ble_eq_true rfl) ?_
  refine ms_aload_n dX10_omit_15 rfl ?_
  refine q_geti dX10_omit_16 fX10_100 (by rw [kd_8_11]; decide) (by first | decide | exact lt_sc (by omega) | exact lt_dy (by omega) | exact lt_rw (by omega) | exact lt_wa (by omega) | exact lt_le (by omega)) (by first | rfl | rw [sh_sc (by omega)] | rw [sh_dy (by omega)]) rfl ?_
  refine ms_if_ne (tgt := 29) dX10_omit_19 (by decide) (fun c19 => ?_) (fun c19 => ?_)
  · exact absurd h1 c19
  · refine ms_aload_n dX10_omit_22 rfl ?_
    refine q_geti dX10_omit_23 fX10_105 (by rw [kd_8_12]; decide) (by first | decide | exact lt_sc (by omega) | exact lt_dy (by omega) | exact lt_rw (by omega) | exact lt_wa (by omega) | exact lt_le (by omega)) (by first | rfl | rw [sh_sc (by omega)] | rw [sh_dy (by omega)]) rfl ?_
    refine ms_if_eq (tgt := 39) dX10_omit_26 (by decide) (fun c26 => ?_) (fun c26 => ?_)
    · refine ms_aload_n dX10_omit_39 rfl ?_
      refine q_getr dX10_omit_40 fX10_35 kd_10_3 (by first | decide | exact lt_sc (by omega) | exact lt_dy (by omega) | exact lt_rw (by omega) | exact lt_wa (by omega) | exact lt_le (by omega)) (by first | rfl | rw [sh_sc (by omega)] | rw [sh_dy (by omega)]) (by first | rfl | exact rf_wa (by omega) | exact rf_le (by omega) | exact rf_rw (by omega)) ?_
      refine ms_iload_n dX10_omit_43 rfl ?_
      refine qRV1 dX10_omit_44 kX10_110 (by show _ < 178; first | decide | exact lt_sc (by omega) | exact lt_dy (by omega)) (by show (sh0 _).1 = _; first | rfl | rw [sh_sc (by omega)] | rw [sh_dy (by omega)]) (d := d - 1) (by show d - 1 + 1 ≤ d; omega) rfl (Nat.le_of_ble_eq_true rfl) (Nat.le_of_ble_eq_true rfl) (hto _ (by omega)) rfl ?_
      refine ms_aload_n dX10_omit_47 rfl ?_
      refine ms_iconst (v := nI 1) dX10_omit_48 (by decide) ?_
      refine q_putz dX10_omit_49 fX10_100 pX10_8_11 kd_8_11 (by first | decide | exact lt_sc (by omega) | exact lt_dy (by omega) | exact lt_rw (by omega) | exact lt_wa (by omega) | exact lt_le (by omega)) (by first | rfl | rw [sh_sc (by omega)] | rw [sh_dy (by omega)]) (by first | exact Or.inl (by decide) | exact Or.inr (by decide) | assumption | exact bi_01 _) ?_
      refine ms_aload_n dX10_omit_52 rfl ?_
      refine q_getr dX10_omit_53 fX10_10 kd_10_0 (by first | decide | exact lt_sc (by omega) | exact lt_dy (by omega) | exact lt_rw (by omega) | exact lt_wa (by omega) | exact lt_le (by omega)) (by first | rfl | rw [sh_sc (by omega)] | rw [sh_dy (by omega)]) (by first | rfl | exact rf_wa (by omega) | exact rf_le (by omega) | exact rf_rw (by omega)) ?_
      refine q_geti dX10_omit_56 fX10_92 (by rw [kd_9_3]; decide) (by first | decide | exact lt_sc (by omega) | exact lt_dy (by omega) | exact lt_rw (by omega) | exact lt_wa (by omega) | exact lt_le (by omega)) (by first | rfl | rw [sh_sc (by omega)] | rw [sh_dy (by omega)]) hm' ?_
      refine ms_aload_n dX10_omit_59 rfl ?_
      refine q_getr dX10_omit_60 fX10_10 kd_10_0 (by first | decide | exact lt_sc (by omega) | exact lt_dy (by omega) | exact lt_rw (by omega) | exact lt_wa (by omega) | exact lt_le (by omega)) (by first | rfl | rw [sh_sc (by omega)] | rw [sh_dy (by omega)]) (by first | rfl | exact rf_wa (by omega) | exact rf_le (by omega) | exact rf_rw (by omega)) ?_
      refine ms_iconst (v := nI 4) dX10_omit_63 (by decide) ?_
      refine qRV1 dX10_omit_64 kX10_113 (by show _ < 178; first | decide | exact lt_sc (by omega) | exact lt_dy (by omega)) (by show (sh0 _).1 = _; first | rfl | rw [sh_sc (by omega)] | rw [sh_dy (by omega)]) (d := d - 1) (by show d - 1 + 1 ≤ d; omega) rfl (Nat.le_of_ble_eq_true rfl) (Nat.le_of_ble_eq_true rfl) (k_countOf (by omega) hm' hM2 (by omega)) rfl ?_
      refine ms_isub dX10_omit_67 ?_
      refine ms_iret dX10_omit_68 rfl rfl ⟨?_, ?_⟩
      · rfl
      · rfl
    · exact absurd h2 c26
theorem k_omitT1 {S : m_S} {I : m_I} {lg : Int64} {d m : Nat} {x : Int32} (hd : 8 ≤ d) (hM : Md I m) (hx : ∀ j, j < m → x ≠ nI j) : m_T S M_X10_omit d [.ref 0, .int x] (hh I lg) "java/lang/IndexOutOfBoundsException" := by
  refine ms_aload_n dX10_omit_0 rfl ?_
  refine ms_iload_n dX10_omit_1 rfl ?_
  exact qTV1 dX10_omit_2 kX10_57 (by show _ < 178; first | decide | exact lt_sc (by omega) | exact lt_dy (by omega)) (by show (sh0 _).1 = _; first | rfl | rw [sh_sc (by omega)] | rw [sh_dy (by omega)]) (d := d - 1) (by show d - 1 + 1 ≤ d; omega) rfl (Nat.le_of_ble_eq_true rfl) (Nat.le_of_ble_eq_true rfl) (k_checkSceneT (by omega) hM hx) (by decide) (by decide) (Or.inl ⟨rfl, rfl, rfl⟩)
theorem k_omitT2 {S : m_S} {I : m_I} {lg : Int64} {d m s : Nat} (hd : 8 ≤ d) (hM : Md I m) (hs : s < m) (h : ¬ (I (scI s) 11 = 0 ∧ I (scI s) 12 = 0)) : m_T S M_X10_omit d [.ref 0, .int (nI s)] (hh I lg) "java/lang/IllegalStateException" := by
  have hM2 := hM.2
  refine ms_aload_n dX10_omit_0 rfl ?_
  refine ms_iload_n dX10_omit_1 rfl ?_
  refine qRV1 dX10_omit_2 kX10_57 (by show _ < 178; first | decide | exact lt_sc (by omega) | exact lt_dy (by omega)) (by show (sh0 _).1 = _; first | rfl | rw [sh_sc (by omega)] | rw [sh_dy (by omega)]) (d := d - 1) (by show d - 1 + 1 ≤ d; omega) rfl (Nat.le_of_ble_eq_true rfl) (Nat.le_of_ble_eq_true rfl) (k_checkScene (by omega) hM rfl hs) rfl ?_
  refine ms_aload_n dX10_omit_5 rfl ?_
  refine q_getr dX10_omit_6 fX10_10 kd_10_0 (by first | decide | exact lt_sc (by omega) | exact lt_dy (by omega) | exact lt_rw (by omega) | exact lt_wa (by omega) | exact lt_le (by omega)) (by first | rfl | rw [sh_sc (by omega)] | rw [sh_dy (by omega)]) (by first | rfl | exact rf_wa (by omega) | exact rf_le (by omega) | exact rf_rw (by omega)) ?_
  refine q_getr dX10_omit_9 fX10_96 kd_9_0 (by first | decide | exact lt_sc (by omega) | exact lt_dy (by omega) | exact lt_rw (by omega) | exact lt_wa (by omega) | exact lt_le (by omega)) (by first | rfl | rw [sh_sc (by omega)] | rw [sh_dy (by omega)]) (by first | rfl | exact rf_wa (by omega) | exact rf_le (by omega) | exact rf_rw (by omega)) ?_
  refine ms_iload_n dX10_omit_12 rfl ?_
  refine q_aald dX10_omit_13 (by first | exact Or.inl ⟨rfl, by omega, rfl⟩ | exact Or.inr ⟨rfl, by omega, rfl⟩) ?_
  refine ms_astore_n dX10_omit_14 (Nat.le_of_ble_eq_true rfl) ?_
  refine ms_aload_n dX10_omit_15 rfl ?_
  refine q_geti dX10_omit_16 fX10_100 (by rw [kd_8_11]; decide) (by first | decide | exact lt_sc (by omega) | exact lt_dy (by omega) | exact lt_rw (by omega) | exact lt_wa (by omega) | exact lt_le (by omega)) (by first | rfl | rw [sh_sc (by omega)] | rw [sh_dy (by omega)]) rfl ?_
  refine ms_if_ne (tgt := 29) dX10_omit_19 (by decide) (fun c19 => ?_) (fun c19 => ?_)
  · exact ms_thr dX10_omit_29 dX10_omit_32 dX10_omit_33 dX10_omit_35 dX10_omit_38 thX10_omit_29 rfl (by show 6 ≤ d; omega) (by decide) (by decide) (Nat.le_of_ble_eq_true rfl) ⟨rfl, rfl⟩
  · refine ms_aload_n dX10_omit_22 rfl ?_
    refine q_geti dX10_omit_23 fX10_105 (by rw [kd_8_12]; decide) (by first | decide | exact lt_sc (by omega) | exact lt_dy (by omega) | exact lt_rw (by omega) | exact lt_wa (by omega) | exact lt_le (by omega)) (by first | rfl | rw [sh_sc (by omega)] | rw [sh_dy (by omega)]) rfl ?_
    refine ms_if_eq (tgt := 39) dX10_omit_26 (by decide) (fun c26 => ?_) (fun c26 => ?_)
    · exact absurd ⟨c19, c26⟩ h
    · exact ms_thr dX10_omit_29 dX10_omit_32 dX10_omit_33 dX10_omit_35 dX10_omit_38 thX10_omit_29 rfl (by show 6 ≤ d; omega) (by decide) (by decide) (Nat.le_of_ble_eq_true rfl) ⟨rfl, rfl⟩
theorem k_take {S : m_S} {I J : m_I} {lg : Int64} {d m s : Nat} (hd : 4 ≤ d) (hM : Md I m) (hs : s < m) (h1 : stC I s = 1) (hto : ∀ d, 2 ≤ d → m_R S M_X0_takeOff d [.ref 72, .int (nI s)] (hh I lg) none (hh J lg)) : m_R S M_X10_take d [.ref 0, .int (nI s)] (hh I lg) (some (.int (I (scI s) 15))) (hh J lg) := by
  have hM2 := hM.2
  have hst := k_status (S := S) (I := I) (lg := lg) (d := d - 1) (s := s) (by omega)
  rw [h1] at hst
  refine ms_aload_n dX10_take_0 rfl ?_
  refine ms_iload_n dX10_take_1 rfl ?_
  refine qRV1 dX10_take_2 kX10_57 (by show _ < 178; first | decide | exact lt_sc (by omega) | exact lt_dy (by omega)) (by show (sh0 _).1 = _; first | rfl | rw [sh_sc (by omega)] | rw [sh_dy (by omega)]) (d := d - 1) (by show d - 1 + 1 ≤ d; omega) rfl (Nat.le_of_ble_eq_true rfl) (Nat.le_of_ble_eq_true rfl) (k_checkScene (by omega) hM rfl hs) rfl ?_
  refine ms_aload_n dX10_take_5 rfl ?_
  refine q_getr dX10_take_6 fX10_10 kd_10_0 (by first | decide | exact lt_sc (by omega) | exact lt_dy (by omega) | exact lt_rw (by omega) | exact lt_wa (by omega) | exact lt_le (by omega)) (by first | rfl | rw [sh_sc (by omega)] | rw [sh_dy (by omega)]) (by first | rfl | exact rf_wa (by omega) | exact rf_le (by omega) | exact rf_rw (by omega)) ?_
  refine q_getr dX10_take_9 fX10_96 kd_9_0 (by first | decide | exact lt_sc (by omega) | exact lt_dy (by omega) | exact lt_rw (by omega) | exact lt_wa (by omega) | exact lt_le (by omega)) (by first | rfl | rw [sh_sc (by omega)] | rw [sh_dy (by omega)]) (by first | rfl | exact rf_wa (by omega) | exact rf_le (by omega) | exact rf_rw (by omega)) ?_
  refine ms_iload_n dX10_take_12 rfl ?_
  refine q_aald dX10_take_13 (by first | exact Or.inl ⟨rfl, by omega, rfl⟩ | exact Or.inr ⟨rfl, by omega, rfl⟩) ?_
  refine ms_astore_n dX10_take_14 (Nat.le_of_ble_eq_true rfl) ?_
  refine ms_aload_n dX10_take_15 rfl ?_
  refine qRV0 dX10_take_16 kX10_226 (by show _ < 178; first | decide | exact lt_sc (by omega) | exact lt_dy (by omega)) (by show (sh0 _).1 = _; first | rfl | rw [sh_sc (by omega)] | rw [sh_dy (by omega)]) (d := d - 1) (by show d - 1 + 1 ≤ d; omega)  (Nat.le_of_ble_eq_true rfl) (Nat.le_of_ble_eq_true rfl) (hst) rfl ?_
  refine ms_iconst (v := nI 1) dX10_take_19 (by decide) ?_
  refine ms_icmp_eq (tgt := 33) dX10_take_20 (by decide) (fun c20 => ?_) (fun c20 => ?_)
  · refine ms_aload_n dX10_take_33 rfl ?_
    refine q_geti dX10_take_34 fX10_231 (by rw [kd_8_15]; decide) (by first | decide | exact lt_sc (by omega) | exact lt_dy (by omega) | exact lt_rw (by omega) | exact lt_wa (by omega) | exact lt_le (by omega)) (by first | rfl | rw [sh_sc (by omega)] | rw [sh_dy (by omega)]) rfl ?_
    refine ms_istore_n dX10_take_37 (Nat.le_of_ble_eq_true rfl) ?_
    refine ms_aload_n dX10_take_38 rfl ?_
    refine q_getr dX10_take_39 fX10_35 kd_10_3 (by first | decide | exact lt_sc (by omega) | exact lt_dy (by omega) | exact lt_rw (by omega) | exact lt_wa (by omega) | exact lt_le (by omega)) (by first | rfl | rw [sh_sc (by omega)] | rw [sh_dy (by omega)]) (by first | rfl | exact rf_wa (by omega) | exact rf_le (by omega) | exact rf_rw (by omega)) ?_
    refine ms_iload_n dX10_take_42 rfl ?_
    refine qRV1 dX10_take_43 kX10_110 (by show _ < 178; first | decide | exact lt_sc (by omega) | exact lt_dy (by omega)) (by show (sh0 _).1 = _; first | rfl | rw [sh_sc (by omega)] | rw [sh_dy (by omega)]) (d := d - 1) (by show d - 1 + 1 ≤ d; omega) rfl (Nat.le_of_ble_eq_true rfl) (Nat.le_of_ble_eq_true rfl) (hto _ (by omega)) rfl ?_
    refine ms_iload_n dX10_take_46 rfl ?_
    refine ms_iret dX10_take_47 rfl rfl ⟨?_, ?_⟩
    · rfl
    · rfl
  · exact absurd rfl c20
theorem k_takeT1 {S : m_S} {I : m_I} {lg : Int64} {d m : Nat} {x : Int32} (hd : 8 ≤ d) (hM : Md I m) (hx : ∀ j, j < m → x ≠ nI j) : m_T S M_X10_take d [.ref 0, .int x] (hh I lg) "java/lang/IndexOutOfBoundsException" := by
  refine ms_aload_n dX10_take_0 rfl ?_
  refine ms_iload_n dX10_take_1 rfl ?_
  exact qTV1 dX10_take_2 kX10_57 (by show _ < 178; first | decide | exact lt_sc (by omega) | exact lt_dy (by omega)) (by show (sh0 _).1 = _; first | rfl | rw [sh_sc (by omega)] | rw [sh_dy (by omega)]) (d := d - 1) (by show d - 1 + 1 ≤ d; omega) rfl (Nat.le_of_ble_eq_true rfl) (Nat.le_of_ble_eq_true rfl) (k_checkSceneT (by omega) hM hx) (by decide) (by decide) (Or.inl ⟨rfl, rfl, rfl⟩)
theorem stC_le (I : m_I) (s : Nat) : stC I s ≤ 4 := by
  unfold stC stN
  repeat' split
  all_goals decide
theorem k_takeT2 {S : m_S} {I : m_I} {lg : Int64} {d m s : Nat} (hd : 8 ≤ d) (hM : Md I m) (hs : s < m) (h1 : stC I s ≠ 1) : m_T S M_X10_take d [.ref 0, .int (nI s)] (hh I lg) "java/lang/IllegalStateException" := by
  have hM2 := hM.2
  have h4 := stC_le I s
  have hst := k_status (S := S) (I := I) (lg := lg) (d := d - 1) (s := s) (by omega)
  refine ms_aload_n dX10_take_0 rfl ?_
  refine ms_iload_n dX10_take_1 rfl ?_
  refine qRV1 dX10_take_2 kX10_57 (by show _ < 178; first | decide | exact lt_sc (by omega) | exact lt_dy (by omega)) (by show (sh0 _).1 = _; first | rfl | rw [sh_sc (by omega)] | rw [sh_dy (by omega)]) (d := d - 1) (by show d - 1 + 1 ≤ d; omega) rfl (Nat.le_of_ble_eq_true rfl) (Nat.le_of_ble_eq_true rfl) (k_checkScene (by omega) hM rfl hs) rfl ?_
  refine ms_aload_n dX10_take_5 rfl ?_
  refine q_getr dX10_take_6 fX10_10 kd_10_0 (by first | decide | exact lt_sc (by omega) | exact lt_dy (by omega) | exact lt_rw (by omega) | exact lt_wa (by omega) | exact lt_le (by omega)) (by first | rfl | rw [sh_sc (by omega)] | rw [sh_dy (by omega)]) (by first | rfl | exact rf_wa (by omega) | exact rf_le (by omega) | exact rf_rw (by omega)) ?_
  refine q_getr dX10_take_9 fX10_96 kd_9_0 (by first | decide | exact lt_sc (by omega) | exact lt_dy (by omega) | exact lt_rw (by omega) | exact lt_wa (by omega) | exact lt_le (by omega)) (by first | rfl | rw [sh_sc (by omega)] | rw [sh_dy (by omega)]) (by first | rfl | exact rf_wa (by omega) | exact rf_le (by omega) | exact rf_rw (by omega)) ?_
  refine ms_iload_n dX10_take_12 rfl ?_
  refine q_aald dX10_take_13 (by first | exact Or.inl ⟨rfl, by omega, rfl⟩ | exact Or.inr ⟨rfl, by omega, rfl⟩) ?_
  refine ms_astore_n dX10_take_14 (Nat.le_of_ble_eq_true rfl) ?_
  refine ms_aload_n dX10_take_15 rfl ?_
  refine qRV0 dX10_take_16 kX10_226 (by show _ < 178; first | decide | exact lt_sc (by omega) | exact lt_dy (by omega)) (by show (sh0 _).1 = _; first | rfl | rw [sh_sc (by omega)] | rw [sh_dy (by omega)]) (d := d - 1) (by show d - 1 + 1 ≤ d; omega)  (Nat.le_of_ble_eq_true rfl) (Nat.le_of_ble_eq_true rfl) (hst) rfl ?_
  refine ms_iconst (v := nI 1) dX10_take_19 (by decide) ?_
  refine n_icmp_eq (tgt := 33) dX10_take_20 (by decide) (by omega) (by omega) (fun c20 => ?_) (fun c20 => ?_)
  · omega
  · exact ms_thr dX10_take_23 dX10_take_26 dX10_take_27 dX10_take_29 dX10_take_32 thX10_take_23 rfl (by show 6 ≤ d; omega) (by decide) (by decide) (Nat.le_of_ble_eq_true rfl) ⟨rfl, rfl⟩
theorem k_lose {S : m_S} {I J : m_I} {lg : Int64} {d m s : Nat} (hd : 4 ≤ d) (hM : Md I m) (hs : s < m) (h1 : ¬ I (scI s) 12 = 0) (hto : ∀ d, 2 ≤ d → m_R S M_X0_takeOff d [.ref 72, .int (nI s)] (hh (m_up2 (m_up2 I (scI s) 12 (nI 0)) (scI s) 13 (nI 1)) lg) none (hh J lg)) (hJ : J 1 3 = nI m) : m_R S M_X10_lose d [.ref 0, .int (nI s)] (hh I lg) (some (.int (nI (fb_ct (fun i => decide (stC J i = 3)) m)))) (hh J lg) := by
  have hM2 := hM.2
  refine ms_aload_n dX10_lose_0 rfl ?_
  refine ms_iload_n dX10_lose_1 rfl ?_
  refine qRV1 dX10_lose_2 kX10_57 (by show _ < 178; first | decide | exact lt_sc (by omega) | exact lt_dy (by omega)) (by show (sh0 _).1 = _; first | rfl | rw [sh_sc (by omega)] | rw [sh_dy (by omega)]) (d := d - 1) (by show d - 1 + 1 ≤ d; omega) rfl (Nat.le_of_ble_eq_true rfl) (Nat.le_of_ble_eq_true rfl) (k_checkScene (by omega) hM rfl hs) rfl ?_
  refine ms_aload_n dX10_lose_5 rfl ?_
  refine q_getr dX10_lose_6 fX10_10 kd_10_0 (by first | decide | exact lt_sc (by omega) | exact lt_dy (by omega) | exact lt_rw (by omega) | exact lt_wa (by omega) | exact lt_le (by omega)) (by first | rfl | rw [sh_sc (by omega)] | rw [sh_dy (by omega)]) (by first | rfl | exact rf_wa (by omega) | exact rf_le (by omega) | exact rf_rw (by omega)) ?_
  refine q_getr dX10_lose_9 fX10_96 kd_9_0 (by first | decide | exact lt_sc (by omega) | exact lt_dy (by omega) | exact lt_rw (by omega) | exact lt_wa (by omega) | exact lt_le (by omega)) (by first | rfl | rw [sh_sc (by omega)] | rw [sh_dy (by omega)]) (by first | rfl | exact rf_wa (by omega) | exact rf_le (by omega) | exact rf_rw (by omega)) ?_
  refine ms_iload_n dX10_lose_12 rfl ?_
  refine q_aald dX10_lose_13 (by first | exact Or.inl ⟨rfl, by omega, rfl⟩ | exact Or.inr ⟨rfl, by omega, rfl⟩) ?_
  refine ms_astore_n dX10_lose_14 (Nat.le_of_ble_eq_true rfl) ?_
  refine ms_aload_n dX10_lose_15 rfl ?_
  refine q_geti dX10_lose_16 fX10_105 (by rw [kd_8_12]; decide) (by first | decide | exact lt_sc (by omega) | exact lt_dy (by omega) | exact lt_rw (by omega) | exact lt_wa (by omega) | exact lt_le (by omega)) (by first | rfl | rw [sh_sc (by omega)] | rw [sh_dy (by omega)]) rfl ?_
  refine ms_if_ne (tgt := 33) dX10_lose_19 (by decide) (fun c19 => ?_) (fun c19 => ?_)
  · refine ms_aload_n dX10_lose_33 rfl ?_
    refine ms_iconst (v := nI 0) dX10_lose_34 (by decide) ?_
    refine q_putz dX10_lose_35 fX10_105 pX10_8_12 kd_8_12 (by first | decide | exact lt_sc (by omega) | exact lt_dy (by omega) | exact lt_rw (by omega) | exact lt_wa (by omega) | exact lt_le (by omega)) (by first | rfl | rw [sh_sc (by omega)] | rw [sh_dy (by omega)]) (by first | exact Or.inl (by decide) | exact Or.inr (by decide) | assumption | exact bi_01 _) ?_
    refine ms_aload_n dX10_lose_38 rfl ?_
    refine ms_iconst (v := nI 1) dX10_lose_39 (by decide) ?_
    refine q_putz dX10_lose_40 fX10_295 pX10_8_13 kd_8_13 (by first | decide | exact lt_sc (by omega) | exact lt_dy (by omega) | exact lt_rw (by omega) | exact lt_wa (by omega) | exact lt_le (by omega)) (by first | rfl | rw [sh_sc (by omega)] | rw [sh_dy (by omega)]) (by first | exact Or.inl (by decide) | exact Or.inr (by decide) | assumption | exact bi_01 _) ?_
    refine ms_aload_n dX10_lose_43 rfl ?_
    refine q_getr dX10_lose_44 fX10_35 kd_10_3 (by first | decide | exact lt_sc (by omega) | exact lt_dy (by omega) | exact lt_rw (by omega) | exact lt_wa (by omega) | exact lt_le (by omega)) (by first | rfl | rw [sh_sc (by omega)] | rw [sh_dy (by omega)]) (by first | rfl | exact rf_wa (by omega) | exact rf_le (by omega) | exact rf_rw (by omega)) ?_
    refine ms_iload_n dX10_lose_47 rfl ?_
    refine qRV1 dX10_lose_48 kX10_110 (by show _ < 178; first | decide | exact lt_sc (by omega) | exact lt_dy (by omega)) (by show (sh0 _).1 = _; first | rfl | rw [sh_sc (by omega)] | rw [sh_dy (by omega)]) (d := d - 1) (by show d - 1 + 1 ≤ d; omega) rfl (Nat.le_of_ble_eq_true rfl) (Nat.le_of_ble_eq_true rfl) (hto _ (by omega)) rfl ?_
    refine ms_aload_n dX10_lose_51 rfl ?_
    refine q_getr dX10_lose_52 fX10_10 kd_10_0 (by first | decide | exact lt_sc (by omega) | exact lt_dy (by omega) | exact lt_rw (by omega) | exact lt_wa (by omega) | exact lt_le (by omega)) (by first | rfl | rw [sh_sc (by omega)] | rw [sh_dy (by omega)]) (by first | rfl | exact rf_wa (by omega) | exact rf_le (by omega) | exact rf_rw (by omega)) ?_
    refine ms_iconst (v := nI 3) dX10_lose_55 (by decide) ?_
    refine qRV1 dX10_lose_56 kX10_113 (by show _ < 178; first | decide | exact lt_sc (by omega) | exact lt_dy (by omega)) (by show (sh0 _).1 = _; first | rfl | rw [sh_sc (by omega)] | rw [sh_dy (by omega)]) (d := d - 1) (by show d - 1 + 1 ≤ d; omega) rfl (Nat.le_of_ble_eq_true rfl) (Nat.le_of_ble_eq_true rfl) (k_countOf (by omega) hJ hM2 (by omega)) rfl ?_
    refine ms_iret dX10_lose_59 rfl rfl ⟨?_, ?_⟩
    · rfl
    · rfl
  · exact absurd c19 h1
theorem k_loseT1 {S : m_S} {I : m_I} {lg : Int64} {d m : Nat} {x : Int32} (hd : 8 ≤ d) (hM : Md I m) (hx : ∀ j, j < m → x ≠ nI j) : m_T S M_X10_lose d [.ref 0, .int x] (hh I lg) "java/lang/IndexOutOfBoundsException" := by
  refine ms_aload_n dX10_lose_0 rfl ?_
  refine ms_iload_n dX10_lose_1 rfl ?_
  exact qTV1 dX10_lose_2 kX10_57 (by show _ < 178; first | decide | exact lt_sc (by omega) | exact lt_dy (by omega)) (by show (sh0 _).1 = _; first | rfl | rw [sh_sc (by omega)] | rw [sh_dy (by omega)]) (d := d - 1) (by show d - 1 + 1 ≤ d; omega) rfl (Nat.le_of_ble_eq_true rfl) (Nat.le_of_ble_eq_true rfl) (k_checkSceneT (by omega) hM hx) (by decide) (by decide) (Or.inl ⟨rfl, rfl, rfl⟩)
theorem k_loseT2 {S : m_S} {I : m_I} {lg : Int64} {d m s : Nat} (hd : 8 ≤ d) (hM : Md I m) (hs : s < m) (h1 : I (scI s) 12 = 0) : m_T S M_X10_lose d [.ref 0, .int (nI s)] (hh I lg) "java/lang/IllegalStateException" := by
  have hM2 := hM.2
  refine ms_aload_n dX10_lose_0 rfl ?_
  refine ms_iload_n dX10_lose_1 rfl ?_
  refine qRV1 dX10_lose_2 kX10_57 (by show _ < 178; first | decide | exact lt_sc (by omega) | exact lt_dy (by omega)) (by show (sh0 _).1 = _; first | rfl | rw [sh_sc (by omega)] | rw [sh_dy (by omega)]) (d := d - 1) (by show d - 1 + 1 ≤ d; omega) rfl (Nat.le_of_ble_eq_true rfl) (Nat.le_of_ble_eq_true rfl) (k_checkScene (by omega) hM rfl hs) rfl ?_
  refine ms_aload_n dX10_lose_5 rfl ?_
  refine q_getr dX10_lose_6 fX10_10 kd_10_0 (by first | decide | exact lt_sc (by omega) | exact lt_dy (by omega) | exact lt_rw (by omega) | exact lt_wa (by omega) | exact lt_le (by omega)) (by first | rfl | rw [sh_sc (by omega)] | rw [sh_dy (by omega)]) (by first | rfl | exact rf_wa (by omega) | exact rf_le (by omega) | exact rf_rw (by omega)) ?_
  refine q_getr dX10_lose_9 fX10_96 kd_9_0 (by first | decide | exact lt_sc (by omega) | exact lt_dy (by omega) | exact lt_rw (by omega) | exact lt_wa (by omega) | exact lt_le (by omega)) (by first | rfl | rw [sh_sc (by omega)] | rw [sh_dy (by omega)]) (by first | rfl | exact rf_wa (by omega) | exact rf_le (by omega) | exact rf_rw (by omega)) ?_
  refine ms_iload_n dX10_lose_12 rfl ?_
  refine q_aald dX10_lose_13 (by first | exact Or.inl ⟨rfl, by omega, rfl⟩ | exact Or.inr ⟨rfl, by omega, rfl⟩) ?_
  refine ms_astore_n dX10_lose_14 (Nat.le_of_ble_eq_true rfl) ?_
  refine ms_aload_n dX10_lose_15 rfl ?_
  refine q_geti dX10_lose_16 fX10_105 (by rw [kd_8_12]; decide) (by first | decide | exact lt_sc (by omega) | exact lt_dy (by omega) | exact lt_rw (by omega) | exact lt_wa (by omega) | exact lt_le (by omega)) (by first | rfl | rw [sh_sc (by omega)] | rw [sh_dy (by omega)]) rfl ?_
  refine ms_if_ne (tgt := 33) dX10_lose_19 (by decide) (fun c19 => ?_) (fun c19 => ?_)
  · exact absurd h1 c19
  · exact ms_thrW dX10_lose_22 dX10_lose_25 dX10_lose_26 dX10_lose_29 dX10_lose_32 thX10_lose_22 rfl (by show 6 ≤ d; omega) (by decide) (by decide) (Nat.le_of_ble_eq_true rfl) ⟨rfl, rfl⟩
theorem k_next {S : m_S} {I J : m_I} {lg : Int64} {d m t : Nat} (hd : 4 ≤ d) (hM : Md I m) (hnow : I 72 4 = nI t) (ht : t < 29) (hed : ∀ d, 3 ≤ d → m_R S M_X0_endDay d [.ref 72] (hh I lg) none (hh J lg)) (hJ : J 1 3 = nI m) : m_R S M_X10_next d [.ref 0] (hh I lg) (some (.int (nI (fb_ct (fun i => decide (stC J i = 3)) m)))) (hh J lg) := by
  have hM2 := hM.2
  refine ms_aload_n dX10_next_0 rfl ?_
  refine q_getr dX10_next_1 fX10_35 kd_10_3 (by first | decide | exact lt_sc (by omega) | exact lt_dy (by omega) | exact lt_rw (by omega) | exact lt_wa (by omega) | exact lt_le (by omega)) (by first | rfl | rw [sh_sc (by omega)] | rw [sh_dy (by omega)]) (by first | rfl | exact rf_wa (by omega) | exact rf_le (by omega) | exact rf_rw (by omega)) ?_
  refine q_geti dX10_next_4 fX10_212 (by rw [kd_0_4]; decide) (by first | decide | exact lt_sc (by omega) | exact lt_dy (by omega) | exact lt_rw (by omega) | exact lt_wa (by omega) | exact lt_le (by omega)) (by first | rfl | rw [sh_sc (by omega)] | rw [sh_dy (by omega)]) hnow ?_
  refine ms_bipush (v := nI 29) dX10_next_7 (by decide) ?_
  refine n_icmp_lt (tgt := 23) dX10_next_9 (by decide) (by omega) (by omega) (fun c9 => ?_) (fun c9 => ?_)
  · refine ms_aload_n dX10_next_23 rfl ?_
    refine q_getr dX10_next_24 fX10_35 kd_10_3 (by first | decide | exact lt_sc (by omega) | exact lt_dy (by omega) | exact lt_rw (by omega) | exact lt_wa (by omega) | exact lt_le (by omega)) (by first | rfl | rw [sh_sc (by omega)] | rw [sh_dy (by omega)]) (by first | rfl | exact rf_wa (by omega) | exact rf_le (by omega) | exact rf_rw (by omega)) ?_
    refine qRV0 dX10_next_27 kX10_300 (by show _ < 178; first | decide | exact lt_sc (by omega) | exact lt_dy (by omega)) (by show (sh0 _).1 = _; first | rfl | rw [sh_sc (by omega)] | rw [sh_dy (by omega)]) (d := d - 1) (by show d - 1 + 1 ≤ d; omega)  (Nat.le_of_ble_eq_true rfl) (Nat.le_of_ble_eq_true rfl) (hed _ (by omega)) rfl ?_
    refine ms_aload_n dX10_next_30 rfl ?_
    refine q_getr dX10_next_31 fX10_10 kd_10_0 (by first | decide | exact lt_sc (by omega) | exact lt_dy (by omega) | exact lt_rw (by omega) | exact lt_wa (by omega) | exact lt_le (by omega)) (by first | rfl | rw [sh_sc (by omega)] | rw [sh_dy (by omega)]) (by first | rfl | exact rf_wa (by omega) | exact rf_le (by omega) | exact rf_rw (by omega)) ?_
    refine ms_iconst (v := nI 3) dX10_next_34 (by decide) ?_
    refine qRV1 dX10_next_35 kX10_113 (by show _ < 178; first | decide | exact lt_sc (by omega) | exact lt_dy (by omega)) (by show (sh0 _).1 = _; first | rfl | rw [sh_sc (by omega)] | rw [sh_dy (by omega)]) (d := d - 1) (by show d - 1 + 1 ≤ d; omega) rfl (Nat.le_of_ble_eq_true rfl) (Nat.le_of_ble_eq_true rfl) (k_countOf (by omega) hJ hM2 (by omega)) rfl ?_
    refine ms_iret dX10_next_38 rfl rfl ⟨?_, ?_⟩
    · rfl
    · rfl
  · omega
theorem k_nextT {S : m_S} {I : m_I} {lg : Int64} {d : Nat} (hd : 6 ≤ d) (hnow : I 72 4 = nI 29) : m_T S M_X10_next d [.ref 0] (hh I lg) "java/lang/IllegalStateException" := by
  refine ms_aload_n dX10_next_0 rfl ?_
  refine q_getr dX10_next_1 fX10_35 kd_10_3 (by first | decide | exact lt_sc (by omega) | exact lt_dy (by omega) | exact lt_rw (by omega) | exact lt_wa (by omega) | exact lt_le (by omega)) (by first | rfl | rw [sh_sc (by omega)] | rw [sh_dy (by omega)]) (by first | rfl | exact rf_wa (by omega) | exact rf_le (by omega) | exact rf_rw (by omega)) ?_
  refine q_geti dX10_next_4 fX10_212 (by rw [kd_0_4]; decide) (by first | decide | exact lt_sc (by omega) | exact lt_dy (by omega) | exact lt_rw (by omega) | exact lt_wa (by omega) | exact lt_le (by omega)) (by first | rfl | rw [sh_sc (by omega)] | rw [sh_dy (by omega)]) hnow ?_
  refine ms_bipush (v := nI 29) dX10_next_7 (by decide) ?_
  refine n_icmp_lt (tgt := 23) dX10_next_9 (by decide) (by omega) (by omega) (fun c9 => ?_) (fun c9 => ?_)
  · omega
  · exact ms_thrW dX10_next_12 dX10_next_15 dX10_next_16 dX10_next_19 dX10_next_22 thX10_next_12 rfl (by show 6 ≤ d; omega) (by decide) (by decide) (Nat.le_of_ble_eq_true rfl) ⟨rfl, rfl⟩
def shS (I : m_I) (s : Nat) (x : Int32) : m_I := m_up2 (m_up2 (m_up2 I (scI s) 12 (nI 1)) (scI s) 13 (nI 0)) (scI s) 14 x
def shJ (I : m_I) (s : Nat) (x : Int32) : m_I := m_up2 (m_up2 (shS I s x) 73 0 (shS I s x 73 0 + x)) 73 1 (shS I s x 73 1 + shS I s x (scI s) 3)
theorem k_shoot {S : m_S} {I : m_I} {lg : Int64} {d m s : Nat} {x : Int32} (hd : 4 ≤ d) (hM : Md I m) (hs : s < m) (h1 : nI 1 ≤ x ∧ x ≤ nI 1000) (hdy : I (scI s) 15 = I 72 4) (hsh : I (scI s) 12 = 0) : m_R S M_X10_shoot d [.ref 0, .int (nI s), .int x] (hh I lg) (some (.int (eiC (shJ I s x)))) (hh (shJ I s x) lg) := by
  have hM2 := hM.2
  refine ms_aload_n dX10_shoot_0 rfl ?_
  refine ms_iload_n dX10_shoot_1 rfl ?_
  refine qRV1 dX10_shoot_2 kX10_57 (by show _ < 178; first | decide | exact lt_sc (by omega) | exact lt_dy (by omega)) (by show (sh0 _).1 = _; first | rfl | rw [sh_sc (by omega)] | rw [sh_dy (by omega)]) (d := d - 1) (by show d - 1 + 1 ≤ d; omega) rfl (Nat.le_of_ble_eq_true rfl) (Nat.le_of_ble_eq_true rfl) (k_checkScene (by omega) hM rfl hs) rfl ?_
  refine ms_iload_n dX10_shoot_5 rfl ?_
  refine ms_iconst (v := nI 1) dX10_shoot_6 (by decide) ?_
  refine ms_sipush (v := nI 1000) dX10_shoot_7 (by decide) ?_
  refine qRS3 dX10_shoot_10 kX10_64 (d := d - 1) (by show d - 1 + 1 ≤ d; omega) rfl rfl rfl (Nat.le_of_ble_eq_true rfl) (Nat.le_of_ble_eq_true rfl) (k_checkRange h1.1 h1.2) rfl ?_
  refine ms_aload_n dX10_shoot_13 rfl ?_
  refine q_getr dX10_shoot_14 fX10_10 kd_10_0 (by first | decide | exact lt_sc (by omega) | exact lt_dy (by omega) | exact lt_rw (by omega) | exact lt_wa (by omega) | exact lt_le (by omega)) (by first | rfl | rw [sh_sc (by omega)] | rw [sh_dy (by omega)]) (by first | rfl | exact rf_wa (by omega) | exact rf_le (by omega) | exact rf_rw (by omega)) ?_
  refine q_getr dX10_shoot_17 fX10_96 kd_9_0 (by first | decide | exact lt_sc (by omega) | exact lt_dy (by omega) | exact lt_rw (by omega) | exact lt_wa (by omega) | exact lt_le (by omega)) (by first | rfl | rw [sh_sc (by omega)] | rw [sh_dy (by omega)]) (by first | rfl | exact rf_wa (by omega) | exact rf_le (by omega) | exact rf_rw (by omega)) ?_
  refine ms_iload_n dX10_shoot_20 rfl ?_
  refine q_aald dX10_shoot_21 (by first | exact Or.inl ⟨rfl, by omega, rfl⟩ | exact Or.inr ⟨rfl, by omega, rfl⟩) ?_
  refine ms_astore_n dX10_shoot_22 (Nat.le_of_ble_eq_true rfl) ?_
  refine ms_aload_n dX10_shoot_23 rfl ?_
  refine q_geti dX10_shoot_24 fX10_231 (by rw [kd_8_15]; decide) (by first | decide | exact lt_sc (by omega) | exact lt_dy (by omega) | exact lt_rw (by omega) | exact lt_wa (by omega) | exact lt_le (by omega)) (by first | rfl | rw [sh_sc (by omega)] | rw [sh_dy (by omega)]) rfl ?_
  refine ms_aload_n dX10_shoot_27 rfl ?_
  refine q_getr dX10_shoot_28 fX10_35 kd_10_3 (by first | decide | exact lt_sc (by omega) | exact lt_dy (by omega) | exact lt_rw (by omega) | exact lt_wa (by omega) | exact lt_le (by omega)) (by first | rfl | rw [sh_sc (by omega)] | rw [sh_dy (by omega)]) (by first | rfl | exact rf_wa (by omega) | exact rf_le (by omega) | exact rf_rw (by omega)) ?_
  refine q_geti dX10_shoot_31 fX10_212 (by rw [kd_0_4]; decide) (by first | decide | exact lt_sc (by omega) | exact lt_dy (by omega) | exact lt_rw (by omega) | exact lt_wa (by omega) | exact lt_le (by omega)) (by first | rfl | rw [sh_sc (by omega)] | rw [sh_dy (by omega)]) rfl ?_
  refine ms_icmp_ne (tgt := 44) dX10_shoot_34 (by decide) (fun c34 => ?_) (fun c34 => ?_)
  · exact absurd hdy c34
  · refine ms_aload_n dX10_shoot_37 rfl ?_
    refine q_geti dX10_shoot_38 fX10_105 (by rw [kd_8_12]; decide) (by first | decide | exact lt_sc (by omega) | exact lt_dy (by omega) | exact lt_rw (by omega) | exact lt_wa (by omega) | exact lt_le (by omega)) (by first | rfl | rw [sh_sc (by omega)] | rw [sh_dy (by omega)]) rfl ?_
    refine ms_if_eq (tgt := 55) dX10_shoot_41 (by decide) (fun c41 => ?_) (fun c41 => ?_)
    · refine ms_aload_n dX10_shoot_55 rfl ?_
      refine ms_iload_n dX10_shoot_56 rfl ?_
      refine qRV1 dX10_shoot_57 kX10_277 (by show _ < 178; first | decide | exact lt_sc (by omega) | exact lt_dy (by omega)) (by show (sh0 _).1 = _; first | rfl | rw [sh_sc (by omega)] | rw [sh_dy (by omega)]) (d := d - 1) (by show d - 1 + 1 ≤ d; omega) rfl (Nat.le_of_ble_eq_true rfl) (Nat.le_of_ble_eq_true rfl) (k_keepTake (by omega) x) rfl ?_
      refine ms_aload_n dX10_shoot_60 rfl ?_
      refine q_getr dX10_shoot_61 fX10_35 kd_10_3 (by first | decide | exact lt_sc (by omega) | exact lt_dy (by omega) | exact lt_rw (by omega) | exact lt_wa (by omega) | exact lt_le (by omega)) (by first | rfl | rw [sh_sc (by omega)] | rw [sh_dy (by omega)]) (by first | rfl | exact rf_wa (by omega) | exact rf_le (by omega) | exact rf_rw (by omega)) ?_
      refine q_getr dX10_shoot_64 fX10_280 kd_0_1 (by first | decide | exact lt_sc (by omega) | exact lt_dy (by omega) | exact lt_rw (by omega) | exact lt_wa (by omega) | exact lt_le (by omega)) (by first | rfl | rw [sh_sc (by omega)] | rw [sh_dy (by omega)]) (by first | rfl | exact rf_wa (by omega) | exact rf_le (by omega) | exact rf_rw (by omega)) ?_
      refine ms_iload_n dX10_shoot_67 rfl ?_
      refine ms_aload_n dX10_shoot_68 rfl ?_
      refine q_geti dX10_shoot_69 fX10_284 (by rw [kd_8_3]; decide) (by first | decide | exact lt_sc (by omega) | exact lt_dy (by omega) | exact lt_rw (by omega) | exact lt_wa (by omega) | exact lt_le (by omega)) (by first | rfl | rw [sh_sc (by omega)] | rw [sh_dy (by omega)]) rfl ?_
      refine qRV2 dX10_shoot_72 kX10_287 (by show _ < 178; first | decide | exact lt_sc (by omega) | exact lt_dy (by omega)) (by show (sh0 _).1 = _; first | rfl | rw [sh_sc (by omega)] | rw [sh_dy (by omega)]) (d := d - 1) (by show d - 1 + 1 ≤ d; omega) rfl rfl (Nat.le_of_ble_eq_true rfl) (Nat.le_of_ble_eq_true rfl) (k_learn (by omega) _ _) rfl ?_
      refine ms_iret dX10_shoot_75 rfl rfl ⟨?_, ?_⟩
      · rfl
      · rfl
    · exact absurd hsh c41
theorem k_shootT1 {S : m_S} {I : m_I} {lg : Int64} {d m : Nat} {x y : Int32} (hd : 8 ≤ d) (hM : Md I m) (hx : ∀ j, j < m → x ≠ nI j) : m_T S M_X10_shoot d [.ref 0, .int x, .int y] (hh I lg) "java/lang/IndexOutOfBoundsException" := by
  refine ms_aload_n dX10_shoot_0 rfl ?_
  refine ms_iload_n dX10_shoot_1 rfl ?_
  exact qTV1 dX10_shoot_2 kX10_57 (by show _ < 178; first | decide | exact lt_sc (by omega) | exact lt_dy (by omega)) (by show (sh0 _).1 = _; first | rfl | rw [sh_sc (by omega)] | rw [sh_dy (by omega)]) (d := d - 1) (by show d - 1 + 1 ≤ d; omega) rfl (Nat.le_of_ble_eq_true rfl) (Nat.le_of_ble_eq_true rfl) (k_checkSceneT (by omega) hM hx) (by decide) (by decide) (Or.inl ⟨rfl, rfl, rfl⟩)
theorem k_shootT2 {S : m_S} {I : m_I} {lg : Int64} {d m s : Nat} {x : Int32} (hd : 8 ≤ d) (hM : Md I m) (hs : s < m) (h1 : ¬ (nI 1 ≤ x ∧ x ≤ nI 1000)) : m_T S M_X10_shoot d [.ref 0, .int (nI s), .int x] (hh I lg) "java/lang/IllegalArgumentException" := by
  refine ms_aload_n dX10_shoot_0 rfl ?_
  refine ms_iload_n dX10_shoot_1 rfl ?_
  refine qRV1 dX10_shoot_2 kX10_57 (by show _ < 178; first | decide | exact lt_sc (by omega) | exact lt_dy (by omega)) (by show (sh0 _).1 = _; first | rfl | rw [sh_sc (by omega)] | rw [sh_dy (by omega)]) (d := d - 1) (by show d - 1 + 1 ≤ d; omega) rfl (Nat.le_of_ble_eq_true rfl) (Nat.le_of_ble_eq_true rfl) (k_checkScene (by omega) hM rfl hs) rfl ?_
  refine ms_iload_n dX10_shoot_5 rfl ?_
  refine ms_iconst (v := nI 1) dX10_shoot_6 (by decide) ?_
  refine ms_sipush (v := nI 1000) dX10_shoot_7 (by decide) ?_
  exact qTS3 dX10_shoot_10 kX10_64 (d := d - 1) (by show d - 1 + 1 ≤ d; omega) rfl rfl rfl (Nat.le_of_ble_eq_true rfl) (Nat.le_of_ble_eq_true rfl) (k_checkRangeT (by omega) h1) (by decide) (by decide) (Or.inl ⟨rfl, rfl, rfl⟩)
theorem k_shootT3 {S : m_S} {I : m_I} {lg : Int64} {d m s : Nat} {x : Int32} (hd : 8 ≤ d) (hM : Md I m) (hs : s < m) (h1 : nI 1 ≤ x ∧ x ≤ nI 1000) (h : ¬ (I (scI s) 15 = I 72 4 ∧ I (scI s) 12 = 0)) : m_T S M_X10_shoot d [.ref 0, .int (nI s), .int x] (hh I lg) "java/lang/IllegalStateException" := by
  have hM2 := hM.2
  refine ms_aload_n dX10_shoot_0 rfl ?_
  refine ms_iload_n dX10_shoot_1 rfl ?_
  refine qRV1 dX10_shoot_2 kX10_57 (by show _ < 178; first | decide | exact lt_sc (by omega) | exact lt_dy (by omega)) (by show (sh0 _).1 = _; first | rfl | rw [sh_sc (by omega)] | rw [sh_dy (by omega)]) (d := d - 1) (by show d - 1 + 1 ≤ d; omega) rfl (Nat.le_of_ble_eq_true rfl) (Nat.le_of_ble_eq_true rfl) (k_checkScene (by omega) hM rfl hs) rfl ?_
  refine ms_iload_n dX10_shoot_5 rfl ?_
  refine ms_iconst (v := nI 1) dX10_shoot_6 (by decide) ?_
  refine ms_sipush (v := nI 1000) dX10_shoot_7 (by decide) ?_
  refine qRS3 dX10_shoot_10 kX10_64 (d := d - 1) (by show d - 1 + 1 ≤ d; omega) rfl rfl rfl (Nat.le_of_ble_eq_true rfl) (Nat.le_of_ble_eq_true rfl) (k_checkRange h1.1 h1.2) rfl ?_
  refine ms_aload_n dX10_shoot_13 rfl ?_
  refine q_getr dX10_shoot_14 fX10_10 kd_10_0 (by first | decide | exact lt_sc (by omega) | exact lt_dy (by omega) | exact lt_rw (by omega) | exact lt_wa (by omega) | exact lt_le (by omega)) (by first | rfl | rw [sh_sc (by omega)] | rw [sh_dy (by omega)]) (by first | rfl | exact rf_wa (by omega) | exact rf_le (by omega) | exact rf_rw (by omega)) ?_
  refine q_getr dX10_shoot_17 fX10_96 kd_9_0 (by first | decide | exact lt_sc (by omega) | exact lt_dy (by omega) | exact lt_rw (by omega) | exact lt_wa (by omega) | exact lt_le (by omega)) (by first | rfl | rw [sh_sc (by omega)] | rw [sh_dy (by omega)]) (by first | rfl | exact rf_wa (by omega) | exact rf_le (by omega) | exact rf_rw (by omega)) ?_
  refine ms_iload_n dX10_shoot_20 rfl ?_
  refine q_aald dX10_shoot_21 (by first | exact Or.inl ⟨rfl, by omega, rfl⟩ | exact Or.inr ⟨rfl, by omega, rfl⟩) ?_
  refine ms_astore_n dX10_shoot_22 (Nat.le_of_ble_eq_true rfl) ?_
  refine ms_aload_n dX10_shoot_23 rfl ?_
  refine q_geti dX10_shoot_24 fX10_231 (by rw [kd_8_15]; decide) (by first | decide | exact lt_sc (by omega) | exact lt_dy (by omega) | exact lt_rw (by omega) | exact lt_wa (by omega) | exact lt_le (by omega)) (by first | rfl | rw [sh_sc (by omega)] | rw [sh_dy (by omega)]) rfl ?_
  refine ms_aload_n dX10_shoot_27 rfl ?_
  refine q_getr dX10_shoot_28 fX10_35 kd_10_3 (by first | decide | exact lt_sc (by omega) | exact lt_dy (by omega) | exact lt_rw (by omega) | exact lt_wa (by omega) | exact lt_le (by omega)) (by first | rfl | rw [sh_sc (by omega)] | rw [sh_dy (by omega)]) (by first | rfl | exact rf_wa (by omega) | exact rf_le (by omega) | exact rf_rw (by omega)) ?_
  refine q_geti dX10_shoot_31 fX10_212 (by rw [kd_0_4]; decide) (by first | decide | exact lt_sc (by omega) | exact lt_dy (by omega) | exact lt_rw (by omega) | exact lt_wa (by omega) | exact lt_le (by omega)) (by first | rfl | rw [sh_sc (by omega)] | rw [sh_dy (by omega)]) rfl ?_
  refine ms_icmp_ne (tgt := 44) dX10_shoot_34 (by decide) (fun c34 => ?_) (fun c34 => ?_)
  · exact ms_thrW dX10_shoot_44 dX10_shoot_47 dX10_shoot_48 dX10_shoot_51 dX10_shoot_54 thX10_shoot_44 rfl (by show 6 ≤ d; omega) (by decide) (by decide) (Nat.le_of_ble_eq_true rfl) ⟨rfl, rfl⟩
  · refine ms_aload_n dX10_shoot_37 rfl ?_
    refine q_geti dX10_shoot_38 fX10_105 (by rw [kd_8_12]; decide) (by first | decide | exact lt_sc (by omega) | exact lt_dy (by omega) | exact lt_rw (by omega) | exact lt_wa (by omega) | exact lt_le (by omega)) (by first | rfl | rw [sh_sc (by omega)] | rw [sh_dy (by omega)]) rfl ?_
    refine ms_if_eq (tgt := 55) dX10_shoot_41 (by decide) (fun c41 => ?_) (fun c41 => ?_)
    · exact absurd ⟨c34, c41⟩ h
    · exact ms_thrW dX10_shoot_44 dX10_shoot_47 dX10_shoot_48 dX10_shoot_51 dX10_shoot_54 thX10_shoot_44 rfl (by show 6 ≤ d; omega) (by decide) (by decide) (Nat.le_of_ble_eq_true rfl) ⟨rfl, rfl⟩
theorem k_strip {S : m_S} {I : m_I} {lg : Int64} {d t n k : Nat} (hd : 3 ≤ d) (ht : t < 30) (hn : I (dyI t) 6 = nI n) (hn2 : n ≤ 8) (hk : k < 2147483648) : m_R S M_X10_strip d [.ref 0, .int (nI t), .int (nI k)] (hh I lg) (some (.int (if k < n then I (rwI t) k else -1))) (hh I lg) := by
  refine ms_iload_n dX10_strip_0 rfl ?_
  refine qRS1 dX10_strip_1 kX10_166 (d := d - 1) (by show d - 1 + 1 ≤ d; omega) rfl (Nat.le_of_ble_eq_true rfl) (Nat.le_of_ble_eq_true rfl) (k_checkDay (by omega) rfl ht) rfl ?_
  refine ms_iload_n dX10_strip_4 rfl ?_
  refine ms_if_ge (tgt := 18) dX10_strip_5 (by decide) (fun c5 => ?_) (fun c5 => ?_)
  · refine ms_aload_n dX10_strip_18 rfl ?_
    refine q_getr dX10_strip_19 fX10_35 kd_10_3 (by first | decide | exact lt_sc (by omega) | exact lt_dy (by omega) | exact lt_rw (by omega) | exact lt_wa (by omega) | exact lt_le (by omega)) (by first | rfl | rw [sh_sc (by omega)] | rw [sh_dy (by omega)]) (by first | rfl | exact rf_wa (by omega) | exact rf_le (by omega) | exact rf_rw (by omega)) ?_
    refine q_getr dX10_strip_22 fX10_190 kd_0_2 (by first | decide | exact lt_sc (by omega) | exact lt_dy (by omega) | exact lt_rw (by omega) | exact lt_wa (by omega) | exact lt_le (by omega)) (by first | rfl | rw [sh_sc (by omega)] | rw [sh_dy (by omega)]) (by first | rfl | exact rf_wa (by omega) | exact rf_le (by omega) | exact rf_rw (by omega)) ?_
    refine ms_iload_n dX10_strip_25 rfl ?_
    refine q_aald dX10_strip_26 (by first | exact Or.inl ⟨rfl, by omega, rfl⟩ | exact Or.inr ⟨rfl, by omega, rfl⟩) ?_
    refine ms_astore_n dX10_strip_27 (Nat.le_of_ble_eq_true rfl) ?_
    refine ms_iload_n dX10_strip_28 rfl ?_
    refine ms_aload_n dX10_strip_29 rfl ?_
    refine q_geti dX10_strip_30 fX10_205 (by rw [kd_3_6]; decide) (by first | decide | exact lt_sc (by omega) | exact lt_dy (by omega) | exact lt_rw (by omega) | exact lt_wa (by omega) | exact lt_le (by omega)) (by first | rfl | rw [sh_sc (by omega)] | rw [sh_dy (by omega)]) hn ?_
    refine n_icmp_ge (tgt := 45) dX10_strip_33 (by decide) (by omega) (by omega) (fun c33 => ?_) (fun c33 => ?_)
    · refine ms_iconst (v := -1) dX10_strip_45 (by decide) ?_
      refine ms_iret dX10_strip_46 rfl rfl ⟨?_, ?_⟩
      · rw [if_neg (show ¬ k < n by omega)]
      · rfl
    · refine ms_aload_n dX10_strip_36 rfl ?_
      refine q_getr dX10_strip_37 fX10_253 kd_3_5 (by first | decide | exact lt_sc (by omega) | exact lt_dy (by omega) | exact lt_rw (by omega) | exact lt_wa (by omega) | exact lt_le (by omega)) (by first | rfl | rw [sh_sc (by omega)] | rw [sh_dy (by omega)]) (by first | rfl | exact rf_wa (by omega) | exact rf_le (by omega) | exact rf_rw (by omega)) ?_
      refine ms_iload_n dX10_strip_40 rfl ?_
      refine q_iald dX10_strip_41 (by first | decide | exact lt_sc (by omega) | exact lt_dy (by omega) | exact lt_rw (by omega) | exact lt_wa (by omega) | exact lt_le (by omega)) (by first | rfl | exact sh_rw (by omega) | exact sh_wa (by omega) | exact sh_le (by omega)) (by omega) (by decide) rfl ?_
      refine ms_goto (tgt := 46) dX10_strip_42 (by decide) ?_
      refine ms_iret dX10_strip_46 rfl rfl ⟨?_, ?_⟩
      · rw [if_pos (show k < n by omega)]
      · rfl
  · exact absurd (Int32.not_lt.mp (nI_pos (by omega))) c5
theorem k_stripT1 {S : m_S} {I : m_I} {lg : Int64} {d : Nat} {x y : Int32} (hd : 8 ≤ d) (hx : ∀ j, j < 30 → x ≠ nI j) : m_T S M_X10_strip d [.ref 0, .int x, .int y] (hh I lg) "java/lang/IndexOutOfBoundsException" := by
  refine ms_iload_n dX10_strip_0 rfl ?_
  exact qTS1 dX10_strip_1 kX10_166 (d := d - 1) (by show d - 1 + 1 ≤ d; omega) rfl (Nat.le_of_ble_eq_true rfl) (Nat.le_of_ble_eq_true rfl) (k_checkDayT (by omega) hx) (by decide) (by decide) (Or.inl ⟨rfl, rfl, rfl⟩)
theorem k_stripT2 {S : m_S} {I : m_I} {lg : Int64} {d t : Nat} {y : Int32} (hd : 8 ≤ d) (ht : t < 30) (hy : y < 0) : m_T S M_X10_strip d [.ref 0, .int (nI t), .int y] (hh I lg) "java/lang/IndexOutOfBoundsException" := by
  refine ms_iload_n dX10_strip_0 rfl ?_
  refine qRS1 dX10_strip_1 kX10_166 (d := d - 1) (by show d - 1 + 1 ≤ d; omega) rfl (Nat.le_of_ble_eq_true rfl) (Nat.le_of_ble_eq_true rfl) (k_checkDay (by omega) rfl ht) rfl ?_
  refine ms_iload_n dX10_strip_4 rfl ?_
  refine ms_if_ge (tgt := 18) dX10_strip_5 (by decide) (fun c5 => ?_) (fun c5 => ?_)
  · exact absurd hy (Int32.not_lt.mpr c5)
  · exact ms_thr dX10_strip_8 dX10_strip_11 dX10_strip_12 dX10_strip_14 dX10_strip_17 thX10_strip_8 rfl (by show 6 ≤ d; omega) (by decide) (by decide) (Nat.le_of_ble_eq_true rfl) ⟨rfl, rfl⟩
theorem k_put {S : m_S} {I K : m_I} {lg : Int64} {d m s t n a now : Nat} {r : Int32} (hd : 5 ≤ d) (hM : Md I m) (hs : s < m) (ht : t < 30) (hn : I (dyI t) 6 = nI n) (hn2 : n < 8) (ha : a ≤ n) (hlo : loC I s = true) (hnow : I 72 4 = nI now) (hnow2 : now ≤ t) (hfo : ∀ d, 4 ≤ d → m_R S M_X0_faultsOf d [.ref 72, .int (nI s)] (hh (puI I s t a n) lg) (some (.int r)) (hh K lg)) : m_R S M_X10_put d [.ref 0, .int (nI s), .int (nI t), .int (nI a)] (hh I lg) (some (.int r)) (hh K lg) := by
  have hM2 := hM.2
  refine ms_aload_n dX10_put_0 rfl ?_
  refine ms_iload_n dX10_put_1 rfl ?_
  refine qRV1 dX10_put_2 kX10_57 (by show _ < 178; first | decide | exact lt_sc (by omega) | exact lt_dy (by omega)) (by show (sh0 _).1 = _; first | rfl | rw [sh_sc (by omega)] | rw [sh_dy (by omega)]) (d := d - 1) (by show d - 1 + 1 ≤ d; omega) rfl (Nat.le_of_ble_eq_true rfl) (Nat.le_of_ble_eq_true rfl) (k_checkScene (by omega) hM rfl hs) rfl ?_
  refine ms_iload_n dX10_put_5 rfl ?_
  refine qRS1 dX10_put_6 kX10_166 (d := d - 1) (by show d - 1 + 1 ≤ d; omega) rfl (Nat.le_of_ble_eq_true rfl) (Nat.le_of_ble_eq_true rfl) (k_checkDay (by omega) rfl ht) rfl ?_
  refine ms_aload_n dX10_put_9 rfl ?_
  refine q_getr dX10_put_10 fX10_35 kd_10_3 (by first | decide | exact lt_sc (by omega) | exact lt_dy (by omega) | exact lt_rw (by omega) | exact lt_wa (by omega) | exact lt_le (by omega)) (by first | rfl | rw [sh_sc (by omega)] | rw [sh_dy (by omega)]) (by first | rfl | exact rf_wa (by omega) | exact rf_le (by omega) | exact rf_rw (by omega)) ?_
  refine q_getr dX10_put_13 fX10_190 kd_0_2 (by first | decide | exact lt_sc (by omega) | exact lt_dy (by omega) | exact lt_rw (by omega) | exact lt_wa (by omega) | exact lt_le (by omega)) (by first | rfl | rw [sh_sc (by omega)] | rw [sh_dy (by omega)]) (by first | rfl | exact rf_wa (by omega) | exact rf_le (by omega) | exact rf_rw (by omega)) ?_
  refine ms_iload_n dX10_put_16 rfl ?_
  refine q_aald dX10_put_17 (by first | exact Or.inl ⟨rfl, by omega, rfl⟩ | exact Or.inr ⟨rfl, by omega, rfl⟩) ?_
  refine ms_astore dX10_put_18 (Nat.le_of_ble_eq_true rfl) ?_
  refine ms_iload_n dX10_put_20 rfl ?_
  refine ms_aload dX10_put_21 rfl ?_
  refine q_geti dX10_put_23 fX10_205 (by rw [kd_3_6]; decide) (by first | decide | exact lt_sc (by omega) | exact lt_dy (by omega) | exact lt_rw (by omega) | exact lt_wa (by omega) | exact lt_le (by omega)) (by first | rfl | rw [sh_sc (by omega)] | rw [sh_dy (by omega)]) hn ?_
  refine ms_iconst (v := nI 1) dX10_put_26 (by decide) ?_
  refine n_iadd dX10_put_27 ?_
  refine qRS2 dX10_put_28 kX10_131 (d := d - 1) (by show d - 1 + 1 ≤ d; omega) rfl rfl (Nat.le_of_ble_eq_true rfl) (Nat.le_of_ble_eq_true rfl) (k_checkIndex rfl (by omega) (by omega)) rfl ?_
  refine ms_aload_n dX10_put_31 rfl ?_
  refine q_getr dX10_put_32 fX10_10 kd_10_0 (by first | decide | exact lt_sc (by omega) | exact lt_dy (by omega) | exact lt_rw (by omega) | exact lt_wa (by omega) | exact lt_le (by omega)) (by first | rfl | rw [sh_sc (by omega)] | rw [sh_dy (by omega)]) (by first | rfl | exact rf_wa (by omega) | exact rf_le (by omega) | exact rf_rw (by omega)) ?_
  refine q_getr dX10_put_35 fX10_96 kd_9_0 (by first | decide | exact lt_sc (by omega) | exact lt_dy (by omega) | exact lt_rw (by omega) | exact lt_wa (by omega) | exact lt_le (by omega)) (by first | rfl | rw [sh_sc (by omega)] | rw [sh_dy (by omega)]) (by first | rfl | exact rf_wa (by omega) | exact rf_le (by omega) | exact rf_rw (by omega)) ?_
  refine ms_iload_n dX10_put_38 rfl ?_
  refine q_aald dX10_put_39 (by first | exact Or.inl ⟨rfl, by omega, rfl⟩ | exact Or.inr ⟨rfl, by omega, rfl⟩) ?_
  refine qRV0 dX10_put_40 kX10_206 (by show _ < 178; first | decide | exact lt_sc (by omega) | exact lt_dy (by omega)) (by show (sh0 _).1 = _; first | rfl | rw [sh_sc (by omega)] | rw [sh_dy (by omega)]) (d := d - 1) (by show d - 1 + 1 ≤ d; omega)  (Nat.le_of_ble_eq_true rfl) (Nat.le_of_ble_eq_true rfl) (k_isLoose (by omega)) rfl ?_
  refine ms_if_ne (tgt := 56) dX10_put_43 (by decide) (fun c43 => ?_) (fun c43 => ?_)
  · refine ms_iload_n dX10_put_56 rfl ?_
    refine ms_aload_n dX10_put_57 rfl ?_
    refine q_getr dX10_put_58 fX10_35 kd_10_3 (by first | decide | exact lt_sc (by omega) | exact lt_dy (by omega) | exact lt_rw (by omega) | exact lt_wa (by omega) | exact lt_le (by omega)) (by first | rfl | rw [sh_sc (by omega)] | rw [sh_dy (by omega)]) (by first | rfl | exact rf_wa (by omega) | exact rf_le (by omega) | exact rf_rw (by omega)) ?_
    refine q_geti dX10_put_61 fX10_212 (by rw [kd_0_4]; decide) (by first | decide | exact lt_sc (by omega) | exact lt_dy (by omega) | exact lt_rw (by omega) | exact lt_wa (by omega) | exact lt_le (by omega)) (by first | rfl | rw [sh_sc (by omega)] | rw [sh_dy (by omega)]) hnow ?_
    refine n_icmp_lt (tgt := 75) dX10_put_64 (by decide) (by omega) (by omega) (fun c64 => ?_) (fun c64 => ?_)
    · omega
    · refine ms_aload dX10_put_67 rfl ?_
      refine qRV0 dX10_put_69 kX10_215 (by show _ < 178; first | decide | exact lt_sc (by omega) | exact lt_dy (by omega)) (by show (sh0 _).1 = _; first | rfl | rw [sh_sc (by omega)] | rw [sh_dy (by omega)]) (d := d - 1) (by show d - 1 + 1 ≤ d; omega)  (Nat.le_of_ble_eq_true rfl) (Nat.le_of_ble_eq_true rfl) (k_isFull ht hn (by omega)) rfl ?_
      refine ms_if_eq (tgt := 85) dX10_put_72 (by decide) (fun c72 => ?_) (fun c72 => ?_)
      · refine ms_aload_n dX10_put_85 rfl ?_
        refine q_getr dX10_put_86 fX10_35 kd_10_3 (by first | decide | exact lt_sc (by omega) | exact lt_dy (by omega) | exact lt_rw (by omega) | exact lt_wa (by omega) | exact lt_le (by omega)) (by first | rfl | rw [sh_sc (by omega)] | rw [sh_dy (by omega)]) (by first | rfl | exact rf_wa (by omega) | exact rf_le (by omega) | exact rf_rw (by omega)) ?_
        refine ms_iload_n dX10_put_89 rfl ?_
        refine ms_iload_n dX10_put_90 rfl ?_
        refine ms_iload_n dX10_put_91 rfl ?_
        refine qRV3 dX10_put_92 kX10_220 (by show _ < 178; first | decide | exact lt_sc (by omega) | exact lt_dy (by omega)) (by show (sh0 _).1 = _; first | rfl | rw [sh_sc (by omega)] | rw [sh_dy (by omega)]) (d := d - 1) (by show d - 1 + 1 ≤ d; omega) rfl rfl rfl (Nat.le_of_ble_eq_true rfl) (Nat.le_of_ble_eq_true rfl) (k_putOn (by omega) (by omega) ht hn hn2 (by omega)) rfl ?_
        refine ms_aload_n dX10_put_95 rfl ?_
        refine q_getr dX10_put_96 fX10_35 kd_10_3 (by first | decide | exact lt_sc (by omega) | exact lt_dy (by omega) | exact lt_rw (by omega) | exact lt_wa (by omega) | exact lt_le (by omega)) (by first | rfl | rw [sh_sc (by omega)] | rw [sh_dy (by omega)]) (by first | rfl | exact rf_wa (by omega) | exact rf_le (by omega) | exact rf_rw (by omega)) ?_
        refine ms_iload_n dX10_put_99 rfl ?_
        refine qRV1 dX10_put_100 kX10_223 (by show _ < 178; first | decide | exact lt_sc (by omega) | exact lt_dy (by omega)) (by show (sh0 _).1 = _; first | rfl | rw [sh_sc (by omega)] | rw [sh_dy (by omega)]) (d := d - 1) (by show d - 1 + 1 ≤ d; omega) rfl (Nat.le_of_ble_eq_true rfl) (Nat.le_of_ble_eq_true rfl) (hfo _ (by omega)) rfl ?_
        refine ms_iret dX10_put_103 rfl rfl ⟨?_, ?_⟩
        · rfl
        · rfl
      · exact absurd (of_decide_eq_true (bi_n0.mp c72)) (by omega)
  · exact absurd (bi_0.mp c43) (by rw [hlo]; decide)
theorem k_putT1 {S : m_S} {I : m_I} {lg : Int64} {d m : Nat} {x y z : Int32} (hd : 8 ≤ d) (hM : Md I m) (hx : ∀ j, j < m → x ≠ nI j) : m_T S M_X10_put d [.ref 0, .int x, .int y, .int z] (hh I lg) "java/lang/IndexOutOfBoundsException" := by
  refine ms_aload_n dX10_put_0 rfl ?_
  refine ms_iload_n dX10_put_1 rfl ?_
  exact qTV1 dX10_put_2 kX10_57 (by show _ < 178; first | decide | exact lt_sc (by omega) | exact lt_dy (by omega)) (by show (sh0 _).1 = _; first | rfl | rw [sh_sc (by omega)] | rw [sh_dy (by omega)]) (d := d - 1) (by show d - 1 + 1 ≤ d; omega) rfl (Nat.le_of_ble_eq_true rfl) (Nat.le_of_ble_eq_true rfl) (k_checkSceneT (by omega) hM hx) (by decide) (by decide) (Or.inl ⟨rfl, rfl, rfl⟩)
theorem k_putT2 {S : m_S} {I : m_I} {lg : Int64} {d m s : Nat} {y z : Int32} (hd : 8 ≤ d) (hM : Md I m) (hs : s < m) (hy : ∀ j, j < 30 → y ≠ nI j) : m_T S M_X10_put d [.ref 0, .int (nI s), .int y, .int z] (hh I lg) "java/lang/IndexOutOfBoundsException" := by
  refine ms_aload_n dX10_put_0 rfl ?_
  refine ms_iload_n dX10_put_1 rfl ?_
  refine qRV1 dX10_put_2 kX10_57 (by show _ < 178; first | decide | exact lt_sc (by omega) | exact lt_dy (by omega)) (by show (sh0 _).1 = _; first | rfl | rw [sh_sc (by omega)] | rw [sh_dy (by omega)]) (d := d - 1) (by show d - 1 + 1 ≤ d; omega) rfl (Nat.le_of_ble_eq_true rfl) (Nat.le_of_ble_eq_true rfl) (k_checkScene (by omega) hM rfl hs) rfl ?_
  refine ms_iload_n dX10_put_5 rfl ?_
  exact qTS1 dX10_put_6 kX10_166 (d := d - 1) (by show d - 1 + 1 ≤ d; omega) rfl (Nat.le_of_ble_eq_true rfl) (Nat.le_of_ble_eq_true rfl) (k_checkDayT (by omega) hy) (by decide) (by decide) (Or.inl ⟨rfl, rfl, rfl⟩)
theorem k_putT3 {S : m_S} {I : m_I} {lg : Int64} {d m s t n : Nat} {z : Int32} (hd : 8 ≤ d) (hM : Md I m) (hs : s < m) (ht : t < 30) (hn : I (dyI t) 6 = nI n) (hn2 : n ≤ 8) (hz : ∀ j, j < n + 1 → z ≠ nI j) : m_T S M_X10_put d [.ref 0, .int (nI s), .int (nI t), .int z] (hh I lg) "java/lang/IndexOutOfBoundsException" := by
  have hM2 := hM.2
  refine ms_aload_n dX10_put_0 rfl ?_
  refine ms_iload_n dX10_put_1 rfl ?_
  refine qRV1 dX10_put_2 kX10_57 (by show _ < 178; first | decide | exact lt_sc (by omega) | exact lt_dy (by omega)) (by show (sh0 _).1 = _; first | rfl | rw [sh_sc (by omega)] | rw [sh_dy (by omega)]) (d := d - 1) (by show d - 1 + 1 ≤ d; omega) rfl (Nat.le_of_ble_eq_true rfl) (Nat.le_of_ble_eq_true rfl) (k_checkScene (by omega) hM rfl hs) rfl ?_
  refine ms_iload_n dX10_put_5 rfl ?_
  refine qRS1 dX10_put_6 kX10_166 (d := d - 1) (by show d - 1 + 1 ≤ d; omega) rfl (Nat.le_of_ble_eq_true rfl) (Nat.le_of_ble_eq_true rfl) (k_checkDay (by omega) rfl ht) rfl ?_
  refine ms_aload_n dX10_put_9 rfl ?_
  refine q_getr dX10_put_10 fX10_35 kd_10_3 (by first | decide | exact lt_sc (by omega) | exact lt_dy (by omega) | exact lt_rw (by omega) | exact lt_wa (by omega) | exact lt_le (by omega)) (by first | rfl | rw [sh_sc (by omega)] | rw [sh_dy (by omega)]) (by first | rfl | exact rf_wa (by omega) | exact rf_le (by omega) | exact rf_rw (by omega)) ?_
  refine q_getr dX10_put_13 fX10_190 kd_0_2 (by first | decide | exact lt_sc (by omega) | exact lt_dy (by omega) | exact lt_rw (by omega) | exact lt_wa (by omega) | exact lt_le (by omega)) (by first | rfl | rw [sh_sc (by omega)] | rw [sh_dy (by omega)]) (by first | rfl | exact rf_wa (by omega) | exact rf_le (by omega) | exact rf_rw (by omega)) ?_
  refine ms_iload_n dX10_put_16 rfl ?_
  refine q_aald dX10_put_17 (by first | exact Or.inl ⟨rfl, by omega, rfl⟩ | exact Or.inr ⟨rfl, by omega, rfl⟩) ?_
  refine ms_astore dX10_put_18 (Nat.le_of_ble_eq_true rfl) ?_
  refine ms_iload_n dX10_put_20 rfl ?_
  refine ms_aload dX10_put_21 rfl ?_
  refine q_geti dX10_put_23 fX10_205 (by rw [kd_3_6]; decide) (by first | decide | exact lt_sc (by omega) | exact lt_dy (by omega) | exact lt_rw (by omega) | exact lt_wa (by omega) | exact lt_le (by omega)) (by first | rfl | rw [sh_sc (by omega)] | rw [sh_dy (by omega)]) hn ?_
  refine ms_iconst (v := nI 1) dX10_put_26 (by decide) ?_
  refine n_iadd dX10_put_27 ?_
  exact qTS2 dX10_put_28 kX10_131 (d := d - 1) (by show d - 1 + 1 ≤ d; omega) rfl rfl (Nat.le_of_ble_eq_true rfl) (Nat.le_of_ble_eq_true rfl) (k_checkIndexT (by omega) hz (by omega)) (by decide) (by decide) (Or.inl ⟨rfl, rfl, rfl⟩)
theorem k_putT4 {S : m_S} {I : m_I} {lg : Int64} {d m s t n a now : Nat} (hd : 8 ≤ d) (hM : Md I m) (hs : s < m) (ht : t < 30) (hn : I (dyI t) 6 = nI n) (hn2 : n ≤ 8) (ha : a ≤ n) (hnow : I 72 4 = nI now) (hnow2 : now < 30) (h : ¬ (loC I s = true ∧ now ≤ t ∧ n < 8)) : m_T S M_X10_put d [.ref 0, .int (nI s), .int (nI t), .int (nI a)] (hh I lg) "java/lang/IllegalStateException" := by
  have hM2 := hM.2
  refine ms_aload_n dX10_put_0 rfl ?_
  refine ms_iload_n dX10_put_1 rfl ?_
  refine qRV1 dX10_put_2 kX10_57 (by show _ < 178; first | decide | exact lt_sc (by omega) | exact lt_dy (by omega)) (by show (sh0 _).1 = _; first | rfl | rw [sh_sc (by omega)] | rw [sh_dy (by omega)]) (d := d - 1) (by show d - 1 + 1 ≤ d; omega) rfl (Nat.le_of_ble_eq_true rfl) (Nat.le_of_ble_eq_true rfl) (k_checkScene (by omega) hM rfl hs) rfl ?_
  refine ms_iload_n dX10_put_5 rfl ?_
  refine qRS1 dX10_put_6 kX10_166 (d := d - 1) (by show d - 1 + 1 ≤ d; omega) rfl (Nat.le_of_ble_eq_true rfl) (Nat.le_of_ble_eq_true rfl) (k_checkDay (by omega) rfl ht) rfl ?_
  refine ms_aload_n dX10_put_9 rfl ?_
  refine q_getr dX10_put_10 fX10_35 kd_10_3 (by first | decide | exact lt_sc (by omega) | exact lt_dy (by omega) | exact lt_rw (by omega) | exact lt_wa (by omega) | exact lt_le (by omega)) (by first | rfl | rw [sh_sc (by omega)] | rw [sh_dy (by omega)]) (by first | rfl | exact rf_wa (by omega) | exact rf_le (by omega) | exact rf_rw (by omega)) ?_
  refine q_getr dX10_put_13 fX10_190 kd_0_2 (by first | decide | exact lt_sc (by omega) | exact lt_dy (by omega) | exact lt_rw (by omega) | exact lt_wa (by omega) | exact lt_le (by omega)) (by first | rfl | rw [sh_sc (by omega)] | rw [sh_dy (by omega)]) (by first | rfl | exact rf_wa (by omega) | exact rf_le (by omega) | exact rf_rw (by omega)) ?_
  refine ms_iload_n dX10_put_16 rfl ?_
  refine q_aald dX10_put_17 (by first | exact Or.inl ⟨rfl, by omega, rfl⟩ | exact Or.inr ⟨rfl, by omega, rfl⟩) ?_
  refine ms_astore dX10_put_18 (Nat.le_of_ble_eq_true rfl) ?_
  refine ms_iload_n dX10_put_20 rfl ?_
  refine ms_aload dX10_put_21 rfl ?_
  refine q_geti dX10_put_23 fX10_205 (by rw [kd_3_6]; decide) (by first | decide | exact lt_sc (by omega) | exact lt_dy (by omega) | exact lt_rw (by omega) | exact lt_wa (by omega) | exact lt_le (by omega)) (by first | rfl | rw [sh_sc (by omega)] | rw [sh_dy (by omega)]) hn ?_
  refine ms_iconst (v := nI 1) dX10_put_26 (by decide) ?_
  refine n_iadd dX10_put_27 ?_
  refine qRS2 dX10_put_28 kX10_131 (d := d - 1) (by show d - 1 + 1 ≤ d; omega) rfl rfl (Nat.le_of_ble_eq_true rfl) (Nat.le_of_ble_eq_true rfl) (k_checkIndex rfl (by omega) (by omega)) rfl ?_
  refine ms_aload_n dX10_put_31 rfl ?_
  refine q_getr dX10_put_32 fX10_10 kd_10_0 (by first | decide | exact lt_sc (by omega) | exact lt_dy (by omega) | exact lt_rw (by omega) | exact lt_wa (by omega) | exact lt_le (by omega)) (by first | rfl | rw [sh_sc (by omega)] | rw [sh_dy (by omega)]) (by first | rfl | exact rf_wa (by omega) | exact rf_le (by omega) | exact rf_rw (by omega)) ?_
  refine q_getr dX10_put_35 fX10_96 kd_9_0 (by first | decide | exact lt_sc (by omega) | exact lt_dy (by omega) | exact lt_rw (by omega) | exact lt_wa (by omega) | exact lt_le (by omega)) (by first | rfl | rw [sh_sc (by omega)] | rw [sh_dy (by omega)]) (by first | rfl | exact rf_wa (by omega) | exact rf_le (by omega) | exact rf_rw (by omega)) ?_
  refine ms_iload_n dX10_put_38 rfl ?_
  refine q_aald dX10_put_39 (by first | exact Or.inl ⟨rfl, by omega, rfl⟩ | exact Or.inr ⟨rfl, by omega, rfl⟩) ?_
  refine qRV0 dX10_put_40 kX10_206 (by show _ < 178; first | decide | exact lt_sc (by omega) | exact lt_dy (by omega)) (by show (sh0 _).1 = _; first | rfl | rw [sh_sc (by omega)] | rw [sh_dy (by omega)]) (d := d - 1) (by show d - 1 + 1 ≤ d; omega)  (Nat.le_of_ble_eq_true rfl) (Nat.le_of_ble_eq_true rfl) (k_isLoose (by omega)) rfl ?_
  refine ms_if_ne (tgt := 56) dX10_put_43 (by decide) (fun c43 => ?_) (fun c43 => ?_)
  · refine ms_iload_n dX10_put_56 rfl ?_
    refine ms_aload_n dX10_put_57 rfl ?_
    refine q_getr dX10_put_58 fX10_35 kd_10_3 (by first | decide | exact lt_sc (by omega) | exact lt_dy (by omega) | exact lt_rw (by omega) | exact lt_wa (by omega) | exact lt_le (by omega)) (by first | rfl | rw [sh_sc (by omega)] | rw [sh_dy (by omega)]) (by first | rfl | exact rf_wa (by omega) | exact rf_le (by omega) | exact rf_rw (by omega)) ?_
    refine q_geti dX10_put_61 fX10_212 (by rw [kd_0_4]; decide) (by first | decide | exact lt_sc (by omega) | exact lt_dy (by omega) | exact lt_rw (by omega) | exact lt_wa (by omega) | exact lt_le (by omega)) (by first | rfl | rw [sh_sc (by omega)] | rw [sh_dy (by omega)]) hnow ?_
    refine n_icmp_lt (tgt := 75) dX10_put_64 (by decide) (by omega) (by omega) (fun c64 => ?_) (fun c64 => ?_)
    · exact ms_thr dX10_put_75 dX10_put_78 dX10_put_79 dX10_put_81 dX10_put_84 thX10_put_75 rfl (by show 6 ≤ d; omega) (by decide) (by decide) (Nat.le_of_ble_eq_true rfl) ⟨rfl, rfl⟩
    · refine ms_aload dX10_put_67 rfl ?_
      refine qRV0 dX10_put_69 kX10_215 (by show _ < 178; first | decide | exact lt_sc (by omega) | exact lt_dy (by omega)) (by show (sh0 _).1 = _; first | rfl | rw [sh_sc (by omega)] | rw [sh_dy (by omega)]) (d := d - 1) (by show d - 1 + 1 ≤ d; omega)  (Nat.le_of_ble_eq_true rfl) (Nat.le_of_ble_eq_true rfl) (k_isFull ht hn (by omega)) rfl ?_
      refine ms_if_eq (tgt := 85) dX10_put_72 (by decide) (fun c72 => ?_) (fun c72 => ?_)
      · exact absurd ⟨bi_n0.mp c43, by omega, Nat.lt_of_not_le (of_decide_eq_false (bi_0.mp c72))⟩ h
      · exact ms_thr dX10_put_75 dX10_put_78 dX10_put_79 dX10_put_81 dX10_put_84 thX10_put_75 rfl (by show 6 ≤ d; omega) (by decide) (by decide) (Nat.le_of_ble_eq_true rfl) ⟨rfl, rfl⟩
  · exact ms_thr dX10_put_46 dX10_put_49 dX10_put_50 dX10_put_52 dX10_put_55 thX10_put_46 rfl (by show 6 ≤ d; omega) (by decide) (by decide) (Nat.le_of_ble_eq_true rfl) ⟨rfl, rfl⟩
theorem k_ofScene0 {S : m_S} {I : m_I} {lg : Int64} {d m s : Nat} (hd : 4 ≤ d) (hM : Md I m) (hs : s < m) : m_R S M_X10_ofScene d [.ref 0, .int (nI s), .int (nI 0)] (hh I lg) (some (.int (nI (stC I s)))) (hh I lg) := by
  have hM2 := hM.2
  refine ms_aload_n dX10_ofScene_0 rfl ?_
  refine ms_iload_n dX10_ofScene_1 rfl ?_
  refine qRV1 dX10_ofScene_2 kX10_57 (by show _ < 178; first | decide | exact lt_sc (by omega) | exact lt_dy (by omega)) (by show (sh0 _).1 = _; first | rfl | rw [sh_sc (by omega)] | rw [sh_dy (by omega)]) (d := d - 1) (by show d - 1 + 1 ≤ d; omega) rfl (Nat.le_of_ble_eq_true rfl) (Nat.le_of_ble_eq_true rfl) (k_checkScene (by omega) hM rfl hs) rfl ?_
  refine ms_iload_n dX10_ofScene_5 rfl ?_
  refine ms_iconst (v := nI 0) dX10_ofScene_6 (by decide) ?_
  refine ms_iconst (v := nI 4) dX10_ofScene_7 (by decide) ?_
  refine qRS3 dX10_ofScene_8 kX10_64 (d := d - 1) (by show d - 1 + 1 ≤ d; omega) rfl rfl rfl (Nat.le_of_ble_eq_true rfl) (Nat.le_of_ble_eq_true rfl) (k_checkRange (by decide) (by decide)) rfl ?_
  refine ms_aload_n dX10_ofScene_11 rfl ?_
  refine q_getr dX10_ofScene_12 fX10_10 kd_10_0 (by first | decide | exact lt_sc (by omega) | exact lt_dy (by omega) | exact lt_rw (by omega) | exact lt_wa (by omega) | exact lt_le (by omega)) (by first | rfl | rw [sh_sc (by omega)] | rw [sh_dy (by omega)]) (by first | rfl | exact rf_wa (by omega) | exact rf_le (by omega) | exact rf_rw (by omega)) ?_
  refine q_getr dX10_ofScene_15 fX10_96 kd_9_0 (by first | decide | exact lt_sc (by omega) | exact lt_dy (by omega) | exact lt_rw (by omega) | exact lt_wa (by omega) | exact lt_le (by omega)) (by first | rfl | rw [sh_sc (by omega)] | rw [sh_dy (by omega)]) (by first | rfl | exact rf_wa (by omega) | exact rf_le (by omega) | exact rf_rw (by omega)) ?_
  refine ms_iload_n dX10_ofScene_18 rfl ?_
  refine q_aald dX10_ofScene_19 (by first | exact Or.inl ⟨rfl, by omega, rfl⟩ | exact Or.inr ⟨rfl, by omega, rfl⟩) ?_
  refine ms_astore_n dX10_ofScene_20 (Nat.le_of_ble_eq_true rfl) ?_
  refine ms_iload_n dX10_ofScene_21 rfl ?_
  refine ms_if_ne (tgt := 30) dX10_ofScene_22 (by decide) (fun c22 => ?_) (fun c22 => ?_)
  · exact absurd rfl c22
  · refine ms_aload_n dX10_ofScene_25 rfl ?_
    refine qRV0 dX10_ofScene_26 kX10_226 (by show _ < 178; first | decide | exact lt_sc (by omega) | exact lt_dy (by omega)) (by show (sh0 _).1 = _; first | rfl | rw [sh_sc (by omega)] | rw [sh_dy (by omega)]) (d := d - 1) (by show d - 1 + 1 ≤ d; omega)  (Nat.le_of_ble_eq_true rfl) (Nat.le_of_ble_eq_true rfl) (k_status (by omega)) rfl ?_
    refine ms_iret dX10_ofScene_29 rfl rfl ⟨?_, ?_⟩
    · rfl
    · rfl
theorem k_ofSceneN {S : m_S} {I : m_I} {lg : Int64} {d m s : Nat} {x : Int32} (hd : 4 ≤ d) (hM : Md I m) (hs : s < m) (h1 : nI 1 ≤ x) (h2 : x ≤ nI 4) (hdy : I (scI s) 15 = -1) : m_R S M_X10_ofScene d [.ref 0, .int (nI s), .int x] (hh I lg) (some (.int (-1))) (hh I lg) := by
  have hM2 := hM.2
  refine ms_aload_n dX10_ofScene_0 rfl ?_
  refine ms_iload_n dX10_ofScene_1 rfl ?_
  refine qRV1 dX10_ofScene_2 kX10_57 (by show _ < 178; first | decide | exact lt_sc (by omega) | exact lt_dy (by omega)) (by show (sh0 _).1 = _; first | rfl | rw [sh_sc (by omega)] | rw [sh_dy (by omega)]) (d := d - 1) (by show d - 1 + 1 ≤ d; omega) rfl (Nat.le_of_ble_eq_true rfl) (Nat.le_of_ble_eq_true rfl) (k_checkScene (by omega) hM rfl hs) rfl ?_
  refine ms_iload_n dX10_ofScene_5 rfl ?_
  refine ms_iconst (v := nI 0) dX10_ofScene_6 (by decide) ?_
  refine ms_iconst (v := nI 4) dX10_ofScene_7 (by decide) ?_
  refine qRS3 dX10_ofScene_8 kX10_64 (d := d - 1) (by show d - 1 + 1 ≤ d; omega) rfl rfl rfl (Nat.le_of_ble_eq_true rfl) (Nat.le_of_ble_eq_true rfl) (k_checkRange (Int32.le_trans (by decide) h1) h2) rfl ?_
  refine ms_aload_n dX10_ofScene_11 rfl ?_
  refine q_getr dX10_ofScene_12 fX10_10 kd_10_0 (by first | decide | exact lt_sc (by omega) | exact lt_dy (by omega) | exact lt_rw (by omega) | exact lt_wa (by omega) | exact lt_le (by omega)) (by first | rfl | rw [sh_sc (by omega)] | rw [sh_dy (by omega)]) (by first | rfl | exact rf_wa (by omega) | exact rf_le (by omega) | exact rf_rw (by omega)) ?_
  refine q_getr dX10_ofScene_15 fX10_96 kd_9_0 (by first | decide | exact lt_sc (by omega) | exact lt_dy (by omega) | exact lt_rw (by omega) | exact lt_wa (by omega) | exact lt_le (by omega)) (by first | rfl | rw [sh_sc (by omega)] | rw [sh_dy (by omega)]) (by first | rfl | exact rf_wa (by omega) | exact rf_le (by omega) | exact rf_rw (by omega)) ?_
  refine ms_iload_n dX10_ofScene_18 rfl ?_
  refine q_aald dX10_ofScene_19 (by first | exact Or.inl ⟨rfl, by omega, rfl⟩ | exact Or.inr ⟨rfl, by omega, rfl⟩) ?_
  refine ms_astore_n dX10_ofScene_20 (Nat.le_of_ble_eq_true rfl) ?_
  refine ms_iload_n dX10_ofScene_21 rfl ?_
  refine ms_if_ne (tgt := 30) dX10_ofScene_22 (by decide) (fun c22 => ?_) (fun c22 => ?_)
  · refine ms_aload_n dX10_ofScene_30 rfl ?_
    refine q_geti dX10_ofScene_31 fX10_231 (by rw [kd_8_15]; decide) (by first | decide | exact lt_sc (by omega) | exact lt_dy (by omega) | exact lt_rw (by omega) | exact lt_wa (by omega) | exact lt_le (by omega)) (by first | rfl | rw [sh_sc (by omega)] | rw [sh_dy (by omega)]) hdy ?_
    refine ms_iconst (v := -1) dX10_ofScene_34 (by decide) ?_
    refine ms_icmp_ne (tgt := 40) dX10_ofScene_35 (by decide) (fun c35 => ?_) (fun c35 => ?_)
    · exact absurd rfl c35
    · refine ms_iconst (v := -1) dX10_ofScene_38 (by decide) ?_
      refine ms_iret dX10_ofScene_39 rfl rfl ⟨?_, ?_⟩
      · rfl
      · rfl
  · exact absurd (show nI 1 ≤ 0 by rw [← c22]; exact h1) (by decide)
theorem k_ofScene1 {S : m_S} {I : m_I} {lg : Int64} {d m s : Nat} (hd : 4 ≤ d) (hM : Md I m) (hs : s < m) (hdy : I (scI s) 15 ≠ -1) : m_R S M_X10_ofScene d [.ref 0, .int (nI s), .int (nI 1)] (hh I lg) (some (.int (I (scI s) 15))) (hh I lg) := by
  have hM2 := hM.2
  refine ms_aload_n dX10_ofScene_0 rfl ?_
  refine ms_iload_n dX10_ofScene_1 rfl ?_
  refine qRV1 dX10_ofScene_2 kX10_57 (by show _ < 178; first | decide | exact lt_sc (by omega) | exact lt_dy (by omega)) (by show (sh0 _).1 = _; first | rfl | rw [sh_sc (by omega)] | rw [sh_dy (by omega)]) (d := d - 1) (by show d - 1 + 1 ≤ d; omega) rfl (Nat.le_of_ble_eq_true rfl) (Nat.le_of_ble_eq_true rfl) (k_checkScene (by omega) hM rfl hs) rfl ?_
  refine ms_iload_n dX10_ofScene_5 rfl ?_
  refine ms_iconst (v := nI 0) dX10_ofScene_6 (by decide) ?_
  refine ms_iconst (v := nI 4) dX10_ofScene_7 (by decide) ?_
  refine qRS3 dX10_ofScene_8 kX10_64 (d := d - 1) (by show d - 1 + 1 ≤ d; omega) rfl rfl rfl (Nat.le_of_ble_eq_true rfl) (Nat.le_of_ble_eq_true rfl) (k_checkRange (by decide) (by decide)) rfl ?_
  refine ms_aload_n dX10_ofScene_11 rfl ?_
  refine q_getr dX10_ofScene_12 fX10_10 kd_10_0 (by first | decide | exact lt_sc (by omega) | exact lt_dy (by omega) | exact lt_rw (by omega) | exact lt_wa (by omega) | exact lt_le (by omega)) (by first | rfl | rw [sh_sc (by omega)] | rw [sh_dy (by omega)]) (by first | rfl | exact rf_wa (by omega) | exact rf_le (by omega) | exact rf_rw (by omega)) ?_
  refine q_getr dX10_ofScene_15 fX10_96 kd_9_0 (by first | decide | exact lt_sc (by omega) | exact lt_dy (by omega) | exact lt_rw (by omega) | exact lt_wa (by omega) | exact lt_le (by omega)) (by first | rfl | rw [sh_sc (by omega)] | rw [sh_dy (by omega)]) (by first | rfl | exact rf_wa (by omega) | exact rf_le (by omega) | exact rf_rw (by omega)) ?_
  refine ms_iload_n dX10_ofScene_18 rfl ?_
  refine q_aald dX10_ofScene_19 (by first | exact Or.inl ⟨rfl, by omega, rfl⟩ | exact Or.inr ⟨rfl, by omega, rfl⟩) ?_
  refine ms_astore_n dX10_ofScene_20 (Nat.le_of_ble_eq_true rfl) ?_
  refine ms_iload_n dX10_ofScene_21 rfl ?_
  refine ms_if_ne (tgt := 30) dX10_ofScene_22 (by decide) (fun c22 => ?_) (fun c22 => ?_)
  · refine ms_aload_n dX10_ofScene_30 rfl ?_
    refine q_geti dX10_ofScene_31 fX10_231 (by rw [kd_8_15]; decide) (by first | decide | exact lt_sc (by omega) | exact lt_dy (by omega) | exact lt_rw (by omega) | exact lt_wa (by omega) | exact lt_le (by omega)) (by first | rfl | rw [sh_sc (by omega)] | rw [sh_dy (by omega)]) rfl ?_
    refine ms_iconst (v := -1) dX10_ofScene_34 (by decide) ?_
    refine ms_icmp_ne (tgt := 40) dX10_ofScene_35 (by decide) (fun c35 => ?_) (fun c35 => ?_)
    · refine ms_iload_n dX10_ofScene_40 rfl ?_
      refine ms_iconst (v := nI 1) dX10_ofScene_41 (by decide) ?_
      refine n_icmp_ne (tgt := 50) dX10_ofScene_42 (by decide) (by omega) (by omega) (fun c42 => ?_) (fun c42 => ?_)
      · omega
      · refine ms_aload_n dX10_ofScene_45 rfl ?_
        refine q_geti dX10_ofScene_46 fX10_231 (by rw [kd_8_15]; decide) (by first | decide | exact lt_sc (by omega) | exact lt_dy (by omega) | exact lt_rw (by omega) | exact lt_wa (by omega) | exact lt_le (by omega)) (by first | rfl | rw [sh_sc (by omega)] | rw [sh_dy (by omega)]) rfl ?_
        refine ms_iret dX10_ofScene_49 rfl rfl ⟨?_, ?_⟩
        · rfl
        · rfl
    · exact absurd c35 hdy
  · exact absurd c22 (by decide)
theorem k_ofScene4 {S : m_S} {I K : m_I} {lg : Int64} {d m s : Nat} {r : Int32} (hd : 5 ≤ d) (hM : Md I m) (hs : s < m) (hdy : I (scI s) 15 ≠ -1) (hfo : ∀ d, 4 ≤ d → m_R S M_X0_faultsOf d [.ref 72, .int (nI s)] (hh I lg) (some (.int r)) (hh K lg)) : m_R S M_X10_ofScene d [.ref 0, .int (nI s), .int (nI 4)] (hh I lg) (some (.int r)) (hh K lg) := by
  have hM2 := hM.2
  refine ms_aload_n dX10_ofScene_0 rfl ?_
  refine ms_iload_n dX10_ofScene_1 rfl ?_
  refine qRV1 dX10_ofScene_2 kX10_57 (by show _ < 178; first | decide | exact lt_sc (by omega) | exact lt_dy (by omega)) (by show (sh0 _).1 = _; first | rfl | rw [sh_sc (by omega)] | rw [sh_dy (by omega)]) (d := d - 1) (by show d - 1 + 1 ≤ d; omega) rfl (Nat.le_of_ble_eq_true rfl) (Nat.le_of_ble_eq_true rfl) (k_checkScene (by omega) hM rfl hs) rfl ?_
  refine ms_iload_n dX10_ofScene_5 rfl ?_
  refine ms_iconst (v := nI 0) dX10_ofScene_6 (by decide) ?_
  refine ms_iconst (v := nI 4) dX10_ofScene_7 (by decide) ?_
  refine qRS3 dX10_ofScene_8 kX10_64 (d := d - 1) (by show d - 1 + 1 ≤ d; omega) rfl rfl rfl (Nat.le_of_ble_eq_true rfl) (Nat.le_of_ble_eq_true rfl) (k_checkRange (by decide) (by decide)) rfl ?_
  refine ms_aload_n dX10_ofScene_11 rfl ?_
  refine q_getr dX10_ofScene_12 fX10_10 kd_10_0 (by first | decide | exact lt_sc (by omega) | exact lt_dy (by omega) | exact lt_rw (by omega) | exact lt_wa (by omega) | exact lt_le (by omega)) (by first | rfl | rw [sh_sc (by omega)] | rw [sh_dy (by omega)]) (by first | rfl | exact rf_wa (by omega) | exact rf_le (by omega) | exact rf_rw (by omega)) ?_
  refine q_getr dX10_ofScene_15 fX10_96 kd_9_0 (by first | decide | exact lt_sc (by omega) | exact lt_dy (by omega) | exact lt_rw (by omega) | exact lt_wa (by omega) | exact lt_le (by omega)) (by first | rfl | rw [sh_sc (by omega)] | rw [sh_dy (by omega)]) (by first | rfl | exact rf_wa (by omega) | exact rf_le (by omega) | exact rf_rw (by omega)) ?_
  refine ms_iload_n dX10_ofScene_18 rfl ?_
  refine q_aald dX10_ofScene_19 (by first | exact Or.inl ⟨rfl, by omega, rfl⟩ | exact Or.inr ⟨rfl, by omega, rfl⟩) ?_
  refine ms_astore_n dX10_ofScene_20 (Nat.le_of_ble_eq_true rfl) ?_
  refine ms_iload_n dX10_ofScene_21 rfl ?_
  refine ms_if_ne (tgt := 30) dX10_ofScene_22 (by decide) (fun c22 => ?_) (fun c22 => ?_)
  · refine ms_aload_n dX10_ofScene_30 rfl ?_
    refine q_geti dX10_ofScene_31 fX10_231 (by rw [kd_8_15]; decide) (by first | decide | exact lt_sc (by omega) | exact lt_dy (by omega) | exact lt_rw (by omega) | exact lt_wa (by omega) | exact lt_le (by omega)) (by first | rfl | rw [sh_sc (by omega)] | rw [sh_dy (by omega)]) rfl ?_
    refine ms_iconst (v := -1) dX10_ofScene_34 (by decide) ?_
    refine ms_icmp_ne (tgt := 40) dX10_ofScene_35 (by decide) (fun c35 => ?_) (fun c35 => ?_)
    · refine ms_iload_n dX10_ofScene_40 rfl ?_
      refine ms_iconst (v := nI 1) dX10_ofScene_41 (by decide) ?_
      refine n_icmp_ne (tgt := 50) dX10_ofScene_42 (by decide) (by omega) (by omega) (fun c42 => ?_) (fun c42 => ?_)
      · refine ms_iload_n dX10_ofScene_50 rfl ?_
        refine ms_iconst (v := nI 4) dX10_ofScene_51 (by decide) ?_
        refine n_icmp_ne (tgt := 64) dX10_ofScene_52 (by decide) (by omega) (by omega) (fun c52 => ?_) (fun c52 => ?_)
        · omega
        · refine ms_aload_n dX10_ofScene_55 rfl ?_
          refine q_getr dX10_ofScene_56 fX10_35 kd_10_3 (by first | decide | exact lt_sc (by omega) | exact lt_dy (by omega) | exact lt_rw (by omega) | exact lt_wa (by omega) | exact lt_le (by omega)) (by first | rfl | rw [sh_sc (by omega)] | rw [sh_dy (by omega)]) (by first | rfl | exact rf_wa (by omega) | exact rf_le (by omega) | exact rf_rw (by omega)) ?_
          refine ms_iload_n dX10_ofScene_59 rfl ?_
          refine qRV1 dX10_ofScene_60 kX10_223 (by show _ < 178; first | decide | exact lt_sc (by omega) | exact lt_dy (by omega)) (by show (sh0 _).1 = _; first | rfl | rw [sh_sc (by omega)] | rw [sh_dy (by omega)]) (d := d - 1) (by show d - 1 + 1 ≤ d; omega) rfl (Nat.le_of_ble_eq_true rfl) (Nat.le_of_ble_eq_true rfl) (hfo _ (by omega)) rfl ?_
          refine ms_iret dX10_ofScene_63 rfl rfl ⟨?_, ?_⟩
          · rfl
          · rfl
      · omega
    · exact absurd c35 hdy
  · exact absurd c22 (by decide)
theorem k_ofScene2 {S : m_S} {I K : m_I} {lg : Int64} {d m s : Nat} {r : Int32} (hd : 5 ≤ d) (hM : Md I m) (hs : s < m) (hdy : I (scI s) 15 ≠ -1) (hti : ∀ d, 4 ≤ d → m_R S M_X0_timeOf d [.ref 72, .int (nI s), .int (bi false)] (hh I lg) (some (.int r)) (hh K lg)) : m_R S M_X10_ofScene d [.ref 0, .int (nI s), .int (nI 2)] (hh I lg) (some (.int r)) (hh K lg) := by
  have hM2 := hM.2
  refine ms_aload_n dX10_ofScene_0 rfl ?_
  refine ms_iload_n dX10_ofScene_1 rfl ?_
  refine qRV1 dX10_ofScene_2 kX10_57 (by show _ < 178; first | decide | exact lt_sc (by omega) | exact lt_dy (by omega)) (by show (sh0 _).1 = _; first | rfl | rw [sh_sc (by omega)] | rw [sh_dy (by omega)]) (d := d - 1) (by show d - 1 + 1 ≤ d; omega) rfl (Nat.le_of_ble_eq_true rfl) (Nat.le_of_ble_eq_true rfl) (k_checkScene (by omega) hM rfl hs) rfl ?_
  refine ms_iload_n dX10_ofScene_5 rfl ?_
  refine ms_iconst (v := nI 0) dX10_ofScene_6 (by decide) ?_
  refine ms_iconst (v := nI 4) dX10_ofScene_7 (by decide) ?_
  refine qRS3 dX10_ofScene_8 kX10_64 (d := d - 1) (by show d - 1 + 1 ≤ d; omega) rfl rfl rfl (Nat.le_of_ble_eq_true rfl) (Nat.le_of_ble_eq_true rfl) (k_checkRange (by decide) (by decide)) rfl ?_
  refine ms_aload_n dX10_ofScene_11 rfl ?_
  refine q_getr dX10_ofScene_12 fX10_10 kd_10_0 (by first | decide | exact lt_sc (by omega) | exact lt_dy (by omega) | exact lt_rw (by omega) | exact lt_wa (by omega) | exact lt_le (by omega)) (by first | rfl | rw [sh_sc (by omega)] | rw [sh_dy (by omega)]) (by first | rfl | exact rf_wa (by omega) | exact rf_le (by omega) | exact rf_rw (by omega)) ?_
  refine q_getr dX10_ofScene_15 fX10_96 kd_9_0 (by first | decide | exact lt_sc (by omega) | exact lt_dy (by omega) | exact lt_rw (by omega) | exact lt_wa (by omega) | exact lt_le (by omega)) (by first | rfl | rw [sh_sc (by omega)] | rw [sh_dy (by omega)]) (by first | rfl | exact rf_wa (by omega) | exact rf_le (by omega) | exact rf_rw (by omega)) ?_
  refine ms_iload_n dX10_ofScene_18 rfl ?_
  refine q_aald dX10_ofScene_19 (by first | exact Or.inl ⟨rfl, by omega, rfl⟩ | exact Or.inr ⟨rfl, by omega, rfl⟩) ?_
  refine ms_astore_n dX10_ofScene_20 (Nat.le_of_ble_eq_true rfl) ?_
  refine ms_iload_n dX10_ofScene_21 rfl ?_
  refine ms_if_ne (tgt := 30) dX10_ofScene_22 (by decide) (fun c22 => ?_) (fun c22 => ?_)
  · refine ms_aload_n dX10_ofScene_30 rfl ?_
    refine q_geti dX10_ofScene_31 fX10_231 (by rw [kd_8_15]; decide) (by first | decide | exact lt_sc (by omega) | exact lt_dy (by omega) | exact lt_rw (by omega) | exact lt_wa (by omega) | exact lt_le (by omega)) (by first | rfl | rw [sh_sc (by omega)] | rw [sh_dy (by omega)]) rfl ?_
    refine ms_iconst (v := -1) dX10_ofScene_34 (by decide) ?_
    refine ms_icmp_ne (tgt := 40) dX10_ofScene_35 (by decide) (fun c35 => ?_) (fun c35 => ?_)
    · refine ms_iload_n dX10_ofScene_40 rfl ?_
      refine ms_iconst (v := nI 1) dX10_ofScene_41 (by decide) ?_
      refine n_icmp_ne (tgt := 50) dX10_ofScene_42 (by decide) (by omega) (by omega) (fun c42 => ?_) (fun c42 => ?_)
      · refine ms_iload_n dX10_ofScene_50 rfl ?_
        refine ms_iconst (v := nI 4) dX10_ofScene_51 (by decide) ?_
        refine n_icmp_ne (tgt := 64) dX10_ofScene_52 (by decide) (by omega) (by omega) (fun c52 => ?_) (fun c52 => ?_)
        · refine ms_aload_n dX10_ofScene_64 rfl ?_
          refine q_getr dX10_ofScene_65 fX10_35 kd_10_3 (by first | decide | exact lt_sc (by omega) | exact lt_dy (by omega) | exact lt_rw (by omega) | exact lt_wa (by omega) | exact lt_le (by omega)) (by first | rfl | rw [sh_sc (by omega)] | rw [sh_dy (by omega)]) (by first | rfl | exact rf_wa (by omega) | exact rf_le (by omega) | exact rf_rw (by omega)) ?_
          refine ms_iload_n dX10_ofScene_68 rfl ?_
          refine ms_iload_n dX10_ofScene_69 rfl ?_
          refine ms_iconst (v := nI 3) dX10_ofScene_70 (by decide) ?_
          refine n_icmp_ne (tgt := 78) dX10_ofScene_71 (by decide) (by omega) (by omega) (fun c71 => ?_) (fun c71 => ?_)
          · refine ms_iconst (v := nI 0) dX10_ofScene_78 (by decide) ?_
            refine qRV2 dX10_ofScene_79 kX10_256 (by show _ < 178; first | decide | exact lt_sc (by omega) | exact lt_dy (by omega)) (by show (sh0 _).1 = _; first | rfl | rw [sh_sc (by omega)] | rw [sh_dy (by omega)]) (d := d - 1) (by show d - 1 + 1 ≤ d; omega) rfl rfl (Nat.le_of_ble_eq_true rfl) (Nat.le_of_ble_eq_true rfl) (hti _ (by omega)) rfl ?_
            refine ms_iret dX10_ofScene_82 rfl rfl ⟨?_, ?_⟩
            · rfl
            · rfl
          · omega
        · omega
      · omega
    · exact absurd c35 hdy
  · exact absurd c22 (by decide)
theorem k_ofScene3 {S : m_S} {I K : m_I} {lg : Int64} {d m s : Nat} {r : Int32} (hd : 5 ≤ d) (hM : Md I m) (hs : s < m) (hdy : I (scI s) 15 ≠ -1) (hti : ∀ d, 4 ≤ d → m_R S M_X0_timeOf d [.ref 72, .int (nI s), .int (bi true)] (hh I lg) (some (.int r)) (hh K lg)) : m_R S M_X10_ofScene d [.ref 0, .int (nI s), .int (nI 3)] (hh I lg) (some (.int r)) (hh K lg) := by
  have hM2 := hM.2
  refine ms_aload_n dX10_ofScene_0 rfl ?_
  refine ms_iload_n dX10_ofScene_1 rfl ?_
  refine qRV1 dX10_ofScene_2 kX10_57 (by show _ < 178; first | decide | exact lt_sc (by omega) | exact lt_dy (by omega)) (by show (sh0 _).1 = _; first | rfl | rw [sh_sc (by omega)] | rw [sh_dy (by omega)]) (d := d - 1) (by show d - 1 + 1 ≤ d; omega) rfl (Nat.le_of_ble_eq_true rfl) (Nat.le_of_ble_eq_true rfl) (k_checkScene (by omega) hM rfl hs) rfl ?_
  refine ms_iload_n dX10_ofScene_5 rfl ?_
  refine ms_iconst (v := nI 0) dX10_ofScene_6 (by decide) ?_
  refine ms_iconst (v := nI 4) dX10_ofScene_7 (by decide) ?_
  refine qRS3 dX10_ofScene_8 kX10_64 (d := d - 1) (by show d - 1 + 1 ≤ d; omega) rfl rfl rfl (Nat.le_of_ble_eq_true rfl) (Nat.le_of_ble_eq_true rfl) (k_checkRange (by decide) (by decide)) rfl ?_
  refine ms_aload_n dX10_ofScene_11 rfl ?_
  refine q_getr dX10_ofScene_12 fX10_10 kd_10_0 (by first | decide | exact lt_sc (by omega) | exact lt_dy (by omega) | exact lt_rw (by omega) | exact lt_wa (by omega) | exact lt_le (by omega)) (by first | rfl | rw [sh_sc (by omega)] | rw [sh_dy (by omega)]) (by first | rfl | exact rf_wa (by omega) | exact rf_le (by omega) | exact rf_rw (by omega)) ?_
  refine q_getr dX10_ofScene_15 fX10_96 kd_9_0 (by first | decide | exact lt_sc (by omega) | exact lt_dy (by omega) | exact lt_rw (by omega) | exact lt_wa (by omega) | exact lt_le (by omega)) (by first | rfl | rw [sh_sc (by omega)] | rw [sh_dy (by omega)]) (by first | rfl | exact rf_wa (by omega) | exact rf_le (by omega) | exact rf_rw (by omega)) ?_
  refine ms_iload_n dX10_ofScene_18 rfl ?_
  refine q_aald dX10_ofScene_19 (by first | exact Or.inl ⟨rfl, by omega, rfl⟩ | exact Or.inr ⟨rfl, by omega, rfl⟩) ?_
  refine ms_astore_n dX10_ofScene_20 (Nat.le_of_ble_eq_true rfl) ?_
  refine ms_iload_n dX10_ofScene_21 rfl ?_
  refine ms_if_ne (tgt := 30) dX10_ofScene_22 (by decide) (fun c22 => ?_) (fun c22 => ?_)
  · refine ms_aload_n dX10_ofScene_30 rfl ?_
    refine q_geti dX10_ofScene_31 fX10_231 (by rw [kd_8_15]; decide) (by first | decide | exact lt_sc (by omega) | exact lt_dy (by omega) | exact lt_rw (by omega) | exact lt_wa (by omega) | exact lt_le (by omega)) (by first | rfl | rw [sh_sc (by omega)] | rw [sh_dy (by omega)]) rfl ?_
    refine ms_iconst (v := -1) dX10_ofScene_34 (by decide) ?_
    refine ms_icmp_ne (tgt := 40) dX10_ofScene_35 (by decide) (fun c35 => ?_) (fun c35 => ?_)
    · refine ms_iload_n dX10_ofScene_40 rfl ?_
      refine ms_iconst (v := nI 1) dX10_ofScene_41 (by decide) ?_
      refine n_icmp_ne (tgt := 50) dX10_ofScene_42 (by decide) (by omega) (by omega) (fun c42 => ?_) (fun c42 => ?_)
      · refine ms_iload_n dX10_ofScene_50 rfl ?_
        refine ms_iconst (v := nI 4) dX10_ofScene_51 (by decide) ?_
        refine n_icmp_ne (tgt := 64) dX10_ofScene_52 (by decide) (by omega) (by omega) (fun c52 => ?_) (fun c52 => ?_)
        · refine ms_aload_n dX10_ofScene_64 rfl ?_
          refine q_getr dX10_ofScene_65 fX10_35 kd_10_3 (by first | decide | exact lt_sc (by omega) | exact lt_dy (by omega) | exact lt_rw (by omega) | exact lt_wa (by omega) | exact lt_le (by omega)) (by first | rfl | rw [sh_sc (by omega)] | rw [sh_dy (by omega)]) (by first | rfl | exact rf_wa (by omega) | exact rf_le (by omega) | exact rf_rw (by omega)) ?_
          refine ms_iload_n dX10_ofScene_68 rfl ?_
          refine ms_iload_n dX10_ofScene_69 rfl ?_
          refine ms_iconst (v := nI 3) dX10_ofScene_70 (by decide) ?_
          refine n_icmp_ne (tgt := 78) dX10_ofScene_71 (by decide) (by omega) (by omega) (fun c71 => ?_) (fun c71 => ?_)
          · omega
          · refine ms_iconst (v := nI 1) dX10_ofScene_74 (by decide) ?_
            refine ms_goto (tgt := 79) dX10_ofScene_75 (by decide) ?_
            refine qRV2 dX10_ofScene_79 kX10_256 (by show _ < 178; first | decide | exact lt_sc (by omega) | exact lt_dy (by omega)) (by show (sh0 _).1 = _; first | rfl | rw [sh_sc (by omega)] | rw [sh_dy (by omega)]) (d := d - 1) (by show d - 1 + 1 ≤ d; omega) rfl rfl (Nat.le_of_ble_eq_true rfl) (Nat.le_of_ble_eq_true rfl) (hti _ (by omega)) rfl ?_
            refine ms_iret dX10_ofScene_82 rfl rfl ⟨?_, ?_⟩
            · rfl
            · rfl
        · omega
      · omega
    · exact absurd c35 hdy
  · exact absurd c22 (by decide)
theorem k_ofSceneT1 {S : m_S} {I : m_I} {lg : Int64} {d m : Nat} {x y : Int32} (hd : 8 ≤ d) (hM : Md I m) (hx : ∀ j, j < m → x ≠ nI j) : m_T S M_X10_ofScene d [.ref 0, .int x, .int y] (hh I lg) "java/lang/IndexOutOfBoundsException" := by
  refine ms_aload_n dX10_ofScene_0 rfl ?_
  refine ms_iload_n dX10_ofScene_1 rfl ?_
  exact qTV1 dX10_ofScene_2 kX10_57 (by show _ < 178; first | decide | exact lt_sc (by omega) | exact lt_dy (by omega)) (by show (sh0 _).1 = _; first | rfl | rw [sh_sc (by omega)] | rw [sh_dy (by omega)]) (d := d - 1) (by show d - 1 + 1 ≤ d; omega) rfl (Nat.le_of_ble_eq_true rfl) (Nat.le_of_ble_eq_true rfl) (k_checkSceneT (by omega) hM hx) (by decide) (by decide) (Or.inl ⟨rfl, rfl, rfl⟩)
theorem k_ofSceneT2 {S : m_S} {I : m_I} {lg : Int64} {d m s : Nat} {x : Int32} (hd : 8 ≤ d) (hM : Md I m) (hs : s < m) (h1 : ¬ (nI 0 ≤ x ∧ x ≤ nI 4)) : m_T S M_X10_ofScene d [.ref 0, .int (nI s), .int x] (hh I lg) "java/lang/IllegalArgumentException" := by
  refine ms_aload_n dX10_ofScene_0 rfl ?_
  refine ms_iload_n dX10_ofScene_1 rfl ?_
  refine qRV1 dX10_ofScene_2 kX10_57 (by show _ < 178; first | decide | exact lt_sc (by omega) | exact lt_dy (by omega)) (by show (sh0 _).1 = _; first | rfl | rw [sh_sc (by omega)] | rw [sh_dy (by omega)]) (d := d - 1) (by show d - 1 + 1 ≤ d; omega) rfl (Nat.le_of_ble_eq_true rfl) (Nat.le_of_ble_eq_true rfl) (k_checkScene (by omega) hM rfl hs) rfl ?_
  refine ms_iload_n dX10_ofScene_5 rfl ?_
  refine ms_iconst (v := nI 0) dX10_ofScene_6 (by decide) ?_
  refine ms_iconst (v := nI 4) dX10_ofScene_7 (by decide) ?_
  exact qTS3 dX10_ofScene_8 kX10_64 (d := d - 1) (by show d - 1 + 1 ≤ d; omega) rfl rfl rfl (Nat.le_of_ble_eq_true rfl) (Nat.le_of_ble_eq_true rfl) (k_checkRangeT (by omega) h1) (by decide) (by decide) (Or.inl ⟨rfl, rfl, rfl⟩)
theorem k_call {S : m_S} {I J : m_I} {lg : Int64} {d pn p t : Nat} (more : Bool) (hd : 6 ≤ d) (hP : Pn I pn) (hp : p < pn) (ht : t < 30) (hcl : ∀ d, 4 ≤ d → m_R S M_X0_clockOf d [.ref 72, .int (nI t)] (hh I lg) (some (.ref 75)) (hh J lg)) : m_R S M_X10_call d [.ref 0, .int (nI p), .int (nI t), .int (bi more)] (hh I lg) (some (.int (if bt (J 75 8) p then (if more then J 79 p else J 78 p) else -10000))) (hh J lg) := by
  have hP2 := hP.2
  refine ms_aload_n dX10_call_0 rfl ?_
  refine ms_iload_n dX10_call_1 rfl ?_
  refine qRV1 dX10_call_2 kX10_163 (by show _ < 178; first | decide | exact lt_sc (by omega) | exact lt_dy (by omega)) (by show (sh0 _).1 = _; first | rfl | rw [sh_sc (by omega)] | rw [sh_dy (by omega)]) (d := d - 1) (by show d - 1 + 1 ≤ d; omega) rfl (Nat.le_of_ble_eq_true rfl) (Nat.le_of_ble_eq_true rfl) (k_checkPerson (by omega) hP rfl hp) rfl ?_
  refine ms_iload_n dX10_call_5 rfl ?_
  refine qRS1 dX10_call_6 kX10_166 (d := d - 1) (by show d - 1 + 1 ≤ d; omega) rfl (Nat.le_of_ble_eq_true rfl) (Nat.le_of_ble_eq_true rfl) (k_checkDay (by omega) rfl ht) rfl ?_
  refine ms_aload_n dX10_call_9 rfl ?_
  refine q_getr dX10_call_10 fX10_35 kd_10_3 (by first | decide | exact lt_sc (by omega) | exact lt_dy (by omega) | exact lt_rw (by omega) | exact lt_wa (by omega) | exact lt_le (by omega)) (by first | rfl | rw [sh_sc (by omega)] | rw [sh_dy (by omega)]) (by first | rfl | exact rf_wa (by omega) | exact rf_le (by omega) | exact rf_rw (by omega)) ?_
  refine ms_iload_n dX10_call_13 rfl ?_
  refine qRV1 dX10_call_14 kX10_260 (by show _ < 178; first | decide | exact lt_sc (by omega) | exact lt_dy (by omega)) (by show (sh0 _).1 = _; first | rfl | rw [sh_sc (by omega)] | rw [sh_dy (by omega)]) (d := d - 1) (by show d - 1 + 1 ≤ d; omega) rfl (Nat.le_of_ble_eq_true rfl) (Nat.le_of_ble_eq_true rfl) (hcl _ (by omega)) rfl ?_
  refine ms_astore dX10_call_17 (Nat.le_of_ble_eq_true rfl) ?_
  refine ms_aload dX10_call_19 rfl ?_
  refine ms_iload_n dX10_call_21 rfl ?_
  refine qRV1 dX10_call_22 kX10_264 (by show _ < 178; first | decide | exact lt_sc (by omega) | exact lt_dy (by omega)) (by show (sh0 _).1 = _; first | rfl | rw [sh_sc (by omega)] | rw [sh_dy (by omega)]) (d := d - 1) (by show d - 1 + 1 ≤ d; omega) rfl (Nat.le_of_ble_eq_true rfl) (Nat.le_of_ble_eq_true rfl) (k_hasWorkFor (by omega) (by omega)) rfl ?_
  refine ms_if_ne (tgt := 32) dX10_call_25 (by decide) (fun c25 => ?_) (fun c25 => ?_)
  · rw [if_pos (bi_n0.mp c25)]
    refine ms_iload_n dX10_call_32 rfl ?_
    refine ms_if_eq (tgt := 46) dX10_call_33 (by decide) (fun c33 => ?_) (fun c33 => ?_)
    · rw [bi_0.mp c33]
      refine ms_aload dX10_call_46 rfl ?_
      refine q_getr dX10_call_48 fX10_272 kd_1_6 (by first | decide | exact lt_sc (by omega) | exact lt_dy (by omega) | exact lt_rw (by omega) | exact lt_wa (by omega) | exact lt_le (by omega)) (by first | rfl | rw [sh_sc (by omega)] | rw [sh_dy (by omega)]) (by first | rfl | exact rf_wa (by omega) | exact rf_le (by omega) | exact rf_rw (by omega)) ?_
      refine ms_iload_n dX10_call_51 rfl ?_
      refine q_iald dX10_call_52 (by first | decide | exact lt_sc (by omega) | exact lt_dy (by omega) | exact lt_rw (by omega) | exact lt_wa (by omega) | exact lt_le (by omega)) (by first | rfl | exact sh_rw (by omega) | exact sh_wa (by omega) | exact sh_le (by omega)) (by omega) (by decide) rfl ?_
      refine ms_iret dX10_call_53 rfl rfl ⟨?_, ?_⟩
      · rfl
      · rfl
    · rw [bi_n0.mp c33]
      refine ms_aload dX10_call_36 rfl ?_
      refine q_getr dX10_call_38 fX10_269 kd_1_7 (by first | decide | exact lt_sc (by omega) | exact lt_dy (by omega) | exact lt_rw (by omega) | exact lt_wa (by omega) | exact lt_le (by omega)) (by first | rfl | rw [sh_sc (by omega)] | rw [sh_dy (by omega)]) (by first | rfl | exact rf_wa (by omega) | exact rf_le (by omega) | exact rf_rw (by omega)) ?_
      refine ms_iload_n dX10_call_41 rfl ?_
      refine q_iald dX10_call_42 (by first | decide | exact lt_sc (by omega) | exact lt_dy (by omega) | exact lt_rw (by omega) | exact lt_wa (by omega) | exact lt_le (by omega)) (by first | rfl | exact sh_rw (by omega) | exact sh_wa (by omega) | exact sh_le (by omega)) (by omega) (by decide) rfl ?_
      refine ms_goto (tgt := 53) dX10_call_43 (by decide) ?_
      refine ms_iret dX10_call_53 rfl rfl ⟨?_, ?_⟩
      · rfl
      · rfl
  · rw [if_neg (by rw [bi_0.mp c25]; decide)]
    refine ms_sipush (v := -10000) dX10_call_28 (by decide) ?_
    refine ms_iret dX10_call_31 rfl rfl ⟨?_, ?_⟩
    · rfl
    · rfl
theorem k_callT1 {S : m_S} {I : m_I} {lg : Int64} {d n : Nat} {x y z : Int32} (hd : 8 ≤ d) (hP : Pn I n) (hx : ∀ j, j < n → x ≠ nI j) : m_T S M_X10_call d [.ref 0, .int x, .int y, .int z] (hh I lg) "java/lang/IndexOutOfBoundsException" := by
  refine ms_aload_n dX10_call_0 rfl ?_
  refine ms_iload_n dX10_call_1 rfl ?_
  exact qTV1 dX10_call_2 kX10_163 (by show _ < 178; first | decide | exact lt_sc (by omega) | exact lt_dy (by omega)) (by show (sh0 _).1 = _; first | rfl | rw [sh_sc (by omega)] | rw [sh_dy (by omega)]) (d := d - 1) (by show d - 1 + 1 ≤ d; omega) rfl (Nat.le_of_ble_eq_true rfl) (Nat.le_of_ble_eq_true rfl) (k_checkPersonT (by omega) hP hx) (by decide) (by decide) (Or.inl ⟨rfl, rfl, rfl⟩)
theorem k_callT2 {S : m_S} {I : m_I} {lg : Int64} {d n p : Nat} {y z : Int32} (hd : 8 ≤ d) (hP : Pn I n) (hp : p < n) (hy : ∀ j, j < 30 → y ≠ nI j) : m_T S M_X10_call d [.ref 0, .int (nI p), .int y, .int z] (hh I lg) "java/lang/IndexOutOfBoundsException" := by
  refine ms_aload_n dX10_call_0 rfl ?_
  refine ms_iload_n dX10_call_1 rfl ?_
  refine qRV1 dX10_call_2 kX10_163 (by show _ < 178; first | decide | exact lt_sc (by omega) | exact lt_dy (by omega)) (by show (sh0 _).1 = _; first | rfl | rw [sh_sc (by omega)] | rw [sh_dy (by omega)]) (d := d - 1) (by show d - 1 + 1 ≤ d; omega) rfl (Nat.le_of_ble_eq_true rfl) (Nat.le_of_ble_eq_true rfl) (k_checkPerson (by omega) hP rfl hp) rfl ?_
  refine ms_iload_n dX10_call_5 rfl ?_
  exact qTS1 dX10_call_6 kX10_166 (d := d - 1) (by show d - 1 + 1 ≤ d; omega) rfl (Nat.le_of_ble_eq_true rfl) (Nat.le_of_ble_eq_true rfl) (k_checkDayT (by omega) hy) (by decide) (by decide) (Or.inl ⟨rfl, rfl, rfl⟩)

