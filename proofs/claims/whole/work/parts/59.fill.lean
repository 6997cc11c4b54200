-- NAME fill
/-! fill and mend -/
theorem k_scene {S : m_S} {I J : m_I} {lg : Int64} {d m np p : Nat} {b r x5 : Int32} (c3 c4 : Bool) (hd : 6 ≤ d) (hM : Md I m) (hb : b = -1 ∨ ∃ j, j < m ∧ b = nI j) (hL : Lc I np) (hp : p < np) (h1 : nI 1 ≤ x5 ∧ x5 ≤ nI 32) (hr : ∀ d, 4 ≤ d → m_R S M_X9_hasRoomBehind d [.ref 1, .int b] (hh I lg) (some (.int (bi true))) (hh I lg)) (ha : ∀ d, 4 ≤ d → m_R S M_X9_add d [.ref 1, .int b, .int (nI p), .int (bi c3), .int (bi c4), .int x5] (hh I lg) (some (.int r)) (hh J lg)) : m_R S M_X10_scene d [.ref 0, .int b, .int (nI p), .int (bi c3), .int (bi c4), .int x5] (hh I lg) (some (.int r)) (hh J lg) := by
  have z3 := bi_01 c3
  have z4 := bi_01 c4
  refine ms_iload_n dX10_scene_0 rfl ?_
  refine ms_iconst (v := -1) dX10_scene_1 (by decide) ?_
  refine ms_icmp_eq (tgt := 10) dX10_scene_2 (by decide) (fun c2 => ?_) (fun c2 => ?_)
  · refine ms_aload_n dX10_scene_10 rfl ?_
    refine ms_iload_n dX10_scene_11 rfl ?_
    refine qRV1 dX10_scene_12 kX10_61 (by show _ < 178; first | decide | exact lt_sc (by omega) | exact lt_dy (by omega)) (by show (sh0 _).1 = _; first | rfl | rw [sh_sc (by omega)] | rw [sh_dy (by omega)]) (d := d - 1) (by show d - 1 + 1 ≤ d; omega) rfl (Nat.le_of_ble_eq_true rfl) (Nat.le_of_ble_eq_true rfl) (k_checkPlace (by omega) hL rfl hp) rfl ?_
    refine ms_iload dX10_scene_15 rfl ?_
    refine ms_iconst (v := nI 1) dX10_scene_17 (by decide) ?_
    refine ms_bipush (v := nI 32) dX10_scene_18 (by decide) ?_
    refine qRS3 dX10_scene_20 kX10_64 (d := d - 1) (by show d - 1 + 1 ≤ d; omega) rfl rfl rfl (Nat.le_of_ble_eq_true rfl) (Nat.le_of_ble_eq_true rfl) (k_checkRange h1.1 h1.2) rfl ?_
    refine ms_aload_n dX10_scene_23 rfl ?_
    refine q_getr dX10_scene_24 fX10_10 kd_10_0 (by first | decide | exact lt_sc (by omega) | exact lt_dy (by omega) | exact lt_rw (by omega) | exact lt_wa (by omega) | exact lt_le (by omega)) (by first | rfl | rw [sh_sc (by omega)] | rw [sh_dy (by omega)]) (by first | rfl | exact rf_wa (by omega) | exact rf_le (by omega) | exact rf_rw (by omega)) ?_
    refine ms_iload_n dX10_scene_27 rfl ?_
    refine qRV1 dX10_scene_28 kX10_68 (by show _ < 178; first | decide | exact lt_sc (by omega) | exact lt_dy (by omega)) (by show (sh0 _).1 = _; first | rfl | rw [sh_sc (by omega)] | rw [sh_dy (by omega)]) (d := d - 1) (by show d - 1 + 1 ≤ d; omega) rfl (Nat.le_of_ble_eq_true rfl) (Nat.le_of_ble_eq_true rfl) (hr _ (by omega)) rfl ?_
    refine ms_if_ne (tgt := 44) dX10_scene_31 (by decide) (fun c31 => ?_) (fun c31 => ?_)
    · refine ms_aload_n dX10_scene_44 rfl ?_
      refine q_getr dX10_scene_45 fX10_10 kd_10_0 (by first | decide | exact lt_sc (by omega) | exact lt_dy (by omega) | exact lt_rw (by omega) | exact lt_wa (by omega) | exact lt_le (by omega)) (by first | rfl | rw [sh_sc (by omega)] | rw [sh_dy (by omega)]) (by first | rfl | exact rf_wa (by omega) | exact rf_le (by omega) | exact rf_rw (by omega)) ?_
      refine ms_iload_n dX10_scene_48 rfl ?_
      refine ms_iload_n dX10_scene_49 rfl ?_
      refine ms_iload_n dX10_scene_50 rfl ?_
      refine ms_iload dX10_scene_51 rfl ?_
      refine ms_iload dX10_scene_53 rfl ?_
      refine qRV5 dX10_scene_55 kX10_79 (by show _ < 178; first | decide | exact lt_sc (by omega) | exact lt_dy (by omega)) (by show (sh0 _).1 = _; first | rfl | rw [sh_sc (by omega)] | rw [sh_dy (by omega)]) (d := d - 1) (by show d - 1 + 1 ≤ d; omega) rfl rfl rfl rfl rfl (Nat.le_of_ble_eq_true rfl) (Nat.le_of_ble_eq_true rfl) (ha _ (by omega)) rfl ?_
      refine ms_iret dX10_scene_58 rfl rfl ⟨?_, ?_⟩
      · rfl
      · rfl
    · exact absurd c31 (by decide)
  · obtain ⟨j, hj, e⟩ := hb.resolve_left c2
    refine ms_aload_n dX10_scene_5 rfl ?_
    refine ms_iload_n dX10_scene_6 rfl ?_
    refine qRV1 dX10_scene_7 kX10_57 (by show _ < 178; first | decide | exact lt_sc (by omega) | exact lt_dy (by omega)) (by show (sh0 _).1 = _; first | rfl | rw [sh_sc (by omega)] | rw [sh_dy (by omega)]) (d := d - 1) (by show d - 1 + 1 ≤ d; omega) rfl (Nat.le_of_ble_eq_true rfl) (Nat.le_of_ble_eq_true rfl) (k_checkScene (by omega) hM e hj) rfl ?_
    refine ms_aload_n dX10_scene_10 rfl ?_
    refine ms_iload_n dX10_scene_11 rfl ?_
    refine qRV1 dX10_scene_12 kX10_61 (by show _ < 178; first | decide | exact lt_sc (by omega) | exact lt_dy (by omega)) (by show (sh0 _).1 = _; first | rfl | rw [sh_sc (by omega)] | rw [sh_dy (by omega)]) (d := d - 1) (by show d - 1 + 1 ≤ d; omega) rfl (Nat.le_of_ble_eq_true rfl) (Nat.le_of_ble_eq_true rfl) (k_checkPlace (by omega) hL rfl hp) rfl ?_
    refine ms_iload dX10_scene_15 rfl ?_
    refine ms_iconst (v := nI 1) dX10_scene_17 (by decide) ?_
    refine ms_bipush (v := nI 32) dX10_scene_18 (by decide) ?_
    refine qRS3 dX10_scene_20 kX10_64 (d := d - 1) (by show d - 1 + 1 ≤ d; omega) rfl rfl rfl (Nat.le_of_ble_eq_true rfl) (Nat.le_of_ble_eq_true rfl) (k_checkRange h1.1 h1.2) rfl ?_
    refine ms_aload_n dX10_scene_23 rfl ?_
    refine q_getr dX10_scene_24 fX10_10 kd_10_0 (by first | decide | exact lt_sc (by omega) | exact lt_dy (by omega) | exact lt_rw (by omega) | exact lt_wa (by omega) | exact lt_le (by omega)) (by first | rfl | rw [sh_sc (by omega)] | rw [sh_dy (by omega)]) (by first | rfl | exact rf_wa (by omega) | exact rf_le (by omega) | exact rf_rw (by omega)) ?_
    refine ms_iload_n dX10_scene_27 rfl ?_
    refine qRV1 dX10_scene_28 kX10_68 (by show _ < 178; first | decide | exact lt_sc (by omega) | exact lt_dy (by omega)) (by show (sh0 _).1 = _; first | rfl | rw [sh_sc (by omega)] | rw [sh_dy (by omega)]) (d := d - 1) (by show d - 1 + 1 ≤ d; omega) rfl (Nat.le_of_ble_eq_true rfl) (Nat.le_of_ble_eq_true rfl) (hr _ (by omega)) rfl ?_
    refine ms_if_ne (tgt := 44) dX10_scene_31 (by decide) (fun c31 => ?_) (fun c31 => ?_)
    · refine ms_aload_n dX10_scene_44 rfl ?_
      refine q_getr dX10_scene_45 fX10_10 kd_10_0 (by first | decide | exact lt_sc (by omega) | exact lt_dy (by omega) | exact lt_rw (by omega) | exact lt_wa (by omega) | exact lt_le (by omega)) (by first | rfl | rw [sh_sc (by omega)] | rw [sh_dy (by omega)]) (by first | rfl | exact rf_wa (by omega) | exact rf_le (by omega) | exact rf_rw (by omega)) ?_
      refine ms_iload_n dX10_scene_48 rfl ?_
      refine ms_iload_n dX10_scene_49 rfl ?_
      refine ms_iload_n dX10_scene_50 rfl ?_
      refine ms_iload dX10_scene_51 rfl ?_
      refine ms_iload dX10_scene_53 rfl ?_
      refine qRV5 dX10_scene_55 kX10_79 (by show _ < 178; first | decide | exact lt_sc (by omega) | exact lt_dy (by omega)) (by show (sh0 _).1 = _; first | rfl | rw [sh_sc (by omega)] | rw [sh_dy (by omega)]) (d := d - 1) (by show d - 1 + 1 ≤ d; omega) rfl rfl rfl rfl rfl (Nat.le_of_ble_eq_true rfl) (Nat.le_of_ble_eq_true rfl) (ha _ (by omega)) rfl ?_
      refine ms_iret dX10_scene_58 rfl rfl ⟨?_, ?_⟩
      · rfl
      · rfl
    · exact absurd c31 (by decide)
theorem k_sceneT1 {S : m_S} {I : m_I} {lg : Int64} {d m : Nat} {b x2 x3 x4 x5 : Int32} (hd : 8 ≤ d) (hM : Md I m) (hb : b ≠ -1) (hx : ∀ j, j < m → b ≠ nI j) : m_T S M_X10_scene d [.ref 0, .int b, .int x2, .int x3, .int x4, .int x5] (hh I lg) "java/lang/IndexOutOfBoundsException" := by
  refine ms_iload_n dX10_scene_0 rfl ?_
  refine ms_iconst (v := -1) dX10_scene_1 (by decide) ?_
  refine ms_icmp_eq (tgt := 10) dX10_scene_2 (by decide) (fun c2 => ?_) (fun c2 => ?_)
  · exact absurd c2 hb
  · refine ms_aload_n dX10_scene_5 rfl ?_
    refine ms_iload_n dX10_scene_6 rfl ?_
    exact qTV1 dX10_scene_7 kX10_57 (by show _ < 178; first | decide | exact lt_sc (by omega) | exact lt_dy (by omega)) (by show (sh0 _).1 = _; first | rfl | rw [sh_sc (by omega)] | rw [sh_dy (by omega)]) (d := d - 1) (by show d - 1 + 1 ≤ d; omega) rfl (Nat.le_of_ble_eq_true rfl) (Nat.le_of_ble_eq_true rfl) (k_checkSceneT (by omega) hM hx) (by decide) (by decide) (Or.inl ⟨rfl, rfl, rfl⟩)
theorem k_sceneT2 {S : m_S} {I : m_I} {lg : Int64} {d m np : Nat} {b x2 x3 x4 x5 : Int32} (hd : 8 ≤ d) (hM : Md I m) (hb : b = -1 ∨ ∃ j, j < m ∧ b = nI j) (hL : Lc I np) (hx : ∀ j, j < np → x2 ≠ nI j) : m_T S M_X10_scene d [.ref 0, .int b, .int x2, .int x3, .int x4, .int x5] (hh I lg) "java/lang/IndexOutOfBoundsException" := by
  refine ms_iload_n dX10_scene_0 rfl ?_
  refine ms_iconst (v := -1) dX10_scene_1 (by decide) ?_
  refine ms_icmp_eq (tgt := 10) dX10_scene_2 (by decide) (fun c2 => ?_) (fun c2 => ?_)
  · refine ms_aload_n dX10_scene_10 rfl ?_
    refine ms_iload_n dX10_scene_11 rfl ?_
    exact qTV1 dX10_scene_12 kX10_61 (by show _ < 178; first | decide | exact lt_sc (by omega) | exact lt_dy (by omega)) (by show (sh0 _).1 = _; first | rfl | rw [sh_sc (by omega)] | rw [sh_dy (by omega)]) (d := d - 1) (by show d - 1 + 1 ≤ d; omega) rfl (Nat.le_of_ble_eq_true rfl) (Nat.le_of_ble_eq_true rfl) (k_checkPlaceT (by omega) hL hx) (by decide) (by decide) (Or.inl ⟨rfl, rfl, rfl⟩)
  · obtain ⟨j, hj, e⟩ := hb.resolve_left c2
    refine ms_aload_n dX10_scene_5 rfl ?_
    refine ms_iload_n dX10_scene_6 rfl ?_
    refine qRV1 dX10_scene_7 kX10_57 (by show _ < 178; first | decide | exact lt_sc (by omega) | exact lt_dy (by omega)) (by show (sh0 _).1 = _; first | rfl | rw [sh_sc (by omega)] | rw [sh_dy (by omega)]) (d := d - 1) (by show d - 1 + 1 ≤ d; omega) rfl (Nat.le_of_ble_eq_true rfl) (Nat.le_of_ble_eq_true rfl) (k_checkScene (by omega) hM e hj) rfl ?_
    refine ms_aload_n dX10_scene_10 rfl ?_
    refine ms_iload_n dX10_scene_11 rfl ?_
    exact qTV1 dX10_scene_12 kX10_61 (by show _ < 178; first | decide | exact lt_sc (by omega) | exact lt_dy (by omega)) (by show (sh0 _).1 = _; first | rfl | rw [sh_sc (by omega)] | rw [sh_dy (by omega)]) (d := d - 1) (by show d - 1 + 1 ≤ d; omega) rfl (Nat.le_of_ble_eq_true rfl) (Nat.le_of_ble_eq_true rfl) (k_checkPlaceT (by omega) hL hx) (by decide) (by decide) (Or.inl ⟨rfl, rfl, rfl⟩)
theorem k_sceneT3 {S : m_S} {I : m_I} {lg : Int64} {d m np p : Nat} {b x3 x4 x5 : Int32} (hd : 8 ≤ d) (hM : Md I m) (hb : b = -1 ∨ ∃ j, j < m ∧ b = nI j) (hL : Lc I np) (hp : p < np) (h1 : ¬ (nI 1 ≤ x5 ∧ x5 ≤ nI 32)) : m_T S M_X10_scene d [.ref 0, .int b, .int (nI p), .int x3, .int x4, .int x5] (hh I lg) "java/lang/IllegalArgumentException" := by
  refine ms_iload_n dX10_scene_0 rfl ?_
  refine ms_iconst (v := -1) dX10_scene_1 (by decide) ?_
  refine ms_icmp_eq (tgt := 10) dX10_scene_2 (by decide) (fun c2 => ?_) (fun c2 => ?_)
  · refine ms_aload_n dX10_scene_10 rfl ?_
    refine ms_iload_n dX10_scene_11 rfl ?_
    refine qRV1 dX10_scene_12 kX10_61 (by show _ < 178; first | decide | exact lt_sc (by omega) | exact lt_dy (by omega)) (by show (sh0 _).1 = _; first | rfl | rw [sh_sc (by omega)] | rw [sh_dy (by omega)]) (d := d - 1) (by show d - 1 + 1 ≤ d; omega) rfl (Nat.le_of_ble_eq_true rfl) (Nat.le_of_ble_eq_true rfl) (k_checkPlace (by omega) hL rfl hp) rfl ?_
    refine ms_iload dX10_scene_15 rfl ?_
    refine ms_iconst (v := nI 1) dX10_scene_17 (by decide) ?_
    refine ms_bipush (v := nI 32) dX10_scene_18 (by decide) ?_
    exact qTS3 dX10_scene_20 kX10_64 (d := d - 1) (by show d - 1 + 1 ≤ d; omega) rfl rfl rfl (Nat.le_of_ble_eq_true rfl) (Nat.le_of_ble_eq_true rfl) (k_checkRangeT (by omega) h1) (by decide) (by decide) (Or.inl ⟨rfl, rfl, rfl⟩)
  · obtain ⟨j, hj, e⟩ := hb.resolve_left c2
    refine ms_aload_n dX10_scene_5 rfl ?_
    refine ms_iload_n dX10_scene_6 rfl ?_
    refine qRV1 dX10_scene_7 kX10_57 (by show _ < 178; first | decide | exact lt_sc (by omega) | exact lt_dy (by omega)) (by show (sh0 _).1 = _; first | rfl | rw [sh_sc (by omega)] | rw [sh_dy (by omega)]) (d := d - 1) (by show d - 1 + 1 ≤ d; omega) rfl (Nat.le_of_ble_eq_true rfl) (Nat.le_of_ble_eq_true rfl) (k_checkScene (by omega) hM e hj) rfl ?_
    refine ms_aload_n dX10_scene_10 rfl ?_
    refine ms_iload_n dX10_scene_11 rfl ?_
    refine qRV1 dX10_scene_12 kX10_61 (by show _ < 178; first | decide | exact lt_sc (by omega) | exact lt_dy (by omega)) (by show (sh0 _).1 = _; first | rfl | rw [sh_sc (by omega)] | rw [sh_dy (by omega)]) (d := d - 1) (by show d - 1 + 1 ≤ d; omega) rfl (Nat.le_of_ble_eq_true rfl) (Nat.le_of_ble_eq_true rfl) (k_checkPlace (by omega) hL rfl hp) rfl ?_
    refine ms_iload dX10_scene_15 rfl ?_
    refine ms_iconst (v := nI 1) dX10_scene_17 (by decide) ?_
    refine ms_bipush (v := nI 32) dX10_scene_18 (by decide) ?_
    exact qTS3 dX10_scene_20 kX10_64 (d := d - 1) (by show d - 1 + 1 ≤ d; omega) rfl rfl rfl (Nat.le_of_ble_eq_true rfl) (Nat.le_of_ble_eq_true rfl) (k_checkRangeT (by omega) h1) (by decide) (by decide) (Or.inl ⟨rfl, rfl, rfl⟩)
theorem k_sceneT4 {S : m_S} {I : m_I} {lg : Int64} {d m np p : Nat} {b x3 x4 x5 : Int32} (hd : 8 ≤ d) (hM : Md I m) (hb : b = -1 ∨ ∃ j, j < m ∧ b = nI j) (hL : Lc I np) (hp : p < np) (h1 : nI 1 ≤ x5 ∧ x5 ≤ nI 32) (hr : ∀ d, 4 ≤ d → m_R S M_X9_hasRoomBehind d [.ref 1, .int b] (hh I lg) (some (.int (bi false))) (hh I lg)) : m_T S M_X10_scene d [.ref 0, .int b, .int (nI p), .int x3, .int x4, .int x5] (hh I lg) "java/lang/IllegalStateException" := by
  refine ms_iload_n dX10_scene_0 rfl ?_
  refine ms_iconst (v := -1) dX10_scene_1 (by decide) ?_
  refine ms_icmp_eq (tgt := 10) dX10_scene_2 (by decide) (fun c2 => ?_) (fun c2 => ?_)
  · refine ms_aload_n dX10_scene_10 rfl ?_
    refine ms_iload_n dX10_scene_11 rfl ?_
    refine qRV1 dX10_scene_12 kX10_61 (by show _ < 178; first | decide | exact lt_sc (by omega) | exact lt_dy (by omega)) (by show (sh0 _).1 = _; first | rfl | rw [sh_sc (by omega)] | rw [sh_dy (by omega)]) (d := d - 1) (by show d - 1 + 1 ≤ d; omega) rfl (Nat.le_of_ble_eq_true rfl) (Nat.le_of_ble_eq_true rfl) (k_checkPlace (by omega) hL rfl hp) rfl ?_
    refine ms_iload dX10_scene_15 rfl ?_
    refine ms_iconst (v := nI 1) dX10_scene_17 (by decide) ?_
    refine ms_bipush (v := nI 32) dX10_scene_18 (by decide) ?_
    refine qRS3 dX10_scene_20 kX10_64 (d := d - 1) (by show d - 1 + 1 ≤ d; omega) rfl rfl rfl (Nat.le_of_ble_eq_true rfl) (Nat.le_of_ble_eq_true rfl) (k_checkRange h1.1 h1.2) rfl ?_
    refine ms_aload_n dX10_scene_23 rfl ?_
    refine q_getr dX10_scene_24 fX10_10 kd_10_0 (by first | decide | exact lt_sc (by omega) | exact lt_dy (by omega) | exact lt_rw (by omega) | exact lt_wa (by omega) | exact lt_le (by omega)) (by first | rfl | rw [sh_sc (by omega)] | rw [sh_dy (by omega)]) (by first | rfl | exact rf_wa (by omega) | exact rf_le (by omega) | exact rf_rw (by omega)) ?_
    refine ms_iload_n dX10_scene_27 rfl ?_
    refine qRV1 dX10_scene_28 kX10_68 (by show _ < 178; first | decide | exact lt_sc (by omega) | exact lt_dy (by omega)) (by show (sh0 _).1 = _; first | rfl | rw [sh_sc (by omega)] | rw [sh_dy (by omega)]) (d := d - 1) (by show d - 1 + 1 ≤ d; omega) rfl (Nat.le_of_ble_eq_true rfl) (Nat.le_of_ble_eq_true rfl) (hr _ (by omega)) rfl ?_
    refine ms_if_ne (tgt := 44) dX10_scene_31 (by decide) (fun c31 => ?_) (fun c31 => ?_)
    · exact absurd rfl c31
    · exact ms_thr dX10_scene_34 dX10_scene_37 dX10_scene_38 dX10_scene_40 dX10_scene_43 thX10_scene_34 rfl (by show 6 ≤ d; omega) (by decide) (by decide) (Nat.le_of_ble_eq_true rfl) ⟨rfl, rfl⟩
  · obtain ⟨j, hj, e⟩ := hb.resolve_left c2
    refine ms_aload_n dX10_scene_5 rfl ?_
    refine ms_iload_n dX10_scene_6 rfl ?_
    refine qRV1 dX10_scene_7 kX10_57 (by show _ < 178; first | decide | exact lt_sc (by omega) | exact lt_dy (by omega)) (by show (sh0 _).1 = _; first | rfl | rw [sh_sc (by omega)] | rw [sh_dy (by omega)]) (d := d - 1) (by show d - 1 + 1 ≤ d; omega) rfl (Nat.le_of_ble_eq_true rfl) (Nat.le_of_ble_eq_true rfl) (k_checkScene (by omega) hM e hj) rfl ?_
    refine ms_aload_n dX10_scene_10 rfl ?_
    refine ms_iload_n dX10_scene_11 rfl ?_
    refine qRV1 dX10_scene_12 kX10_61 (by show _ < 178; first | decide | exact lt_sc (by omega) | exact lt_dy (by omega)) (by show (sh0 _).1 = _; first | rfl | rw [sh_sc (by omega)] | rw [sh_dy (by omega)]) (d := d - 1) (by show d - 1 + 1 ≤ d; omega) rfl (Nat.le_of_ble_eq_true rfl) (Nat.le_of_ble_eq_true rfl) (k_checkPlace (by omega) hL rfl hp) rfl ?_
    refine ms_iload dX10_scene_15 rfl ?_
    refine ms_iconst (v := nI 1) dX10_scene_17 (by decide) ?_
    refine ms_bipush (v := nI 32) dX10_scene_18 (by decide) ?_
    refine qRS3 dX10_scene_20 kX10_64 (d := d - 1) (by show d - 1 + 1 ≤ d; omega) rfl rfl rfl (Nat.le_of_ble_eq_true rfl) (Nat.le_of_ble_eq_true rfl) (k_checkRange h1.1 h1.2) rfl ?_
    refine ms_aload_n dX10_scene_23 rfl ?_
    refine q_getr dX10_scene_24 fX10_10 kd_10_0 (by first | decide | exact lt_sc (by omega) | exact lt_dy (by omega) | exact lt_rw (by omega) | exact lt_wa (by omega) | exact lt_le (by omega)) (by first | rfl | rw [sh_sc (by omega)] | rw [sh_dy (by omega)]) (by first | rfl | exact rf_wa (by omega) | exact rf_le (by omega) | exact rf_rw (by omega)) ?_
    refine ms_iload_n dX10_scene_27 rfl ?_
    refine qRV1 dX10_scene_28 kX10_68 (by show _ < 178; first | decide | exact lt_sc (by omega) | exact lt_dy (by omega)) (by show (sh0 _).1 = _; first | rfl | rw [sh_sc (by omega)] | rw [sh_dy (by omega)]) (d := d - 1) (by show d - 1 + 1 ≤ d; omega) rfl (Nat.le_of_ble_eq_true rfl) (Nat.le_of_ble_eq_true rfl) (hr _ (by omega)) rfl ?_
    refine ms_if_ne (tgt := 44) dX10_scene_31 (by decide) (fun c31 => ?_) (fun c31 => ?_)
    · exact absurd rfl c31
    · exact ms_thr dX10_scene_34 dX10_scene_37 dX10_scene_38 dX10_scene_40 dX10_scene_43 thX10_scene_34 rfl (by show 6 ≤ d; omega) (by decide) (by decide) (Nat.le_of_ble_eq_true rfl) ⟨rfl, rfl⟩

