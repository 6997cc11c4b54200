-- NAME api
/-! the class's face: what a call refuses -/
theorem k_checkScene {S : m_S} {I : m_I} {lg : Int64} {d m j : Nat} {x : Int32} (hd : 2 ≤ d) (hM : Md I m) (hx : x = nI j) (hj : j < m) : m_R S M_X10_checkScene d [.ref 0, .int x] (hh I lg) none (hh I lg) := by
  have hM1 := hM.1
  have hM2 := hM.2
  refine ms_iload_n dX10_checkScene_0 rfl ?_
  refine ms_aload_n dX10_checkScene_1 rfl ?_
  refine q_getr dX10_checkScene_2 fX10_10 kd_10_0 (by first | decide | exact lt_sc (by omega) | exact lt_dy (by omega) | exact lt_rw (by omega) | exact lt_wa (by omega) | exact lt_le (by omega)) (by first | rfl | rw [sh_sc (by omega)] | rw [sh_dy (by omega)]) (by first | rfl | exact rf_wa (by omega) | exact rf_le (by omega) | exact rf_rw (by omega)) ?_
  refine q_geti dX10_checkScene_5 fX10_92 (by rw [kd_9_3]; decide) (by first | decide | exact lt_sc (by omega) | exact lt_dy (by omega) | exact lt_rw (by omega) | exact lt_wa (by omega) | exact lt_le (by omega)) (by first | rfl | rw [sh_sc (by omega)] | rw [sh_dy (by omega)]) (by first | assumption | ((repeat ((with_reducible apply m_up2_tr); · first | omega | (intro z; (try unfold scI at z); (try unfold dyI at z); (try unfold rwI at z); (try unfold waI at z); (try unfold leI at z); omega))); first | assumption | exact m_up2_eq | rfl)) ?_
  refine qRS2 dX10_checkScene_8 kX10_131 (d := d - 1) (by show d - 1 + 1 ≤ d; omega) rfl rfl (Nat.le_of_ble_eq_true rfl) (Nat.le_of_ble_eq_true rfl) (k_checkIndex hx hj (by omega)) rfl ?_
  refine ms_vret dX10_checkScene_11 rfl rfl ⟨rfl, ?_⟩
  · rfl
theorem k_checkSceneT {S : m_S} {I : m_I} {lg : Int64} {d m : Nat} {x : Int32} (hd : 7 ≤ d) (hM : Md I m) (hx : ∀ j, j < m → x ≠ nI j) : m_T S M_X10_checkScene d [.ref 0, .int x] (hh I lg) "java/lang/IndexOutOfBoundsException" := by
  have hM1 := hM.1
  have hM2 := hM.2
  refine ms_iload_n dX10_checkScene_0 rfl ?_
  refine ms_aload_n dX10_checkScene_1 rfl ?_
  refine q_getr dX10_checkScene_2 fX10_10 kd_10_0 (by first | decide | exact lt_sc (by omega) | exact lt_dy (by omega) | exact lt_rw (by omega) | exact lt_wa (by omega) | exact lt_le (by omega)) (by first | rfl | rw [sh_sc (by omega)] | rw [sh_dy (by omega)]) (by first | rfl | exact rf_wa (by omega) | exact rf_le (by omega) | exact rf_rw (by omega)) ?_
  refine q_geti dX10_checkScene_5 fX10_92 (by rw [kd_9_3]; decide) (by first | decide | exact lt_sc (by omega) | exact lt_dy (by omega) | exact lt_rw (by omega) | exact lt_wa (by omega) | exact lt_le (by omega)) (by first | rfl | rw [sh_sc (by omega)] | rw [sh_dy (by omega)]) (by first | assumption | ((repeat ((with_reducible apply m_up2_tr); · first | omega | (intro z; (try unfold scI at z); (try unfold dyI at z); (try unfold rwI at z); (try unfold waI at z); (try unfold leI at z); omega))); first | assumption | exact m_up2_eq | rfl)) ?_
  exact qTS2 dX10_checkScene_8 kX10_131 (d := d - 1) (by show d - 1 + 1 ≤ d; omega) rfl rfl (Nat.le_of_ble_eq_true rfl) (Nat.le_of_ble_eq_true rfl) (k_checkIndexT (by omega) hx (by omega)) (by decide) (by decide) (Or.inl ⟨rfl, rfl, rfl⟩)
theorem k_checkPerson {S : m_S} {I : m_I} {lg : Int64} {d m j : Nat} {x : Int32} (hd : 2 ≤ d) (hM : Pn I m) (hx : x = nI j) (hj : j < m) : m_R S M_X10_checkPerson d [.ref 0, .int x] (hh I lg) none (hh I lg) := by
  have hM1 := hM.1
  have hM2 := hM.2
  refine ms_iload_n dX10_checkPerson_0 rfl ?_
  refine ms_aload_n dX10_checkPerson_1 rfl ?_
  refine q_getr dX10_checkPerson_2 fX10_19 kd_10_1 (by first | decide | exact lt_sc (by omega) | exact lt_dy (by omega) | exact lt_rw (by omega) | exact lt_wa (by omega) | exact lt_le (by omega)) (by first | rfl | rw [sh_sc (by omega)] | rw [sh_dy (by omega)]) (by first | rfl | exact rf_wa (by omega) | exact rf_le (by omega) | exact rf_rw (by omega)) ?_
  refine q_geti dX10_checkPerson_5 fX10_120 (by rw [kd_2_4]; decide) (by first | decide | exact lt_sc (by omega) | exact lt_dy (by omega) | exact lt_rw (by omega) | exact lt_wa (by omega) | exact lt_le (by omega)) (by first | rfl | rw [sh_sc (by omega)] | rw [sh_dy (by omega)]) (by first | assumption | ((repeat ((with_reducible apply m_up2_tr); · first | omega | (intro z; (try unfold scI at z); (try unfold dyI at z); (try unfold rwI at z); (try unfold waI at z); (try unfold leI at z); omega))); first | assumption | exact m_up2_eq | rfl)) ?_
  refine qRS2 dX10_checkPerson_8 kX10_131 (d := d - 1) (by show d - 1 + 1 ≤ d; omega) rfl rfl (Nat.le_of_ble_eq_true rfl) (Nat.le_of_ble_eq_true rfl) (k_checkIndex hx hj (by omega)) rfl ?_
  refine ms_vret dX10_checkPerson_11 rfl rfl ⟨rfl, ?_⟩
  · rfl
theorem k_checkPersonT {S : m_S} {I : m_I} {lg : Int64} {d m : Nat} {x : Int32} (hd : 7 ≤ d) (hM : Pn I m) (hx : ∀ j, j < m → x ≠ nI j) : m_T S M_X10_checkPerson d [.ref 0, .int x] (hh I lg) "java/lang/IndexOutOfBoundsException" := by
  have hM1 := hM.1
  have hM2 := hM.2
  refine ms_iload_n dX10_checkPerson_0 rfl ?_
  refine ms_aload_n dX10_checkPerson_1 rfl ?_
  refine q_getr dX10_checkPerson_2 fX10_19 kd_10_1 (by first | decide | exact lt_sc (by omega) | exact lt_dy (by omega) | exact lt_rw (by omega) | exact lt_wa (by omega) | exact lt_le (by omega)) (by first | rfl | rw [sh_sc (by omega)] | rw [sh_dy (by omega)]) (by first | rfl | exact rf_wa (by omega) | exact rf_le (by omega) | exact rf_rw (by omega)) ?_
  refine q_geti dX10_checkPerson_5 fX10_120 (by rw [kd_2_4]; decide) (by first | decide | exact lt_sc (by omega) | exact lt_dy (by omega) | exact lt_rw (by omega) | exact lt_wa (by omega) | exact lt_le (by omega)) (by first | rfl | rw [sh_sc (by omega)] | rw [sh_dy (by omega)]) (by first | assumption | ((repeat ((with_reducible apply m_up2_tr); · first | omega | (intro z; (try unfold scI at z); (try unfold dyI at z); (try unfold rwI at z); (try unfold waI at z); (try unfold leI at z); omega))); first | assumption | exact m_up2_eq | rfl)) ?_
  exact qTS2 dX10_checkPerson_8 kX10_131 (d := d - 1) (by show d - 1 + 1 ≤ d; omega) rfl rfl (Nat.le_of_ble_eq_true rfl) (Nat.le_of_ble_eq_true rfl) (k_checkIndexT (by omega) hx (by omega)) (by decide) (by decide) (Or.inl ⟨rfl, rfl, rfl⟩)
/-- so many places -/
def Lc (I : m_I) (n : Nat) : Prop := I 69 2 = nI n ∧ n ≤ 6
theorem k_checkPlace {S : m_S} {I : m_I} {lg : Int64} {d m j : Nat} {x : Int32} (hd : 2 ≤ d) (hM : Lc I m) (hx : x = nI j) (hj : j < m) : m_R S M_X10_checkPlace d [.ref 0, .int x] (hh I lg) none (hh I lg) := by
  have hM1 := hM.1
  have hM2 := hM.2
  refine ms_iload_n dX10_checkPlace_0 rfl ?_
  refine ms_aload_n dX10_checkPlace_1 rfl ?_
  refine q_getr dX10_checkPlace_2 fX10_26 kd_10_2 (by first | decide | exact lt_sc (by omega) | exact lt_dy (by omega) | exact lt_rw (by omega) | exact lt_wa (by omega) | exact lt_le (by omega)) (by first | rfl | rw [sh_sc (by omega)] | rw [sh_dy (by omega)]) (by first | rfl | exact rf_wa (by omega) | exact rf_le (by omega) | exact rf_rw (by omega)) ?_
  refine q_geti dX10_checkPlace_5 fX10_173 (by rw [kd_7_2]; decide) (by first | decide | exact lt_sc (by omega) | exact lt_dy (by omega) | exact lt_rw (by omega) | exact lt_wa (by omega) | exact lt_le (by omega)) (by first | rfl | rw [sh_sc (by omega)] | rw [sh_dy (by omega)]) (by first | assumption | ((repeat ((with_reducible apply m_up2_tr); · first | omega | (intro z; (try unfold scI at z); (try unfold dyI at z); (try unfold rwI at z); (try unfold waI at z); (try unfold leI at z); omega))); first | assumption | exact m_up2_eq | rfl)) ?_
  refine qRS2 dX10_checkPlace_8 kX10_131 (d := d - 1) (by show d - 1 + 1 ≤ d; omega) rfl rfl (Nat.le_of_ble_eq_true rfl) (Nat.le_of_ble_eq_true rfl) (k_checkIndex hx hj (by omega)) rfl ?_
  refine ms_vret dX10_checkPlace_11 rfl rfl ⟨rfl, ?_⟩
  · rfl
theorem k_checkPlaceT {S : m_S} {I : m_I} {lg : Int64} {d m : Nat} {x : Int32} (hd : 7 ≤ d) (hM : Lc I m) (hx : ∀ j, j < m → x ≠ nI j) : m_T S M_X10_checkPlace d [.ref 0, .int x] (hh I lg) "java/lang/IndexOutOfBoundsException" := by
  have hM1 := hM.1
  have hM2 := hM.2
  refine ms_iload_n dX10_checkPlace_0 rfl ?_
  refine ms_aload_n dX10_checkPlace_1 rfl ?_
  refine q_getr dX10_checkPlace_2 fX10_26 kd_10_2 (by first | decide | exact lt_sc (by omega) | exact lt_dy (by omega) | exact lt_rw (by omega) | exact lt_wa (by omega) | exact lt_le (by omega)) (by first | rfl | rw [sh_sc (by omega)] | rw [sh_dy (by omega)]) (by first | rfl | exact rf_wa (by omega) | exact rf_le (by omega) | exact rf_rw (by omega)) ?_
  refine q_geti dX10_checkPlace_5 fX10_173 (by rw [kd_7_2]; decide) (by first | decide | exact lt_sc (by omega) | exact lt_dy (by omega) | exact lt_rw (by omega) | exact lt_wa (by omega) | exact lt_le (by omega)) (by first | rfl | rw [sh_sc (by omega)] | rw [sh_dy (by omega)]) (by first | assumption | ((repeat ((with_reducible apply m_up2_tr); · first | omega | (intro z; (try unfold scI at z); (try unfold dyI at z); (try unfold rwI at z); (try unfold waI at z); (try unfold leI at z); omega))); first | assumption | exact m_up2_eq | rfl)) ?_
  exact qTS2 dX10_checkPlace_8 kX10_131 (d := d - 1) (by show d - 1 + 1 ≤ d; omega) rfl rfl (Nat.le_of_ble_eq_true rfl) (Nat.le_of_ble_eq_true rfl) (k_checkIndexT (by omega) hx (by omega)) (by decide) (by decide) (Or.inl ⟨rfl, rfl, rfl⟩)
theorem k_checkDay {S : m_S} {h : m_H} {d j : Nat} {x : Int32} (hd : 2 ≤ d) (hx : x = nI j) (hj : j < 30) : m_R S M_X10_checkDay d [.int x] h none h := by
  refine ms_iload_n dX10_checkDay_0 rfl ?_
  refine ms_bipush (v := nI 30) dX10_checkDay_1 (by decide) ?_
  refine qRS2 dX10_checkDay_3 kX10_131 (d := d - 1) (by show d - 1 + 1 ≤ d; omega) rfl rfl (Nat.le_of_ble_eq_true rfl) (Nat.le_of_ble_eq_true rfl) (k_checkIndex hx hj (by omega)) rfl ?_
  refine ms_vret dX10_checkDay_6 rfl rfl ⟨rfl, ?_⟩
  · rfl
theorem k_checkDayT {S : m_S} {h : m_H} {d : Nat} {x : Int32} (hd : 7 ≤ d) (hx : ∀ j, j < 30 → x ≠ nI j) : m_T S M_X10_checkDay d [.int x] h "java/lang/IndexOutOfBoundsException" := by
  refine ms_iload_n dX10_checkDay_0 rfl ?_
  refine ms_bipush (v := nI 30) dX10_checkDay_1 (by decide) ?_
  exact qTS2 dX10_checkDay_3 kX10_131 (d := d - 1) (by show d - 1 + 1 ≤ d; omega) rfl rfl (Nat.le_of_ble_eq_true rfl) (Nat.le_of_ble_eq_true rfl) (k_checkIndexT (by omega) hx (by omega)) (by decide) (by decide) (Or.inl ⟨rfl, rfl, rfl⟩)
/-! lock, label, needs, look, clashes, bind -/
theorem k_lock {S : m_S} {I : m_I} {lg : Int64} {d m : Nat} {o : Nat → Nat} (hd : 2 ≤ d) (hM : Md I m) (ho : ∀ k, k < m → I 3 k = nI (o k) ∧ o k < 20) (hlo : I 1 4 = 0) : m_R S M_X10_lock d [.ref 0] (hh I lg) (some (.int (nI m))) (hh (m_up2 (klC I o m) 1 4 (nI 1)) lg) := by
  have hM1 := hM.1
  have hm' : klC I o m 1 3 = nI m := (klC_ne (Or.inl (by decide))).trans hM1
  refine ms_aload_n dX10_lock_0 rfl ?_
  refine q_getr dX10_lock_1 fX10_10 kd_10_0 (by first | decide | exact lt_sc (by omega) | exact lt_dy (by omega) | exact lt_rw (by omega) | exact lt_wa (by omega) | exact lt_le (by omega)) (by first | rfl | rw [sh_sc (by omega)] | rw [sh_dy (by omega)]) (by first | rfl | exact rf_wa (by omega) | exact rf_le (by omega) | exact rf_rw (by omega)) ?_
  refine q_geti dX10_lock_4 fX10_83 (by rw [kd_9_4]; decide) (by first | decide | exact lt_sc (by omega) | exact lt_dy (by omega) | exact lt_rw (by omega) | exact lt_wa (by omega) | exact lt_le (by omega)) (by first | rfl | rw [sh_sc (by omega)] | rw [sh_dy (by omega)]) rfl ?_
  refine ms_if_eq (tgt := 20) dX10_lock_7 (by decide) (fun c7 => ?_) (fun c7 => ?_)
  · refine ms_aload_n dX10_lock_20 rfl ?_
    refine q_getr dX10_lock_21 fX10_10 kd_10_0 (by first | decide | exact lt_sc (by omega) | exact lt_dy (by omega) | exact lt_rw (by omega) | exact lt_wa (by omega) | exact lt_le (by omega)) (by first | rfl | rw [sh_sc (by omega)] | rw [sh_dy (by omega)]) (by first | rfl | exact rf_wa (by omega) | exact rf_le (by omega) | exact rf_rw (by omega)) ?_
    refine qRV0 dX10_lock_24 kX10_89 (by show _ < 178; first | decide | exact lt_sc (by omega) | exact lt_dy (by omega)) (by show (sh0 _).1 = _; first | rfl | rw [sh_sc (by omega)] | rw [sh_dy (by omega)]) (d := d - 1) (by show d - 1 + 1 ≤ d; omega)  (Nat.le_of_ble_eq_true rfl) (Nat.le_of_ble_eq_true rfl) (k_keepLabels hM1 hM.2 ho) rfl ?_
    refine ms_aload_n dX10_lock_27 rfl ?_
    refine q_getr dX10_lock_28 fX10_10 kd_10_0 (by first | decide | exact lt_sc (by omega) | exact lt_dy (by omega) | exact lt_rw (by omega) | exact lt_wa (by omega) | exact lt_le (by omega)) (by first | rfl | rw [sh_sc (by omega)] | rw [sh_dy (by omega)]) (by first | rfl | exact rf_wa (by omega) | exact rf_le (by omega) | exact rf_rw (by omega)) ?_
    refine q_geti dX10_lock_31 fX10_92 (by rw [kd_9_3]; decide) (by first | decide | exact lt_sc (by omega) | exact lt_dy (by omega) | exact lt_rw (by omega) | exact lt_wa (by omega) | exact lt_le (by omega)) (by first | rfl | rw [sh_sc (by omega)] | rw [sh_dy (by omega)]) (by first | assumption | ((repeat ((with_reducible apply m_up2_tr); · first | omega | (intro z; (try unfold scI at z); (try unfold dyI at z); (try unfold rwI at z); (try unfold waI at z); (try unfold leI at z); omega))); first | assumption | exact m_up2_eq | rfl)) ?_
    refine ms_iret dX10_lock_34 rfl rfl ⟨?_, ?_⟩
    · rfl
    · rfl
  · exact absurd hlo c7
theorem k_lockT {S : m_S} {I : m_I} {lg : Int64} {d : Nat} (hd : 6 ≤ d) (hlo : ¬ I 1 4 = 0) : m_T S M_X10_lock d [.ref 0] (hh I lg) "java/lang/IllegalStateException" := by
  refine ms_aload_n dX10_lock_0 rfl ?_
  refine q_getr dX10_lock_1 fX10_10 kd_10_0 (by first | decide | exact lt_sc (by omega) | exact lt_dy (by omega) | exact lt_rw (by omega) | exact lt_wa (by omega) | exact lt_le (by omega)) (by first | rfl | rw [sh_sc (by omega)] | rw [sh_dy (by omega)]) (by first | rfl | exact rf_wa (by omega) | exact rf_le (by omega) | exact rf_rw (by omega)) ?_
  refine q_geti dX10_lock_4 fX10_83 (by rw [kd_9_4]; decide) (by first | decide | exact lt_sc (by omega) | exact lt_dy (by omega) | exact lt_rw (by omega) | exact lt_wa (by omega) | exact lt_le (by omega)) (by first | rfl | rw [sh_sc (by omega)] | rw [sh_dy (by omega)]) rfl ?_
  refine ms_if_eq (tgt := 20) dX10_lock_7 (by decide) (fun c7 => ?_) (fun c7 => ?_)
  · exact absurd c7 hlo
  · exact ms_thr dX10_lock_10 dX10_lock_13 dX10_lock_14 dX10_lock_16 dX10_lock_19 thX10_lock_10 rfl (by show 6 ≤ d; omega) (by decide) (by decide) (Nat.le_of_ble_eq_true rfl) ⟨rfl, rfl⟩
theorem k_label {S : m_S} {I : m_I} {lg : Int64} {d m s : Nat} {r : Int32} (hd : 3 ≤ d) (hM : Md I m) (hs : s < m) (hl : ∀ d, 2 ≤ d → m_R S M_X9_labelOf d [.ref 1, .int (nI s)] (hh I lg) (some (.int r)) (hh I lg)) : m_R S M_X10_label d [.ref 0, .int (nI s)] (hh I lg) (some (.int r)) (hh I lg) := by
  refine ms_aload_n dX10_label_0 rfl ?_
  refine ms_iload_n dX10_label_1 rfl ?_
  refine qRV1 dX10_label_2 kX10_57 (by show _ < 178; first | decide | exact lt_sc (by omega) | exact lt_dy (by omega)) (by show (sh0 _).1 = _; first | rfl | rw [sh_sc (by omega)] | rw [sh_dy (by omega)]) (d := d - 1) (by show d - 1 + 1 ≤ d; omega) rfl (Nat.le_of_ble_eq_true rfl) (Nat.le_of_ble_eq_true rfl) (k_checkScene (by omega) hM rfl hs) rfl ?_
  refine ms_aload_n dX10_label_5 rfl ?_
  refine q_getr dX10_label_6 fX10_10 kd_10_0 (by first | decide | exact lt_sc (by omega) | exact lt_dy (by omega) | exact lt_rw (by omega) | exact lt_wa (by omega) | exact lt_le (by omega)) (by first | rfl | rw [sh_sc (by omega)] | rw [sh_dy (by omega)]) (by first | rfl | exact rf_wa (by omega) | exact rf_le (by omega) | exact rf_rw (by omega)) ?_
  refine ms_iload_n dX10_label_9 rfl ?_
  refine qRV1 dX10_label_10 kX10_117 (by show _ < 178; first | decide | exact lt_sc (by omega) | exact lt_dy (by omega)) (by show (sh0 _).1 = _; first | rfl | rw [sh_sc (by omega)] | rw [sh_dy (by omega)]) (d := d - 1) (by show d - 1 + 1 ≤ d; omega) rfl (Nat.le_of_ble_eq_true rfl) (Nat.le_of_ble_eq_true rfl) (hl _ (by omega)) rfl ?_
  refine ms_iret dX10_label_13 rfl rfl ⟨?_, ?_⟩
  · rfl
  · rfl
theorem k_labelT {S : m_S} {I : m_I} {lg : Int64} {d m : Nat} {x : Int32} (hd : 8 ≤ d) (hM : Md I m) (hx : ∀ j, j < m → x ≠ nI j) : m_T S M_X10_label d [.ref 0, .int x] (hh I lg) "java/lang/IndexOutOfBoundsException" := by
  refine ms_aload_n dX10_label_0 rfl ?_
  refine ms_iload_n dX10_label_1 rfl ?_
  exact qTV1 dX10_label_2 kX10_57 (by show _ < 178; first | decide | exact lt_sc (by omega) | exact lt_dy (by omega)) (by show (sh0 _).1 = _; first | rfl | rw [sh_sc (by omega)] | rw [sh_dy (by omega)]) (d := d - 1) (by show d - 1 + 1 ≤ d; omega) rfl (Nat.le_of_ble_eq_true rfl) (Nat.le_of_ble_eq_true rfl) (k_checkSceneT (by omega) hM hx) (by decide) (by decide) (Or.inl ⟨rfl, rfl, rfl⟩)
def wl9 (b : Bool) (s : Nat) : Nat := if b then waI s else leI s
theorem k_look {S : m_S} {I : m_I} {lg : Int64} {d m s t : Nat} {o : Nat → Nat} {x : Int32} (b : Bool) (hd : 3 ≤ d) (hM : Md I m) (ho : ∀ k, k < m → I 3 k = nI (o k) ∧ o k < 20) (hs : s < m) (ht : t < 4) (h1 : -1 ≤ x) (h2 : x ≤ nI 9) : m_R S M_X10_look d [.ref 0, .int (nI s), .int (nI t), .int (bi b), .int x] (hh I lg) (some (.int (nI (fcN (m_up2 I (wl9 b s) t x) o m)))) (hh (fcJ (m_up2 I (wl9 b s) t x) o m) lg) := by
  have hM1 := hM.1
  have hM2 := hM.2
  have hne : ∀ a c, a < 5 → m_up2 I (wl9 b s) t x a c = I a c := fun a c ha => m_up2_ne (by unfold wl9 waI leI; split <;> omega)
  have hfc := k_findClashes (S := S) (lg := lg) (I := m_up2 I (wl9 b s) t x) (d := d - 1) (m := m) (o := o) (by omega) ((hne _ _ (by decide)).trans hM1) hM2 (fun k hk => by rw [hne _ _ (by decide)]; exact ho k hk)
  refine ms_aload_n dX10_look_0 rfl ?_
  refine ms_iload_n dX10_look_1 rfl ?_
  refine qRV1 dX10_look_2 kX10_57 (by show _ < 178; first | decide | exact lt_sc (by omega) | exact lt_dy (by omega)) (by show (sh0 _).1 = _; first | rfl | rw [sh_sc (by omega)] | rw [sh_dy (by omega)]) (d := d - 1) (by show d - 1 + 1 ≤ d; omega) rfl (Nat.le_of_ble_eq_true rfl) (Nat.le_of_ble_eq_true rfl) (k_checkScene (by omega) hM rfl hs) rfl ?_
  refine ms_iload_n dX10_look_5 rfl ?_
  refine ms_iconst (v := nI 4) dX10_look_6 (by decide) ?_
  refine qRS2 dX10_look_7 kX10_131 (d := d - 1) (by show d - 1 + 1 ≤ d; omega) rfl rfl (Nat.le_of_ble_eq_true rfl) (Nat.le_of_ble_eq_true rfl) (k_checkIndex rfl ht (by decide)) rfl ?_
  refine ms_iload dX10_look_10 rfl ?_
  refine ms_iconst (v := -1) dX10_look_12 (by decide) ?_
  refine ms_bipush (v := nI 9) dX10_look_13 (by decide) ?_
  refine qRS3 dX10_look_15 kX10_64 (d := d - 1) (by show d - 1 + 1 ≤ d; omega) rfl rfl rfl (Nat.le_of_ble_eq_true rfl) (Nat.le_of_ble_eq_true rfl) (k_checkRange h1 h2) rfl ?_
  refine ms_aload_n dX10_look_18 rfl ?_
  refine q_getr dX10_look_19 fX10_10 kd_10_0 (by first | decide | exact lt_sc (by omega) | exact lt_dy (by omega) | exact lt_rw (by omega) | exact lt_wa (by omega) | exact lt_le (by omega)) (by first | rfl | rw [sh_sc (by omega)] | rw [sh_dy (by omega)]) (by first | rfl | exact rf_wa (by omega) | exact rf_le (by omega) | exact rf_rw (by omega)) ?_
  refine q_getr dX10_look_22 fX10_96 kd_9_0 (by first | decide | exact lt_sc (by omega) | exact lt_dy (by omega) | exact lt_rw (by omega) | exact lt_wa (by omega) | exact lt_le (by omega)) (by first | rfl | rw [sh_sc (by omega)] | rw [sh_dy (by omega)]) (by first | rfl | exact rf_wa (by omega) | exact rf_le (by omega) | exact rf_rw (by omega)) ?_
  refine ms_iload_n dX10_look_25 rfl ?_
  refine q_aald dX10_look_26 (by first | exact Or.inl ⟨rfl, by omega, rfl⟩ | exact Or.inr ⟨rfl, by omega, rfl⟩) ?_
  refine ms_astore dX10_look_27 (Nat.le_of_ble_eq_true rfl) ?_
  refine ms_iload_n dX10_look_29 rfl ?_
  refine ms_if_eq (tgt := 41) dX10_look_30 (by decide) (fun c30 => ?_) (fun c30 => ?_)
  · have e := bi_0.mp c30
    subst e
    refine ms_aload dX10_look_41 rfl ?_
    refine q_getr dX10_look_43 fX10_139 kd_8_9 (by first | decide | exact lt_sc (by omega) | exact lt_dy (by omega) | exact lt_rw (by omega) | exact lt_wa (by omega) | exact lt_le (by omega)) (by first | rfl | rw [sh_sc (by omega)] | rw [sh_dy (by omega)]) (by first | rfl | exact rf_wa (by omega) | exact rf_le (by omega) | exact rf_rw (by omega)) ?_
    refine ms_astore dX10_look_46 (Nat.le_of_ble_eq_true rfl) ?_
    refine ms_aload dX10_look_48 rfl ?_
    refine ms_iload_n dX10_look_50 rfl ?_
    refine ms_iload dX10_look_51 rfl ?_
    refine q_iast dX10_look_53 (by first | decide | exact lt_sc (by omega) | exact lt_dy (by omega) | exact lt_rw (by omega) | exact lt_wa (by omega) | exact lt_le (by omega)) (by first | rfl | exact sh_rw (by omega) | exact sh_wa (by omega) | exact sh_le (by omega)) (by omega) (by decide) ?_
    refine ms_aload_n dX10_look_54 rfl ?_
    refine q_getr dX10_look_55 fX10_10 kd_10_0 (by first | decide | exact lt_sc (by omega) | exact lt_dy (by omega) | exact lt_rw (by omega) | exact lt_wa (by omega) | exact lt_le (by omega)) (by first | rfl | rw [sh_sc (by omega)] | rw [sh_dy (by omega)]) (by first | rfl | exact rf_wa (by omega) | exact rf_le (by omega) | exact rf_rw (by omega)) ?_
    refine qRV0 dX10_look_58 kX10_142 (by show _ < 178; first | decide | exact lt_sc (by omega) | exact lt_dy (by omega)) (by show (sh0 _).1 = _; first | rfl | rw [sh_sc (by omega)] | rw [sh_dy (by omega)]) (d := d - 1) (by show d - 1 + 1 ≤ d; omega)  (Nat.le_of_ble_eq_true rfl) (Nat.le_of_ble_eq_true rfl) (hfc) rfl ?_
    refine ms_iret dX10_look_61 rfl rfl ⟨?_, ?_⟩
    · rfl
    · rfl
  · have e := bi_n0.mp c30
    subst e
    refine ms_aload dX10_look_33 rfl ?_
    refine q_getr dX10_look_35 fX10_135 kd_8_8 (by first | decide | exact lt_sc (by omega) | exact lt_dy (by omega) | exact lt_rw (by omega) | exact lt_wa (by omega) | exact lt_le (by omega)) (by first | rfl | rw [sh_sc (by omega)] | rw [sh_dy (by omega)]) (by first | rfl | exact rf_wa (by omega) | exact rf_le (by omega) | exact rf_rw (by omega)) ?_
    refine ms_goto (tgt := 46) dX10_look_38 (by decide) ?_
    refine ms_astore dX10_look_46 (Nat.le_of_ble_eq_true rfl) ?_
    refine ms_aload dX10_look_48 rfl ?_
    refine ms_iload_n dX10_look_50 rfl ?_
    refine ms_iload dX10_look_51 rfl ?_
    refine q_iast dX10_look_53 (by first | decide | exact lt_sc (by omega) | exact lt_dy (by omega) | exact lt_rw (by omega) | exact lt_wa (by omega) | exact lt_le (by omega)) (by first | rfl | exact sh_rw (by omega) | exact sh_wa (by omega) | exact sh_le (by omega)) (by omega) (by decide) ?_
    refine ms_aload_n dX10_look_54 rfl ?_
    refine q_getr dX10_look_55 fX10_10 kd_10_0 (by first | decide | exact lt_sc (by omega) | exact lt_dy (by omega) | exact lt_rw (by omega) | exact lt_wa (by omega) | exact lt_le (by omega)) (by first | rfl | rw [sh_sc (by omega)] | rw [sh_dy (by omega)]) (by first | rfl | exact rf_wa (by omega) | exact rf_le (by omega) | exact rf_rw (by omega)) ?_
    refine qRV0 dX10_look_58 kX10_142 (by show _ < 178; first | decide | exact lt_sc (by omega) | exact lt_dy (by omega)) (by show (sh0 _).1 = _; first | rfl | rw [sh_sc (by omega)] | rw [sh_dy (by omega)]) (d := d - 1) (by show d - 1 + 1 ≤ d; omega)  (Nat.le_of_ble_eq_true rfl) (Nat.le_of_ble_eq_true rfl) (hfc) rfl ?_
    refine ms_iret dX10_look_61 rfl rfl ⟨?_, ?_⟩
    · rfl
    · rfl
theorem k_lookT1 {S : m_S} {I : m_I} {lg : Int64} {d m : Nat} {x y z v : Int32} (hd : 8 ≤ d) (hM : Md I m) (hx : ∀ j, j < m → x ≠ nI j) : m_T S M_X10_look d [.ref 0, .int x, .int y, .int z, .int v] (hh I lg) "java/lang/IndexOutOfBoundsException" := by
  refine ms_aload_n dX10_look_0 rfl ?_
  refine ms_iload_n dX10_look_1 rfl ?_
  exact qTV1 dX10_look_2 kX10_57 (by show _ < 178; first | decide | exact lt_sc (by omega) | exact lt_dy (by omega)) (by show (sh0 _).1 = _; first | rfl | rw [sh_sc (by omega)] | rw [sh_dy (by omega)]) (d := d - 1) (by show d - 1 + 1 ≤ d; omega) rfl (Nat.le_of_ble_eq_true rfl) (Nat.le_of_ble_eq_true rfl) (k_checkSceneT (by omega) hM hx) (by decide) (by decide) (Or.inl ⟨rfl, rfl, rfl⟩)
theorem k_lookT2 {S : m_S} {I : m_I} {lg : Int64} {d m s : Nat} {y z v : Int32} (hd : 8 ≤ d) (hM : Md I m) (hs : s < m) (hy : ∀ j, j < 4 → y ≠ nI j) : m_T S M_X10_look d [.ref 0, .int (nI s), .int y, .int z, .int v] (hh I lg) "java/lang/IndexOutOfBoundsException" := by
  refine ms_aload_n dX10_look_0 rfl ?_
  refine ms_iload_n dX10_look_1 rfl ?_
  refine qRV1 dX10_look_2 kX10_57 (by show _ < 178; first | decide | exact lt_sc (by omega) | exact lt_dy (by omega)) (by show (sh0 _).1 = _; first | rfl | rw [sh_sc (by omega)] | rw [sh_dy (by omega)]) (d := d - 1) (by show d - 1 + 1 ≤ d; omega) rfl (Nat.le_of_ble_eq_true rfl) (Nat.le_of_ble_eq_true rfl) (k_checkScene (by omega) hM rfl hs) rfl ?_
  refine ms_iload_n dX10_look_5 rfl ?_
  refine ms_iconst (v := nI 4) dX10_look_6 (by decide) ?_
  exact qTS2 dX10_look_7 kX10_131 (d := d - 1) (by show d - 1 + 1 ≤ d; omega) rfl rfl (Nat.le_of_ble_eq_true rfl) (Nat.le_of_ble_eq_true rfl) (k_checkIndexT (by omega) hy (by decide)) (by decide) (by decide) (Or.inl ⟨rfl, rfl, rfl⟩)
theorem k_lookT3 {S : m_S} {I : m_I} {lg : Int64} {d m s t : Nat} {z v : Int32} (hd : 8 ≤ d) (hM : Md I m) (hs : s < m) (ht : t < 4) (hv : ¬ (-1 ≤ v ∧ v ≤ nI 9)) : m_T S M_X10_look d [.ref 0, .int (nI s), .int (nI t), .int z, .int v] (hh I lg) "java/lang/IllegalArgumentException" := by
  refine ms_aload_n dX10_look_0 rfl ?_
  refine ms_iload_n dX10_look_1 rfl ?_
  refine qRV1 dX10_look_2 kX10_57 (by show _ < 178; first | decide | exact lt_sc (by omega) | exact lt_dy (by omega)) (by show (sh0 _).1 = _; first | rfl | rw [sh_sc (by omega)] | rw [sh_dy (by omega)]) (d := d - 1) (by show d - 1 + 1 ≤ d; omega) rfl (Nat.le_of_ble_eq_true rfl) (Nat.le_of_ble_eq_true rfl) (k_checkScene (by omega) hM rfl hs) rfl ?_
  refine ms_iload_n dX10_look_5 rfl ?_
  refine ms_iconst (v := nI 4) dX10_look_6 (by decide) ?_
  refine qRS2 dX10_look_7 kX10_131 (d := d - 1) (by show d - 1 + 1 ≤ d; omega) rfl rfl (Nat.le_of_ble_eq_true rfl) (Nat.le_of_ble_eq_true rfl) (k_checkIndex rfl ht (by decide)) rfl ?_
  refine ms_iload dX10_look_10 rfl ?_
  refine ms_iconst (v := -1) dX10_look_12 (by decide) ?_
  refine ms_bipush (v := nI 9) dX10_look_13 (by decide) ?_
  exact qTS3 dX10_look_15 kX10_64 (d := d - 1) (by show d - 1 + 1 ≤ d; omega) rfl rfl rfl (Nat.le_of_ble_eq_true rfl) (Nat.le_of_ble_eq_true rfl) (k_checkRangeT (by omega) hv) (by decide) (by decide) (Or.inl ⟨rfl, rfl, rfl⟩)
theorem k_clashes {S : m_S} {I : m_I} {lg : Int64} {d m s : Nat} {o : Nat → Nat} {c : Bool} (hd : 3 ≤ d) (hM : Md I m) (ho : ∀ k, k < m → I 3 k = nI (o k) ∧ o k < 20) (hs : s < m) (hc : fcJ I o m (scI s) 10 = bi c) : m_R S M_X10_clashes d [.ref 0, .int (nI s)] (hh I lg) (some (.int (bi c))) (hh (fcJ I o m) lg) := by
  have hM2 := hM.2
  refine ms_aload_n dX10_clashes_0 rfl ?_
  refine ms_iload_n dX10_clashes_1 rfl ?_
  refine qRV1 dX10_clashes_2 kX10_57 (by show _ < 178; first | decide | exact lt_sc (by omega) | exact lt_dy (by omega)) (by show (sh0 _).1 = _; first | rfl | rw [sh_sc (by omega)] | rw [sh_dy (by omega)]) (d := d - 1) (by show d - 1 + 1 ≤ d; omega) rfl (Nat.le_of_ble_eq_true rfl) (Nat.le_of_ble_eq_true rfl) (k_checkScene (by omega) hM rfl hs) rfl ?_
  refine ms_aload_n dX10_clashes_5 rfl ?_
  refine q_getr dX10_clashes_6 fX10_10 kd_10_0 (by first | decide | exact lt_sc (by omega) | exact lt_dy (by omega) | exact lt_rw (by omega) | exact lt_wa (by omega) | exact lt_le (by omega)) (by first | rfl | rw [sh_sc (by omega)] | rw [sh_dy (by omega)]) (by first | rfl | exact rf_wa (by omega) | exact rf_le (by omega) | exact rf_rw (by omega)) ?_
  refine qRV0 dX10_clashes_9 kX10_142 (by show _ < 178; first | decide | exact lt_sc (by omega) | exact lt_dy (by omega)) (by show (sh0 _).1 = _; first | rfl | rw [sh_sc (by omega)] | rw [sh_dy (by omega)]) (d := d - 1) (by show d - 1 + 1 ≤ d; omega)  (Nat.le_of_ble_eq_true rfl) (Nat.le_of_ble_eq_true rfl) (k_findClashes (by omega) hM.1 hM.2 ho) rfl ?_
  refine ms_pop dX10_clashes_12 rfl ?_
  refine ms_aload_n dX10_clashes_13 rfl ?_
  refine q_getr dX10_clashes_14 fX10_10 kd_10_0 (by first | decide | exact lt_sc (by omega) | exact lt_dy (by omega) | exact lt_rw (by omega) | exact lt_wa (by omega) | exact lt_le (by omega)) (by first | rfl | rw [sh_sc (by omega)] | rw [sh_dy (by omega)]) (by first | rfl | exact rf_wa (by omega) | exact rf_le (by omega) | exact rf_rw (by omega)) ?_
  refine q_getr dX10_clashes_17 fX10_96 kd_9_0 (by first | decide | exact lt_sc (by omega) | exact lt_dy (by omega) | exact lt_rw (by omega) | exact lt_wa (by omega) | exact lt_le (by omega)) (by first | rfl | rw [sh_sc (by omega)] | rw [sh_dy (by omega)]) (by first | rfl | exact rf_wa (by omega) | exact rf_le (by omega) | exact rf_rw (by omega)) ?_
  refine ms_iload_n dX10_clashes_20 rfl ?_
  refine q_aald dX10_clashes_21 (by first | exact Or.inl ⟨rfl, by omega, rfl⟩ | exact Or.inr ⟨rfl, by omega, rfl⟩) ?_
  refine q_geti dX10_clashes_22 fX10_146 (by rw [kd_8_10]; decide) (by first | decide | exact lt_sc (by omega) | exact lt_dy (by omega) | exact lt_rw (by omega) | exact lt_wa (by omega) | exact lt_le (by omega)) (by first | rfl | rw [sh_sc (by omega)] | rw [sh_dy (by omega)]) (by first | assumption | ((repeat ((with_reducible apply m_up2_tr); · first | omega | (intro z; (try unfold scI at z); (try unfold dyI at z); (try unfold rwI at z); (try unfold waI at z); (try unfold leI at z); omega))); first | assumption | exact m_up2_eq | rfl)) ?_
  refine ms_zret dX10_clashes_25 rfl rfl (by first | exact Or.inl (by decide) | exact Or.inr (by decide) | assumption | exact bi_01 _) ⟨?_, ?_⟩
  · rfl
  · rfl
theorem k_clashesT {S : m_S} {I : m_I} {lg : Int64} {d m : Nat} {x : Int32} (hd : 8 ≤ d) (hM : Md I m) (hx : ∀ j, j < m → x ≠ nI j) : m_T S M_X10_clashes d [.ref 0, .int x] (hh I lg) "java/lang/IndexOutOfBoundsException" := by
  refine ms_aload_n dX10_clashes_0 rfl ?_
  refine ms_iload_n dX10_clashes_1 rfl ?_
  exact qTV1 dX10_clashes_2 kX10_57 (by show _ < 178; first | decide | exact lt_sc (by omega) | exact lt_dy (by omega)) (by show (sh0 _).1 = _; first | rfl | rw [sh_sc (by omega)] | rw [sh_dy (by omega)]) (d := d - 1) (by show d - 1 + 1 ≤ d; omega) rfl (Nat.le_of_ble_eq_true rfl) (Nat.le_of_ble_eq_true rfl) (k_checkSceneT (by omega) hM hx) (by decide) (by decide) (Or.inl ⟨rfl, rfl, rfl⟩)
/-! people, places -/
theorem k_person {S : m_S} {I : m_I} {lg : Int64} {d n : Nat} {x1 x2 x3 : Int32} (c : Bool) (hd : 3 ≤ d) (hn : I 65 4 = nI n) (hn2 : n < 8) (h1 : nI 0 ≤ x1 ∧ x1 ≤ nI 2) (h2 : nI 1 ≤ x2 ∧ x2 ≤ nI 1000) (h3 : nI 0 ≤ x3 ∧ x3 ≤ nI 180) : m_R S M_X10_person d [.ref 0, .int x1, .int x2, .int x3, .int (bi c)] (hh I lg) (some (.int (nI n))) (hh (m_up2 (m_up2 (m_up2 (m_up2 (m_up2 I 66 n x1) 67 n x2) 68 n x3) 65 3 (wb (I 65 3) n c)) 65 4 (nI (n + 1))) lg) := by
  refine ms_iload_n dX10_person_0 rfl ?_
  refine ms_iconst (v := nI 0) dX10_person_1 (by decide) ?_
  refine ms_iconst (v := nI 2) dX10_person_2 (by decide) ?_
  refine qRS3 dX10_person_3 kX10_64 (d := d - 1) (by show d - 1 + 1 ≤ d; omega) rfl rfl rfl (Nat.le_of_ble_eq_true rfl) (Nat.le_of_ble_eq_true rfl) (k_checkRange h1.1 h1.2) rfl ?_
  refine ms_iload_n dX10_person_6 rfl ?_
  refine ms_iconst (v := nI 1) dX10_person_7 (by decide) ?_
  refine ms_sipush (v := nI 1000) dX10_person_8 (by decide) ?_
  refine qRS3 dX10_person_11 kX10_64 (d := d - 1) (by show d - 1 + 1 ≤ d; omega) rfl rfl rfl (Nat.le_of_ble_eq_true rfl) (Nat.le_of_ble_eq_true rfl) (k_checkRange h2.1 h2.2) rfl ?_
  refine ms_iload_n dX10_person_14 rfl ?_
  refine ms_iconst (v := nI 0) dX10_person_15 (by decide) ?_
  refine ms_sipush (v := nI 180) dX10_person_16 (by decide) ?_
  refine qRS3 dX10_person_19 kX10_64 (d := d - 1) (by show d - 1 + 1 ≤ d; omega) rfl rfl rfl (Nat.le_of_ble_eq_true rfl) (Nat.le_of_ble_eq_true rfl) (k_checkRange h3.1 h3.2) rfl ?_
  refine ms_aload_n dX10_person_22 rfl ?_
  refine q_getr dX10_person_23 fX10_19 kd_10_1 (by first | decide | exact lt_sc (by omega) | exact lt_dy (by omega) | exact lt_rw (by omega) | exact lt_wa (by omega) | exact lt_le (by omega)) (by first | rfl | rw [sh_sc (by omega)] | rw [sh_dy (by omega)]) (by first | rfl | exact rf_wa (by omega) | exact rf_le (by omega) | exact rf_rw (by omega)) ?_
  refine q_geti dX10_person_26 fX10_120 (by rw [kd_2_4]; decide) (by first | decide | exact lt_sc (by omega) | exact lt_dy (by omega) | exact lt_rw (by omega) | exact lt_wa (by omega) | exact lt_le (by omega)) (by first | rfl | rw [sh_sc (by omega)] | rw [sh_dy (by omega)]) (by first | assumption | ((repeat ((with_reducible apply m_up2_tr); · first | omega | (intro z; (try unfold scI at z); (try unfold dyI at z); (try unfold rwI at z); (try unfold waI at z); (try unfold leI at z); omega))); first | assumption | exact m_up2_eq | rfl)) ?_
  refine ms_bipush (v := nI 8) dX10_person_29 (by decide) ?_
  refine n_icmp_lt (tgt := 44) dX10_person_31 (by decide) (by omega) (by omega) (fun c31 => ?_) (fun c31 => ?_)
  · refine ms_aload_n dX10_person_44 rfl ?_
    refine q_getr dX10_person_45 fX10_19 kd_10_1 (by first | decide | exact lt_sc (by omega) | exact lt_dy (by omega) | exact lt_rw (by omega) | exact lt_wa (by omega) | exact lt_le (by omega)) (by first | rfl | rw [sh_sc (by omega)] | rw [sh_dy (by omega)]) (by first | rfl | exact rf_wa (by omega) | exact rf_le (by omega) | exact rf_rw (by omega)) ?_
    refine ms_iload_n dX10_person_48 rfl ?_
    refine ms_iload_n dX10_person_49 rfl ?_
    refine ms_iload_n dX10_person_50 rfl ?_
    refine ms_iload dX10_person_51 rfl ?_
    refine qRV4 dX10_person_53 kX10_160 (by show _ < 178; first | decide | exact lt_sc (by omega) | exact lt_dy (by omega)) (by show (sh0 _).1 = _; first | rfl | rw [sh_sc (by omega)] | rw [sh_dy (by omega)]) (d := d - 1) (by show d - 1 + 1 ≤ d; omega) rfl rfl rfl rfl (Nat.le_of_ble_eq_true rfl) (Nat.le_of_ble_eq_true rfl) (k_crewAdd (by omega) hn hn2 _ _ _ c) rfl ?_
    refine ms_iret dX10_person_56 rfl rfl ⟨?_, ?_⟩
    · rfl
    · rfl
  · omega
theorem k_personT1 {S : m_S} {I : m_I} {lg : Int64} {d : Nat} {x1 x2 x3 x4 : Int32} (hd : 7 ≤ d) (h1 : ¬ (nI 0 ≤ x1 ∧ x1 ≤ nI 2)) : m_T S M_X10_person d [.ref 0, .int x1, .int x2, .int x3, .int x4] (hh I lg) "java/lang/IllegalArgumentException" := by
  refine ms_iload_n dX10_person_0 rfl ?_
  refine ms_iconst (v := nI 0) dX10_person_1 (by decide) ?_
  refine ms_iconst (v := nI 2) dX10_person_2 (by decide) ?_
  exact qTS3 dX10_person_3 kX10_64 (d := d - 1) (by show d - 1 + 1 ≤ d; omega) rfl rfl rfl (Nat.le_of_ble_eq_true rfl) (Nat.le_of_ble_eq_true rfl) (k_checkRangeT (by omega) h1) (by decide) (by decide) (Or.inl ⟨rfl, rfl, rfl⟩)
theorem k_personT2 {S : m_S} {I : m_I} {lg : Int64} {d : Nat} {x1 x2 x3 x4 : Int32} (hd : 7 ≤ d) (h1 : nI 0 ≤ x1 ∧ x1 ≤ nI 2) (h2 : ¬ (nI 1 ≤ x2 ∧ x2 ≤ nI 1000)) : m_T S M_X10_person d [.ref 0, .int x1, .int x2, .int x3, .int x4] (hh I lg) "java/lang/IllegalArgumentException" := by
  refine ms_iload_n dX10_person_0 rfl ?_
  refine ms_iconst (v := nI 0) dX10_person_1 (by decide) ?_
  refine ms_iconst (v := nI 2) dX10_person_2 (by decide) ?_
  refine qRS3 dX10_person_3 kX10_64 (d := d - 1) (by show d - 1 + 1 ≤ d; omega) rfl rfl rfl (Nat.le_of_ble_eq_true rfl) (Nat.le_of_ble_eq_true rfl) (k_checkRange h1.1 h1.2) rfl ?_
  refine ms_iload_n dX10_person_6 rfl ?_
  refine ms_iconst (v := nI 1) dX10_person_7 (by decide) ?_
  refine ms_sipush (v := nI 1000) dX10_person_8 (by decide) ?_
  exact qTS3 dX10_person_11 kX10_64 (d := d - 1) (by show d - 1 + 1 ≤ d; omega) rfl rfl rfl (Nat.le_of_ble_eq_true rfl) (Nat.le_of_ble_eq_true rfl) (k_checkRangeT (by omega) h2) (by decide) (by decide) (Or.inl ⟨rfl, rfl, rfl⟩)
theorem k_personT3 {S : m_S} {I : m_I} {lg : Int64} {d : Nat} {x1 x2 x3 x4 : Int32} (hd : 7 ≤ d) (h1 : nI 0 ≤ x1 ∧ x1 ≤ nI 2) (h2 : nI 1 ≤ x2 ∧ x2 ≤ nI 1000) (h3 : ¬ (nI 0 ≤ x3 ∧ x3 ≤ nI 180)) : m_T S M_X10_person d [.ref 0, .int x1, .int x2, .int x3, .int x4] (hh I lg) "java/lang/IllegalArgumentException" := by
  refine ms_iload_n dX10_person_0 rfl ?_
  refine ms_iconst (v := nI 0) dX10_person_1 (by decide) ?_
  refine ms_iconst (v := nI 2) dX10_person_2 (by decide) ?_
  refine qRS3 dX10_person_3 kX10_64 (d := d - 1) (by show d - 1 + 1 ≤ d; omega) rfl rfl rfl (Nat.le_of_ble_eq_true rfl) (Nat.le_of_ble_eq_true rfl) (k_checkRange h1.1 h1.2) rfl ?_
  refine ms_iload_n dX10_person_6 rfl ?_
  refine ms_iconst (v := nI 1) dX10_person_7 (by decide) ?_
  refine ms_sipush (v := nI 1000) dX10_person_8 (by decide) ?_
  refine qRS3 dX10_person_11 kX10_64 (d := d - 1) (by show d - 1 + 1 ≤ d; omega) rfl rfl rfl (Nat.le_of_ble_eq_true rfl) (Nat.le_of_ble_eq_true rfl) (k_checkRange h2.1 h2.2) rfl ?_
  refine ms_iload_n dX10_person_14 rfl ?_
  refine ms_iconst (v := nI 0) dX10_person_15 (by decide) ?_
  refine ms_sipush (v := nI 180) dX10_person_16 (by decide) ?_
  exact qTS3 dX10_person_19 kX10_64 (d := d - 1) (by show d - 1 + 1 ≤ d; omega) rfl rfl rfl (Nat.le_of_ble_eq_true rfl) (Nat.le_of_ble_eq_true rfl) (k_checkRangeT (by omega) h3) (by decide) (by decide) (Or.inl ⟨rfl, rfl, rfl⟩)
theorem k_personT4 {S : m_S} {I : m_I} {lg : Int64} {d : Nat} {x1 x2 x3 x4 : Int32} (hd : 7 ≤ d) (hn : I 65 4 = nI 8) (h1 : nI 0 ≤ x1 ∧ x1 ≤ nI 2) (h2 : nI 1 ≤ x2 ∧ x2 ≤ nI 1000) (h3 : nI 0 ≤ x3 ∧ x3 ≤ nI 180) : m_T S M_X10_person d [.ref 0, .int x1, .int x2, .int x3, .int x4] (hh I lg) "java/lang/IllegalStateException" := by
  refine ms_iload_n dX10_person_0 rfl ?_
  refine ms_iconst (v := nI 0) dX10_person_1 (by decide) ?_
  refine ms_iconst (v := nI 2) dX10_person_2 (by decide) ?_
  refine qRS3 dX10_person_3 kX10_64 (d := d - 1) (by show d - 1 + 1 ≤ d; omega) rfl rfl rfl (Nat.le_of_ble_eq_true rfl) (Nat.le_of_ble_eq_true rfl) (k_checkRange h1.1 h1.2) rfl ?_
  refine ms_iload_n dX10_person_6 rfl ?_
  refine ms_iconst (v := nI 1) dX10_person_7 (by decide) ?_
  refine ms_sipush (v := nI 1000) dX10_person_8 (by decide) ?_
  refine qRS3 dX10_person_11 kX10_64 (d := d - 1) (by show d - 1 + 1 ≤ d; omega) rfl rfl rfl (Nat.le_of_ble_eq_true rfl) (Nat.le_of_ble_eq_true rfl) (k_checkRange h2.1 h2.2) rfl ?_
  refine ms_iload_n dX10_person_14 rfl ?_
  refine ms_iconst (v := nI 0) dX10_person_15 (by decide) ?_
  refine ms_sipush (v := nI 180) dX10_person_16 (by decide) ?_
  refine qRS3 dX10_person_19 kX10_64 (d := d - 1) (by show d - 1 + 1 ≤ d; omega) rfl rfl rfl (Nat.le_of_ble_eq_true rfl) (Nat.le_of_ble_eq_true rfl) (k_checkRange h3.1 h3.2) rfl ?_
  refine ms_aload_n dX10_person_22 rfl ?_
  refine q_getr dX10_person_23 fX10_19 kd_10_1 (by first | decide | exact lt_sc (by omega) | exact lt_dy (by omega) | exact lt_rw (by omega) | exact lt_wa (by omega) | exact lt_le (by omega)) (by first | rfl | rw [sh_sc (by omega)] | rw [sh_dy (by omega)]) (by first | rfl | exact rf_wa (by omega) | exact rf_le (by omega) | exact rf_rw (by omega)) ?_
  refine q_geti dX10_person_26 fX10_120 (by rw [kd_2_4]; decide) (by first | decide | exact lt_sc (by omega) | exact lt_dy (by omega) | exact lt_rw (by omega) | exact lt_wa (by omega) | exact lt_le (by omega)) (by first | rfl | rw [sh_sc (by omega)] | rw [sh_dy (by omega)]) (by first | assumption | ((repeat ((with_reducible apply m_up2_tr); · first | omega | (intro z; (try unfold scI at z); (try unfold dyI at z); (try unfold rwI at z); (try unfold waI at z); (try unfold leI at z); omega))); first | assumption | exact m_up2_eq | rfl)) ?_
  refine ms_bipush (v := nI 8) dX10_person_29 (by decide) ?_
  refine n_icmp_lt (tgt := 44) dX10_person_31 (by decide) (by omega) (by omega) (fun c31 => ?_) (fun c31 => ?_)
  · omega
  · exact ms_thr dX10_person_34 dX10_person_37 dX10_person_38 dX10_person_40 dX10_person_43 thX10_person_34 rfl (by show 6 ≤ d; omega) (by decide) (by decide) (Nat.le_of_ble_eq_true rfl) ⟨rfl, rfl⟩
theorem k_ill {S : m_S} {I : m_I} {lg : Int64} {d n p t : Nat} (c : Bool) (hd : 3 ≤ d) (hP : Pn I n) (hp : p < n) (ht : t < 30) : m_R S M_X10_ill d [.ref 0, .int (nI p), .int (nI t), .int (bi c)] (hh I lg) (some (.int (nI (fb_ct (fun i => bt ((m_up2 I (dyI t) 3 (wb (I (dyI t) 3) p c)) (dyI i) 3) p) 30)))) (hh (m_up2 I (dyI t) 3 (wb (I (dyI t) 3) p c)) lg) := by
  have hP2 := hP.2
  refine ms_aload_n dX10_ill_0 rfl ?_
  refine ms_iload_n dX10_ill_1 rfl ?_
  refine qRV1 dX10_ill_2 kX10_163 (by show _ < 178; first | decide | exact lt_sc (by omega) | exact lt_dy (by omega)) (by show (sh0 _).1 = _; first | rfl | rw [sh_sc (by omega)] | rw [sh_dy (by omega)]) (d := d - 1) (by show d - 1 + 1 ≤ d; omega) rfl (Nat.le_of_ble_eq_true rfl) (Nat.le_of_ble_eq_true rfl) (k_checkPerson (by omega) hP rfl hp) rfl ?_
  refine ms_iload_n dX10_ill_5 rfl ?_
  refine qRS1 dX10_ill_6 kX10_166 (d := d - 1) (by show d - 1 + 1 ≤ d; omega) rfl (Nat.le_of_ble_eq_true rfl) (Nat.le_of_ble_eq_true rfl) (k_checkDay (by omega) rfl ht) rfl ?_
  refine ms_aload_n dX10_ill_9 rfl ?_
  refine q_getr dX10_ill_10 fX10_35 kd_10_3 (by first | decide | exact lt_sc (by omega) | exact lt_dy (by omega) | exact lt_rw (by omega) | exact lt_wa (by omega) | exact lt_le (by omega)) (by first | rfl | rw [sh_sc (by omega)] | rw [sh_dy (by omega)]) (by first | rfl | exact rf_wa (by omega) | exact rf_le (by omega) | exact rf_rw (by omega)) ?_
  refine ms_iload_n dX10_ill_13 rfl ?_
  refine ms_iload_n dX10_ill_14 rfl ?_
  refine ms_iload_n dX10_ill_15 rfl ?_
  refine qRV3 dX10_ill_16 kX10_169 (by show _ < 178; first | decide | exact lt_sc (by omega) | exact lt_dy (by omega)) (by show (sh0 _).1 = _; first | rfl | rw [sh_sc (by omega)] | rw [sh_dy (by omega)]) (d := d - 1) (by show d - 1 + 1 ≤ d; omega) rfl rfl rfl (Nat.le_of_ble_eq_true rfl) (Nat.le_of_ble_eq_true rfl) (k_tellIll c (by omega) (by omega) ht) rfl ?_
  refine ms_iret dX10_ill_19 rfl rfl ⟨?_, ?_⟩
  · rfl
  · rfl
theorem k_illT1 {S : m_S} {I : m_I} {lg : Int64} {d n : Nat} {x y z : Int32} (hd : 8 ≤ d) (hP : Pn I n) (hx : ∀ j, j < n → x ≠ nI j) : m_T S M_X10_ill d [.ref 0, .int x, .int y, .int z] (hh I lg) "java/lang/IndexOutOfBoundsException" := by
  refine ms_aload_n dX10_ill_0 rfl ?_
  refine ms_iload_n dX10_ill_1 rfl ?_
  exact qTV1 dX10_ill_2 kX10_163 (by show _ < 178; first | decide | exact lt_sc (by omega) | exact lt_dy (by omega)) (by show (sh0 _).1 = _; first | rfl | rw [sh_sc (by omega)] | rw [sh_dy (by omega)]) (d := d - 1) (by show d - 1 + 1 ≤ d; omega) rfl (Nat.le_of_ble_eq_true rfl) (Nat.le_of_ble_eq_true rfl) (k_checkPersonT (by omega) hP hx) (by decide) (by decide) (Or.inl ⟨rfl, rfl, rfl⟩)
theorem k_illT2 {S : m_S} {I : m_I} {lg : Int64} {d n p : Nat} {y z : Int32} (hd : 8 ≤ d) (hP : Pn I n) (hp : p < n) (hy : ∀ j, j < 30 → y ≠ nI j) : m_T S M_X10_ill d [.ref 0, .int (nI p), .int y, .int z] (hh I lg) "java/lang/IndexOutOfBoundsException" := by
  refine ms_aload_n dX10_ill_0 rfl ?_
  refine ms_iload_n dX10_ill_1 rfl ?_
  refine qRV1 dX10_ill_2 kX10_163 (by show _ < 178; first | decide | exact lt_sc (by omega) | exact lt_dy (by omega)) (by show (sh0 _).1 = _; first | rfl | rw [sh_sc (by omega)] | rw [sh_dy (by omega)]) (d := d - 1) (by show d - 1 + 1 ≤ d; omega) rfl (Nat.le_of_ble_eq_true rfl) (Nat.le_of_ble_eq_true rfl) (k_checkPerson (by omega) hP rfl hp) rfl ?_
  refine ms_iload_n dX10_ill_5 rfl ?_
  exact qTS1 dX10_ill_6 kX10_166 (d := d - 1) (by show d - 1 + 1 ≤ d; omega) rfl (Nat.le_of_ble_eq_true rfl) (Nat.le_of_ble_eq_true rfl) (k_checkDayT (by omega) hy) (by decide) (by decide) (Or.inl ⟨rfl, rfl, rfl⟩)
theorem k_place {S : m_S} {I : m_I} {lg : Int64} {d n : Nat} {x : Int32} (hd : 3 ≤ d) (hn : I 69 2 = nI n) (hn2 : n < 6) (h1 : nI 0 ≤ x ∧ x ≤ nI 1000) : m_R S M_X10_place d [.ref 0, .int x] (hh I lg) (some (.int (nI n))) (hh (m_up2 (m_up2 I 70 n x) 69 2 (nI (n + 1))) lg) := by
  refine ms_iload_n dX10_place_0 rfl ?_
  refine ms_iconst (v := nI 0) dX10_place_1 (by decide) ?_
  refine ms_sipush (v := nI 1000) dX10_place_2 (by decide) ?_
  refine qRS3 dX10_place_5 kX10_64 (d := d - 1) (by show d - 1 + 1 ≤ d; omega) rfl rfl rfl (Nat.le_of_ble_eq_true rfl) (Nat.le_of_ble_eq_true rfl) (k_checkRange h1.1 h1.2) rfl ?_
  refine ms_aload_n dX10_place_8 rfl ?_
  refine q_getr dX10_place_9 fX10_26 kd_10_2 (by first | decide | exact lt_sc (by omega) | exact lt_dy (by omega) | exact lt_rw (by omega) | exact lt_wa (by omega) | exact lt_le (by omega)) (by first | rfl | rw [sh_sc (by omega)] | rw [sh_dy (by omega)]) (by first | rfl | exact rf_wa (by omega) | exact rf_le (by omega) | exact rf_rw (by omega)) ?_
  refine q_geti dX10_place_12 fX10_173 (by rw [kd_7_2]; decide) (by first | decide | exact lt_sc (by omega) | exact lt_dy (by omega) | exact lt_rw (by omega) | exact lt_wa (by omega) | exact lt_le (by omega)) (by first | rfl | rw [sh_sc (by omega)] | rw [sh_dy (by omega)]) (by first | assumption | ((repeat ((with_reducible apply m_up2_tr); · first | omega | (intro z; (try unfold scI at z); (try unfold dyI at z); (try unfold rwI at z); (try unfold waI at z); (try unfold leI at z); omega))); first | assumption | exact m_up2_eq | rfl)) ?_
  refine ms_bipush (v := nI 6) dX10_place_15 (by decide) ?_
  refine n_icmp_lt (tgt := 30) dX10_place_17 (by decide) (by omega) (by omega) (fun c17 => ?_) (fun c17 => ?_)
  · refine ms_aload_n dX10_place_30 rfl ?_
    refine q_getr dX10_place_31 fX10_26 kd_10_2 (by first | decide | exact lt_sc (by omega) | exact lt_dy (by omega) | exact lt_rw (by omega) | exact lt_wa (by omega) | exact lt_le (by omega)) (by first | rfl | rw [sh_sc (by omega)] | rw [sh_dy (by omega)]) (by first | rfl | exact rf_wa (by omega) | exact rf_le (by omega) | exact rf_rw (by omega)) ?_
    refine ms_iload_n dX10_place_34 rfl ?_
    refine qRV1 dX10_place_35 kX10_176 (by show _ < 178; first | decide | exact lt_sc (by omega) | exact lt_dy (by omega)) (by show (sh0 _).1 = _; first | rfl | rw [sh_sc (by omega)] | rw [sh_dy (by omega)]) (d := d - 1) (by show d - 1 + 1 ≤ d; omega) rfl (Nat.le_of_ble_eq_true rfl) (Nat.le_of_ble_eq_true rfl) (k_placesAdd hn hn2 x) rfl ?_
    refine ms_iret dX10_place_38 rfl rfl ⟨?_, ?_⟩
    · rfl
    · rfl
  · omega
theorem k_placeT1 {S : m_S} {I : m_I} {lg : Int64} {d : Nat} {x : Int32} (hd : 7 ≤ d) (h1 : ¬ (nI 0 ≤ x ∧ x ≤ nI 1000)) : m_T S M_X10_place d [.ref 0, .int x] (hh I lg) "java/lang/IllegalArgumentException" := by
  refine ms_iload_n dX10_place_0 rfl ?_
  refine ms_iconst (v := nI 0) dX10_place_1 (by decide) ?_
  refine ms_sipush (v := nI 1000) dX10_place_2 (by decide) ?_
  exact qTS3 dX10_place_5 kX10_64 (d := d - 1) (by show d - 1 + 1 ≤ d; omega) rfl rfl rfl (Nat.le_of_ble_eq_true rfl) (Nat.le_of_ble_eq_true rfl) (k_checkRangeT (by omega) h1) (by decide) (by decide) (Or.inl ⟨rfl, rfl, rfl⟩)
theorem k_placeT2 {S : m_S} {I : m_I} {lg : Int64} {d : Nat} {x : Int32} (hd : 7 ≤ d) (hn : I 69 2 = nI 6) (h1 : nI 0 ≤ x ∧ x ≤ nI 1000) : m_T S M_X10_place d [.ref 0, .int x] (hh I lg) "java/lang/IllegalStateException" := by
  refine ms_iload_n dX10_place_0 rfl ?_
  refine ms_iconst (v := nI 0) dX10_place_1 (by decide) ?_
  refine ms_sipush (v := nI 1000) dX10_place_2 (by decide) ?_
  refine qRS3 dX10_place_5 kX10_64 (d := d - 1) (by show d - 1 + 1 ≤ d; omega) rfl rfl rfl (Nat.le_of_ble_eq_true rfl) (Nat.le_of_ble_eq_true rfl) (k_checkRange h1.1 h1.2) rfl ?_
  refine ms_aload_n dX10_place_8 rfl ?_
  refine q_getr dX10_place_9 fX10_26 kd_10_2 (by first | decide | exact lt_sc (by omega) | exact lt_dy (by omega) | exact lt_rw (by omega) | exact lt_wa (by omega) | exact lt_le (by omega)) (by first | rfl | rw [sh_sc (by omega)] | rw [sh_dy (by omega)]) (by first | rfl | exact rf_wa (by omega) | exact rf_le (by omega) | exact rf_rw (by omega)) ?_
  refine q_geti dX10_place_12 fX10_173 (by rw [kd_7_2]; decide) (by first | decide | exact lt_sc (by omega) | exact lt_dy (by omega) | exact lt_rw (by omega) | exact lt_wa (by omega) | exact lt_le (by omega)) (by first | rfl | rw [sh_sc (by omega)] | rw [sh_dy (by omega)]) (by first | assumption | ((repeat ((with_reducible apply m_up2_tr); · first | omega | (intro z; (try unfold scI at z); (try unfold dyI at z); (try unfold rwI at z); (try unfold waI at z); (try unfold leI at z); omega))); first | assumption | exact m_up2_eq | rfl)) ?_
  refine ms_bipush (v := nI 6) dX10_place_15 (by decide) ?_
  refine n_icmp_lt (tgt := 30) dX10_place_17 (by decide) (by omega) (by omega) (fun c17 => ?_) (fun c17 => ?_)
  · omega
  · exact ms_thr dX10_place_20 dX10_place_23 dX10_place_24 dX10_place_26 dX10_place_29 thX10_place_20 rfl (by show 6 ≤ d; omega) (by decide) (by decide) (Nat.le_of_ble_eq_true rfl) ⟨rfl, rfl⟩
theorem k_permit {S : m_S} {I : m_I} {lg : Int64} {d n p t : Nat} (c : Bool) (hd : 3 ≤ d) (hP : Lc I n) (hp : p < n) (ht : t < 30) : m_R S M_X10_permit d [.ref 0, .int (nI p), .int (nI t), .int (bi c)] (hh I lg) (some (.int (nI (fb_ct (fun i => !bt ((m_up2 I (dyI t) 4 (wb (I (dyI t) 4) p (!c))) (dyI i) 4) p) 30)))) (hh (m_up2 I (dyI t) 4 (wb (I (dyI t) 4) p (!c))) lg) := by
  have hP2 := hP.2
  refine ms_aload_n dX10_permit_0 rfl ?_
  refine ms_iload_n dX10_permit_1 rfl ?_
  refine qRV1 dX10_permit_2 kX10_61 (by show _ < 178; first | decide | exact lt_sc (by omega) | exact lt_dy (by omega)) (by show (sh0 _).1 = _; first | rfl | rw [sh_sc (by omega)] | rw [sh_dy (by omega)]) (d := d - 1) (by show d - 1 + 1 ≤ d; omega) rfl (Nat.le_of_ble_eq_true rfl) (Nat.le_of_ble_eq_true rfl) (k_checkPlace (by omega) hP rfl hp) rfl ?_
  refine ms_iload_n dX10_permit_5 rfl ?_
  refine qRS1 dX10_permit_6 kX10_166 (d := d - 1) (by show d - 1 + 1 ≤ d; omega) rfl (Nat.le_of_ble_eq_true rfl) (Nat.le_of_ble_eq_true rfl) (k_checkDay (by omega) rfl ht) rfl ?_
  refine ms_aload_n dX10_permit_9 rfl ?_
  refine q_getr dX10_permit_10 fX10_35 kd_10_3 (by first | decide | exact lt_sc (by omega) | exact lt_dy (by omega) | exact lt_rw (by omega) | exact lt_wa (by omega) | exact lt_le (by omega)) (by first | rfl | rw [sh_sc (by omega)] | rw [sh_dy (by omega)]) (by first | rfl | exact rf_wa (by omega) | exact rf_le (by omega) | exact rf_rw (by omega)) ?_
  refine ms_iload_n dX10_permit_13 rfl ?_
  refine ms_iload_n dX10_permit_14 rfl ?_
  refine ms_iload_n dX10_permit_15 rfl ?_
  refine qRV3 dX10_permit_16 kX10_178 (by show _ < 178; first | decide | exact lt_sc (by omega) | exact lt_dy (by omega)) (by show (sh0 _).1 = _; first | rfl | rw [sh_sc (by omega)] | rw [sh_dy (by omega)]) (d := d - 1) (by show d - 1 + 1 ≤ d; omega) rfl rfl rfl (Nat.le_of_ble_eq_true rfl) (Nat.le_of_ble_eq_true rfl) (k_tellAllowed c (by omega) (by omega) ht) rfl ?_
  refine ms_iret dX10_permit_19 rfl rfl ⟨?_, ?_⟩
  · rfl
  · rfl
theorem k_permitT1 {S : m_S} {I : m_I} {lg : Int64} {d n : Nat} {x y z : Int32} (hd : 8 ≤ d) (hP : Lc I n) (hx : ∀ j, j < n → x ≠ nI j) : m_T S M_X10_permit d [.ref 0, .int x, .int y, .int z] (hh I lg) "java/lang/IndexOutOfBoundsException" := by
  refine ms_aload_n dX10_permit_0 rfl ?_
  refine ms_iload_n dX10_permit_1 rfl ?_
  exact qTV1 dX10_permit_2 kX10_61 (by show _ < 178; first | decide | exact lt_sc (by omega) | exact lt_dy (by omega)) (by show (sh0 _).1 = _; first | rfl | rw [sh_sc (by omega)] | rw [sh_dy (by omega)]) (d := d - 1) (by show d - 1 + 1 ≤ d; omega) rfl (Nat.le_of_ble_eq_true rfl) (Nat.le_of_ble_eq_true rfl) (k_checkPlaceT (by omega) hP hx) (by decide) (by decide) (Or.inl ⟨rfl, rfl, rfl⟩)
theorem k_permitT2 {S : m_S} {I : m_I} {lg : Int64} {d n p : Nat} {y z : Int32} (hd : 8 ≤ d) (hP : Lc I n) (hp : p < n) (hy : ∀ j, j < 30 → y ≠ nI j) : m_T S M_X10_permit d [.ref 0, .int (nI p), .int y, .int z] (hh I lg) "java/lang/IndexOutOfBoundsException" := by
  refine ms_aload_n dX10_permit_0 rfl ?_
  refine ms_iload_n dX10_permit_1 rfl ?_
  refine qRV1 dX10_permit_2 kX10_61 (by show _ < 178; first | decide | exact lt_sc (by omega) | exact lt_dy (by omega)) (by show (sh0 _).1 = _; first | rfl | rw [sh_sc (by omega)] | rw [sh_dy (by omega)]) (d := d - 1) (by show d - 1 + 1 ≤ d; omega) rfl (Nat.le_of_ble_eq_true rfl) (Nat.le_of_ble_eq_true rfl) (k_checkPlace (by omega) hP rfl hp) rfl ?_
  refine ms_iload_n dX10_permit_5 rfl ?_
  exact qTS1 dX10_permit_6 kX10_166 (d := d - 1) (by show d - 1 + 1 ≤ d; omega) rfl (Nat.le_of_ble_eq_true rfl) (Nat.le_of_ble_eq_true rfl) (k_checkDayT (by omega) hy) (by decide) (by decide) (Or.inl ⟨rfl, rfl, rfl⟩)
theorem k_move {S : m_S} {I : m_I} {lg : Int64} {d n a b : Nat} {x : Int32} (hd : 3 ≤ d) (hP : Lc I n) (ha : a < n) (hb : b < n) (hab : a ≠ b) (h1 : nI 0 ≤ x ∧ x ≤ nI 300) : m_R S M_X10_move d [.ref 0, .int (nI a), .int (nI b), .int x] (hh I lg) (some (.int (mvC I a b))) (hh (m_up2 (m_up2 I 71 (a * 6 + b) x) 71 (b * 6 + a) x) lg) := by
  have hP2 := hP.2
  refine ms_aload_n dX10_move_0 rfl ?_
  refine ms_iload_n dX10_move_1 rfl ?_
  refine qRV1 dX10_move_2 kX10_61 (by show _ < 178; first | decide | exact lt_sc (by omega) | exact lt_dy (by omega)) (by show (sh0 _).1 = _; first | rfl | rw [sh_sc (by omega)] | rw [sh_dy (by omega)]) (d := d - 1) (by show d - 1 + 1 ≤ d; omega) rfl (Nat.le_of_ble_eq_true rfl) (Nat.le_of_ble_eq_true rfl) (k_checkPlace (by omega) hP rfl ha) rfl ?_
  refine ms_aload_n dX10_move_5 rfl ?_
  refine ms_iload_n dX10_move_6 rfl ?_
  refine qRV1 dX10_move_7 kX10_61 (by show _ < 178; first | decide | exact lt_sc (by omega) | exact lt_dy (by omega)) (by show (sh0 _).1 = _; first | rfl | rw [sh_sc (by omega)] | rw [sh_dy (by omega)]) (d := d - 1) (by show d - 1 + 1 ≤ d; omega) rfl (Nat.le_of_ble_eq_true rfl) (Nat.le_of_ble_eq_true rfl) (k_checkPlace (by omega) hP rfl hb) rfl ?_
  refine ms_iload_n dX10_move_10 rfl ?_
  refine ms_iconst (v := nI 0) dX10_move_11 (by decide) ?_
  refine ms_sipush (v := nI 300) dX10_move_12 (by decide) ?_
  refine qRS3 dX10_move_15 kX10_64 (d := d - 1) (by show d - 1 + 1 ≤ d; omega) rfl rfl rfl (Nat.le_of_ble_eq_true rfl) (Nat.le_of_ble_eq_true rfl) (k_checkRange h1.1 h1.2) rfl ?_
  refine ms_iload_n dX10_move_18 rfl ?_
  refine ms_iload_n dX10_move_19 rfl ?_
  refine n_icmp_ne (tgt := 33) dX10_move_20 (by decide) (by omega) (by omega) (fun c20 => ?_) (fun c20 => ?_)
  · refine ms_aload_n dX10_move_33 rfl ?_
    refine q_getr dX10_move_34 fX10_26 kd_10_2 (by first | decide | exact lt_sc (by omega) | exact lt_dy (by omega) | exact lt_rw (by omega) | exact lt_wa (by omega) | exact lt_le (by omega)) (by first | rfl | rw [sh_sc (by omega)] | rw [sh_dy (by omega)]) (by first | rfl | exact rf_wa (by omega) | exact rf_le (by omega) | exact rf_rw (by omega)) ?_
    refine ms_iload_n dX10_move_37 rfl ?_
    refine ms_iload_n dX10_move_38 rfl ?_
    refine ms_iload_n dX10_move_39 rfl ?_
    refine qRV3 dX10_move_40 kX10_186 (by show _ < 178; first | decide | exact lt_sc (by omega) | exact lt_dy (by omega)) (by show (sh0 _).1 = _; first | rfl | rw [sh_sc (by omega)] | rw [sh_dy (by omega)]) (d := d - 1) (by show d - 1 + 1 ≤ d; omega) rfl rfl rfl (Nat.le_of_ble_eq_true rfl) (Nat.le_of_ble_eq_true rfl) (k_tellMove (by omega) (by omega) (by omega) x) rfl ?_
    refine ms_iret dX10_move_43 rfl rfl ⟨?_, ?_⟩
    · rfl
    · rfl
  · exact absurd c20 hab
theorem k_moveT1 {S : m_S} {I : m_I} {lg : Int64} {d n : Nat} {x y z : Int32} (hd : 8 ≤ d) (hP : Lc I n) (hx : ∀ j, j < n → x ≠ nI j) : m_T S M_X10_move d [.ref 0, .int x, .int y, .int z] (hh I lg) "java/lang/IndexOutOfBoundsException" := by
  refine ms_aload_n dX10_move_0 rfl ?_
  refine ms_iload_n dX10_move_1 rfl ?_
  exact qTV1 dX10_move_2 kX10_61 (by show _ < 178; first | decide | exact lt_sc (by omega) | exact lt_dy (by omega)) (by show (sh0 _).1 = _; first | rfl | rw [sh_sc (by omega)] | rw [sh_dy (by omega)]) (d := d - 1) (by show d - 1 + 1 ≤ d; omega) rfl (Nat.le_of_ble_eq_true rfl) (Nat.le_of_ble_eq_true rfl) (k_checkPlaceT (by omega) hP hx) (by decide) (by decide) (Or.inl ⟨rfl, rfl, rfl⟩)
theorem k_moveT2 {S : m_S} {I : m_I} {lg : Int64} {d n a : Nat} {y z : Int32} (hd : 8 ≤ d) (hP : Lc I n) (ha : a < n) (hx : ∀ j, j < n → y ≠ nI j) : m_T S M_X10_move d [.ref 0, .int (nI a), .int y, .int z] (hh I lg) "java/lang/IndexOutOfBoundsException" := by
  refine ms_aload_n dX10_move_0 rfl ?_
  refine ms_iload_n dX10_move_1 rfl ?_
  refine qRV1 dX10_move_2 kX10_61 (by show _ < 178; first | decide | exact lt_sc (by omega) | exact lt_dy (by omega)) (by show (sh0 _).1 = _; first | rfl | rw [sh_sc (by omega)] | rw [sh_dy (by omega)]) (d := d - 1) (by show d - 1 + 1 ≤ d; omega) rfl (Nat.le_of_ble_eq_true rfl) (Nat.le_of_ble_eq_true rfl) (k_checkPlace (by omega) hP rfl ha) rfl ?_
  refine ms_aload_n dX10_move_5 rfl ?_
  refine ms_iload_n dX10_move_6 rfl ?_
  exact qTV1 dX10_move_7 kX10_61 (by show _ < 178; first | decide | exact lt_sc (by omega) | exact lt_dy (by omega)) (by show (sh0 _).1 = _; first | rfl | rw [sh_sc (by omega)] | rw [sh_dy (by omega)]) (d := d - 1) (by show d - 1 + 1 ≤ d; omega) rfl (Nat.le_of_ble_eq_true rfl) (Nat.le_of_ble_eq_true rfl) (k_checkPlaceT (by omega) hP hx) (by decide) (by decide) (Or.inl ⟨rfl, rfl, rfl⟩)
theorem k_moveT3 {S : m_S} {I : m_I} {lg : Int64} {d n a b : Nat} {z : Int32} (hd : 8 ≤ d) (hP : Lc I n) (ha : a < n) (hb : b < n) (h1 : ¬ (nI 0 ≤ z ∧ z ≤ nI 300) ∨ a = b) : m_T S M_X10_move d [.ref 0, .int (nI a), .int (nI b), .int z] (hh I lg) "java/lang/IllegalArgumentException" := by
  have hP2 := hP.2
  by_cases h2 : nI 0 ≤ z ∧ z ≤ nI 300
  · have hab : a = b := h1.elim (fun q => absurd h2 q) id
    refine ms_aload_n dX10_move_0 rfl ?_
    refine ms_iload_n dX10_move_1 rfl ?_
    refine qRV1 dX10_move_2 kX10_61 (by show _ < 178; first | decide | exact lt_sc (by omega) | exact lt_dy (by omega)) (by show (sh0 _).1 = _; first | rfl | rw [sh_sc (by omega)] | rw [sh_dy (by omega)]) (d := d - 1) (by show d - 1 + 1 ≤ d; omega) rfl (Nat.le_of_ble_eq_true rfl) (Nat.le_of_ble_eq_true rfl) (k_checkPlace (by omega) hP rfl ha) rfl ?_
    refine ms_aload_n dX10_move_5 rfl ?_
    refine ms_iload_n dX10_move_6 rfl ?_
    refine qRV1 dX10_move_7 kX10_61 (by show _ < 178; first | decide | exact lt_sc (by omega) | exact lt_dy (by omega)) (by show (sh0 _).1 = _; first | rfl | rw [sh_sc (by omega)] | rw [sh_dy (by omega)]) (d := d - 1) (by show d - 1 + 1 ≤ d; omega) rfl (Nat.le_of_ble_eq_true rfl) (Nat.le_of_ble_eq_true rfl) (k_checkPlace (by omega) hP rfl hb) rfl ?_
    refine ms_iload_n dX10_move_10 rfl ?_
    refine ms_iconst (v := nI 0) dX10_move_11 (by decide) ?_
    refine ms_sipush (v := nI 300) dX10_move_12 (by decide) ?_
    refine qRS3 dX10_move_15 kX10_64 (d := d - 1) (by show d - 1 + 1 ≤ d; omega) rfl rfl rfl (Nat.le_of_ble_eq_true rfl) (Nat.le_of_ble_eq_true rfl) (k_checkRange h2.1 h2.2) rfl ?_
    refine ms_iload_n dX10_move_18 rfl ?_
    refine ms_iload_n dX10_move_19 rfl ?_
    refine n_icmp_ne (tgt := 33) dX10_move_20 (by decide) (by omega) (by omega) (fun c20 => ?_) (fun c20 => ?_)
    · exact absurd hab c20
    · exact ms_thr dX10_move_23 dX10_move_26 dX10_move_27 dX10_move_29 dX10_move_32 thX10_move_23 rfl (by show 6 ≤ d; omega) (by decide) (by decide) (Nat.le_of_ble_eq_true rfl) ⟨rfl, rfl⟩
  · refine ms_aload_n dX10_move_0 rfl ?_
    refine ms_iload_n dX10_move_1 rfl ?_
    refine qRV1 dX10_move_2 kX10_61 (by show _ < 178; first | decide | exact lt_sc (by omega) | exact lt_dy (by omega)) (by show (sh0 _).1 = _; first | rfl | rw [sh_sc (by omega)] | rw [sh_dy (by omega)]) (d := d - 1) (by show d - 1 + 1 ≤ d; omega) rfl (Nat.le_of_ble_eq_true rfl) (Nat.le_of_ble_eq_true rfl) (k_checkPlace (by omega) hP rfl ha) rfl ?_
    refine ms_aload_n dX10_move_5 rfl ?_
    refine ms_iload_n dX10_move_6 rfl ?_
    refine qRV1 dX10_move_7 kX10_61 (by show _ < 178; first | decide | exact lt_sc (by omega) | exact lt_dy (by omega)) (by show (sh0 _).1 = _; first | rfl | rw [sh_sc (by omega)] | rw [sh_dy (by omega)]) (d := d - 1) (by show d - 1 + 1 ≤ d; omega) rfl (Nat.le_of_ble_eq_true rfl) (Nat.le_of_ble_eq_true rfl) (k_checkPlace (by omega) hP rfl hb) rfl ?_
    refine ms_iload_n dX10_move_10 rfl ?_
    refine ms_iconst (v := nI 0) dX10_move_11 (by decide) ?_
    refine ms_sipush (v := nI 300) dX10_move_12 (by decide) ?_
    exact qTS3 dX10_move_15 kX10_64 (d := d - 1) (by show d - 1 + 1 ≤ d; omega) rfl rfl rfl (Nat.le_of_ble_eq_true rfl) (Nat.le_of_ble_eq_true rfl) (k_checkRangeT (by omega) h2) (by decide) (by decide) (Or.inl ⟨rfl, rfl, rfl⟩)
theorem k_light {S : m_S} {I : m_I} {lg : Int64} {d t : Nat} {x y z : Int32} (hd : 3 ≤ d) (ht : t < 30) (h1 : nI 0 ≤ x ∧ x ≤ nI 1200) (h2 : nI 0 ≤ y ∧ y ≤ nI 1440) (h3 : y ≤ z ∧ z ≤ nI 1440) : m_R S M_X10_light d [.ref 0, .int (nI t), .int x, .int y, .int z] (hh I lg) none (hh (m_up2 (m_up2 (m_up2 I (dyI t) 0 x) (dyI t) 1 y) (dyI t) 2 z) lg) := by
  refine ms_iload_n dX10_light_0 rfl ?_
  refine qRS1 dX10_light_1 kX10_166 (d := d - 1) (by show d - 1 + 1 ≤ d; omega) rfl (Nat.le_of_ble_eq_true rfl) (Nat.le_of_ble_eq_true rfl) (k_checkDay (by omega) rfl ht) rfl ?_
  refine ms_iload_n dX10_light_4 rfl ?_
  refine ms_iconst (v := nI 0) dX10_light_5 (by decide) ?_
  refine ms_sipush (v := nI 1200) dX10_light_6 (by decide) ?_
  refine qRS3 dX10_light_9 kX10_64 (d := d - 1) (by show d - 1 + 1 ≤ d; omega) rfl rfl rfl (Nat.le_of_ble_eq_true rfl) (Nat.le_of_ble_eq_true rfl) (k_checkRange h1.1 h1.2) rfl ?_
  refine ms_iload_n dX10_light_12 rfl ?_
  refine ms_iconst (v := nI 0) dX10_light_13 (by decide) ?_
  refine ms_sipush (v := nI 1440) dX10_light_14 (by decide) ?_
  refine qRS3 dX10_light_17 kX10_64 (d := d - 1) (by show d - 1 + 1 ≤ d; omega) rfl rfl rfl (Nat.le_of_ble_eq_true rfl) (Nat.le_of_ble_eq_true rfl) (k_checkRange h2.1 h2.2) rfl ?_
  refine ms_iload dX10_light_20 rfl ?_
  refine ms_iload_n dX10_light_22 rfl ?_
  refine ms_sipush (v := nI 1440) dX10_light_23 (by decide) ?_
  refine qRS3 dX10_light_26 kX10_64 (d := d - 1) (by show d - 1 + 1 ≤ d; omega) rfl rfl rfl (Nat.le_of_ble_eq_true rfl) (Nat.le_of_ble_eq_true rfl) (k_checkRange h3.1 h3.2) rfl ?_
  refine ms_aload_n dX10_light_29 rfl ?_
  refine q_getr dX10_light_30 fX10_35 kd_10_3 (by first | decide | exact lt_sc (by omega) | exact lt_dy (by omega) | exact lt_rw (by omega) | exact lt_wa (by omega) | exact lt_le (by omega)) (by first | rfl | rw [sh_sc (by omega)] | rw [sh_dy (by omega)]) (by first | rfl | exact rf_wa (by omega) | exact rf_le (by omega) | exact rf_rw (by omega)) ?_
  refine q_getr dX10_light_33 fX10_190 kd_0_2 (by first | decide | exact lt_sc (by omega) | exact lt_dy (by omega) | exact lt_rw (by omega) | exact lt_wa (by omega) | exact lt_le (by omega)) (by first | rfl | rw [sh_sc (by omega)] | rw [sh_dy (by omega)]) (by first | rfl | exact rf_wa (by omega) | exact rf_le (by omega) | exact rf_rw (by omega)) ?_
  refine ms_iload_n dX10_light_36 rfl ?_
  refine q_aald dX10_light_37 (by first | exact Or.inl ⟨rfl, by omega, rfl⟩ | exact Or.inr ⟨rfl, by omega, rfl⟩) ?_
  refine ms_astore dX10_light_38 (Nat.le_of_ble_eq_true rfl) ?_
  refine ms_aload dX10_light_40 rfl ?_
  refine ms_iload_n dX10_light_42 rfl ?_
  refine q_puti dX10_light_43 fX10_194 pX10_3_0 kd_3_0 (by first | decide | exact lt_sc (by omega) | exact lt_dy (by omega) | exact lt_rw (by omega) | exact lt_wa (by omega) | exact lt_le (by omega)) (by first | rfl | rw [sh_sc (by omega)] | rw [sh_dy (by omega)]) ?_
  refine ms_aload dX10_light_46 rfl ?_
  refine ms_iload_n dX10_light_48 rfl ?_
  refine q_puti dX10_light_49 fX10_199 pX10_3_1 kd_3_1 (by first | decide | exact lt_sc (by omega) | exact lt_dy (by omega) | exact lt_rw (by omega) | exact lt_wa (by omega) | exact lt_le (by omega)) (by first | rfl | rw [sh_sc (by omega)] | rw [sh_dy (by omega)]) ?_
  refine ms_aload dX10_light_52 rfl ?_
  refine ms_iload dX10_light_54 rfl ?_
  refine q_puti dX10_light_56 fX10_202 pX10_3_2 kd_3_2 (by first | decide | exact lt_sc (by omega) | exact lt_dy (by omega) | exact lt_rw (by omega) | exact lt_wa (by omega) | exact lt_le (by omega)) (by first | rfl | rw [sh_sc (by omega)] | rw [sh_dy (by omega)]) ?_
  refine ms_vret dX10_light_59 rfl rfl ⟨rfl, ?_⟩
  · rfl
theorem k_lightT1 {S : m_S} {I : m_I} {lg : Int64} {d : Nat} {v x y z : Int32} (hd : 8 ≤ d) (hx : ∀ j, j < 30 → v ≠ nI j) : m_T S M_X10_light d [.ref 0, .int v, .int x, .int y, .int z] (hh I lg) "java/lang/IndexOutOfBoundsException" := by
  refine ms_iload_n dX10_light_0 rfl ?_
  exact qTS1 dX10_light_1 kX10_166 (d := d - 1) (by show d - 1 + 1 ≤ d; omega) rfl (Nat.le_of_ble_eq_true rfl) (Nat.le_of_ble_eq_true rfl) (k_checkDayT (by omega) hx) (by decide) (by decide) (Or.inl ⟨rfl, rfl, rfl⟩)
theorem k_lightT2 {S : m_S} {I : m_I} {lg : Int64} {d t : Nat} {x y z : Int32} (hd : 8 ≤ d) (ht : t < 30) (h1 : ¬ ((nI 0 ≤ x ∧ x ≤ nI 1200) ∧ (nI 0 ≤ y ∧ y ≤ nI 1440) ∧ (y ≤ z ∧ z ≤ nI 1440))) : m_T S M_X10_light d [.ref 0, .int (nI t), .int x, .int y, .int z] (hh I lg) "java/lang/IllegalArgumentException" := by
  by_cases h2 : nI 0 ≤ x ∧ x ≤ nI 1200
  · by_cases h3 : nI 0 ≤ y ∧ y ≤ nI 1440
    · refine ms_iload_n dX10_light_0 rfl ?_
      refine qRS1 dX10_light_1 kX10_166 (d := d - 1) (by show d - 1 + 1 ≤ d; omega) rfl (Nat.le_of_ble_eq_true rfl) (Nat.le_of_ble_eq_true rfl) (k_checkDay (by omega) rfl ht) rfl ?_
      refine ms_iload_n dX10_light_4 rfl ?_
      refine ms_iconst (v := nI 0) dX10_light_5 (by decide) ?_
      refine ms_sipush (v := nI 1200) dX10_light_6 (by decide) ?_
      refine qRS3 dX10_light_9 kX10_64 (d := d - 1) (by show d - 1 + 1 ≤ d; omega) rfl rfl rfl (Nat.le_of_ble_eq_true rfl) (Nat.le_of_ble_eq_true rfl) (k_checkRange h2.1 h2.2) rfl ?_
      refine ms_iload_n dX10_light_12 rfl ?_
      refine ms_iconst (v := nI 0) dX10_light_13 (by decide) ?_
      refine ms_sipush (v := nI 1440) dX10_light_14 (by decide) ?_
      refine qRS3 dX10_light_17 kX10_64 (d := d - 1) (by show d - 1 + 1 ≤ d; omega) rfl rfl rfl (Nat.le_of_ble_eq_true rfl) (Nat.le_of_ble_eq_true rfl) (k_checkRange h3.1 h3.2) rfl ?_
      refine ms_iload dX10_light_20 rfl ?_
      refine ms_iload_n dX10_light_22 rfl ?_
      refine ms_sipush (v := nI 1440) dX10_light_23 (by decide) ?_
      exact qTS3 dX10_light_26 kX10_64 (d := d - 1) (by show d - 1 + 1 ≤ d; omega) rfl rfl rfl (Nat.le_of_ble_eq_true rfl) (Nat.le_of_ble_eq_true rfl) (k_checkRangeT (by omega) (fun q => h1 ⟨h2, h3, q⟩)) (by decide) (by decide) (Or.inl ⟨rfl, rfl, rfl⟩)
    · refine ms_iload_n dX10_light_0 rfl ?_
      refine qRS1 dX10_light_1 kX10_166 (d := d - 1) (by show d - 1 + 1 ≤ d; omega) rfl (Nat.le_of_ble_eq_true rfl) (Nat.le_of_ble_eq_true rfl) (k_checkDay (by omega) rfl ht) rfl ?_
      refine ms_iload_n dX10_light_4 rfl ?_
      refine ms_iconst (v := nI 0) dX10_light_5 (by decide) ?_
      refine ms_sipush (v := nI 1200) dX10_light_6 (by decide) ?_
      refine qRS3 dX10_light_9 kX10_64 (d := d - 1) (by show d - 1 + 1 ≤ d; omega) rfl rfl rfl (Nat.le_of_ble_eq_true rfl) (Nat.le_of_ble_eq_true rfl) (k_checkRange h2.1 h2.2) rfl ?_
      refine ms_iload_n dX10_light_12 rfl ?_
      refine ms_iconst (v := nI 0) dX10_light_13 (by decide) ?_
      refine ms_sipush (v := nI 1440) dX10_light_14 (by decide) ?_
      exact qTS3 dX10_light_17 kX10_64 (d := d - 1) (by show d - 1 + 1 ≤ d; omega) rfl rfl rfl (Nat.le_of_ble_eq_true rfl) (Nat.le_of_ble_eq_true rfl) (k_checkRangeT (by omega) h3) (by decide) (by decide) (Or.inl ⟨rfl, rfl, rfl⟩)
  · refine ms_iload_n dX10_light_0 rfl ?_
    refine qRS1 dX10_light_1 kX10_166 (d := d - 1) (by show d - 1 + 1 ≤ d; omega) rfl (Nat.le_of_ble_eq_true rfl) (Nat.le_of_ble_eq_true rfl) (k_checkDay (by omega) rfl ht) rfl ?_
    refine ms_iload_n dX10_light_4 rfl ?_
    refine ms_iconst (v := nI 0) dX10_light_5 (by decide) ?_
    refine ms_sipush (v := nI 1200) dX10_light_6 (by decide) ?_
    exact qTS3 dX10_light_9 kX10_64 (d := d - 1) (by show d - 1 + 1 ≤ d; omega) rfl rfl rfl (Nat.le_of_ble_eq_true rfl) (Nat.le_of_ble_eq_true rfl) (k_checkRangeT (by omega) h2) (by decide) (by decide) (Or.inl ⟨rfl, rfl, rfl⟩)
theorem k_pay {S : m_S} {I : m_I} {lg : Int64} {d pn p : Nat} {n : Nat → Nat} {w pl : Nat → Nat → Nat} (more : Bool) (hd : 7 ≤ d) (hD : ∀ t, t < 30 → DyC I t (n t) (w t) (pl t)) (hP : Pn I pn) (hp : p < pn) : m_R S M_X10_pay d [.ref 0, .int (nI p), .int (bi more)] (hh I lg) (some (.int (paC I n w pl pn p more 30).1)) (hh (pyJ I n w pl pn 30) lg) := by
  refine ms_aload_n dX10_pay_0 rfl ?_
  refine ms_iload_n dX10_pay_1 rfl ?_
  refine qRV1 dX10_pay_2 kX10_163 (by show _ < 178; first | decide | exact lt_sc (by omega) | exact lt_dy (by omega)) (by show (sh0 _).1 = _; first | rfl | rw [sh_sc (by omega)] | rw [sh_dy (by omega)]) (d := d - 1) (by show d - 1 + 1 ≤ d; omega) rfl (Nat.le_of_ble_eq_true rfl) (Nat.le_of_ble_eq_true rfl) (k_checkPerson (by omega) hP rfl hp) rfl ?_
  refine ms_aload_n dX10_pay_5 rfl ?_
  refine q_getr dX10_pay_6 fX10_53 kd_10_5 (by first | decide | exact lt_sc (by omega) | exact lt_dy (by omega) | exact lt_rw (by omega) | exact lt_wa (by omega) | exact lt_le (by omega)) (by first | rfl | rw [sh_sc (by omega)] | rw [sh_dy (by omega)]) (by first | rfl | exact rf_wa (by omega) | exact rf_le (by omega) | exact rf_rw (by omega)) ?_
  refine ms_iload_n dX10_pay_9 rfl ?_
  refine ms_iload_n dX10_pay_10 rfl ?_
  refine qRV2 dX10_pay_11 kX10_303 (by show _ < 178; first | decide | exact lt_sc (by omega) | exact lt_dy (by omega)) (by show (sh0 _).1 = _; first | rfl | rw [sh_sc (by omega)] | rw [sh_dy (by omega)]) (d := d - 1) (by show d - 1 + 1 ≤ d; omega) rfl rfl (Nat.le_of_ble_eq_true rfl) (Nat.le_of_ble_eq_true rfl) (k_payOf more (by omega) hD hP hp) rfl ?_
  refine ms_iret dX10_pay_14 rfl rfl ⟨?_, ?_⟩
  · rfl
  · rfl
theorem k_payT {S : m_S} {I : m_I} {lg : Int64} {d n : Nat} {x y : Int32} (hd : 8 ≤ d) (hP : Pn I n) (hx : ∀ j, j < n → x ≠ nI j) : m_T S M_X10_pay d [.ref 0, .int x, .int y] (hh I lg) "java/lang/IndexOutOfBoundsException" := by
  refine ms_aload_n dX10_pay_0 rfl ?_
  refine ms_iload_n dX10_pay_1 rfl ?_
  exact qTV1 dX10_pay_2 kX10_163 (by show _ < 178; first | decide | exact lt_sc (by omega) | exact lt_dy (by omega)) (by show (sh0 _).1 = _; first | rfl | rw [sh_sc (by omega)] | rw [sh_dy (by omega)]) (d := d - 1) (by show d - 1 + 1 ≤ d; omega) rfl (Nat.le_of_ble_eq_true rfl) (Nat.le_of_ble_eq_true rfl) (k_checkPersonT (by omega) hP hx) (by decide) (by decide) (Or.inl ⟨rfl, rfl, rfl⟩)
theorem k_cost {S : m_S} {I : m_I} {lg : Int64} {d pn : Nat} {n : Nat → Nat} {w pl : Nat → Nat → Nat} (hd : 8 ≤ d) (hD : ∀ t, t < 30 → DyC I t (n t) (w t) (pl t)) (hP : Pn I pn) : m_R S M_X10_cost d [.ref 0] (hh I lg) (some (.int (cdM I n pl (caM I n w pl pn pn) 30))) (hh (caJ I n w pl pn pn) lg) := by
  refine ms_aload_n dX10_cost_0 rfl ?_
  refine q_getr dX10_cost_1 fX10_53 kd_10_5 (by first | decide | exact lt_sc (by omega) | exact lt_dy (by omega) | exact lt_rw (by omega) | exact lt_wa (by omega) | exact lt_le (by omega)) (by first | rfl | rw [sh_sc (by omega)] | rw [sh_dy (by omega)]) (by first | rfl | exact rf_wa (by omega) | exact rf_le (by omega) | exact rf_rw (by omega)) ?_
  refine qRV0 dX10_cost_4 kX10_306 (by show _ < 178; first | decide | exact lt_sc (by omega) | exact lt_dy (by omega)) (by show (sh0 _).1 = _; first | rfl | rw [sh_sc (by omega)] | rw [sh_dy (by omega)]) (d := d - 1) (by show d - 1 + 1 ≤ d; omega)  (Nat.le_of_ble_eq_true rfl) (Nat.le_of_ble_eq_true rfl) (k_costOfAll (by omega) hD hP) rfl ?_
  refine ms_iret dX10_cost_7 rfl rfl ⟨?_, ?_⟩
  · rfl
  · rfl

