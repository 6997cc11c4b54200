-- NAME wraps
/-! the wrappers of the law: what is thrown becomes a number -/
theorem wl_13 : Cond.classLink "StripboardLaw" 13 "java/lang/IndexOutOfBoundsException" ∈ lw_tbl := List.mem_of_getElem? (i := 566) (by decide +kernel)
theorem wk_13 : Cond.castable "java/lang/IndexOutOfBoundsException" "java/lang/IndexOutOfBoundsException" ∈ lw_tbl := List.mem_of_getElem? (i := 582) (by decide +kernel)
theorem wl_15 : Cond.classLink "StripboardLaw" 15 "java/lang/IllegalArgumentException" ∈ lw_tbl := List.mem_of_getElem? (i := 567) (by decide +kernel)
theorem wk_15 : Cond.castable "java/lang/IllegalArgumentException" "java/lang/IllegalArgumentException" ∈ lw_tbl := List.mem_of_getElem? (i := 657) (by decide +kernel)
theorem wl_17 : Cond.classLink "StripboardLaw" 17 "java/lang/IllegalStateException" ∈ lw_tbl := List.mem_of_getElem? (i := 568) (by decide +kernel)
theorem wk_17 : Cond.castable "java/lang/IllegalStateException" "java/lang/IllegalStateException" ∈ lw_tbl := List.mem_of_getElem? (i := 693) (by decide +kernel)
theorem hd_scene_0 : m_Hd M_L_scene 11 "java/lang/IndexOutOfBoundsException" (nI 1) := ⟨[], [⟨0, 16, 23, 15⟩, ⟨0, 16, 27, 17⟩], ⟨0, 16, 19, 13⟩, "java/lang/IndexOutOfBoundsException", 7, 2, 1, rfl, (fun z hz => by cases hz), by decide, by decide, wl_13, wk_13, by decide, Or.inl ⟨dL_scene_19, rfl⟩, dL_scene_21, rfl, dL_scene_22, rfl⟩
theorem hd_scene_1 : m_Hd M_L_scene 11 "java/lang/IllegalArgumentException" (nI 2) := ⟨[⟨0, 16, 19, 13⟩], [⟨0, 16, 27, 17⟩], ⟨0, 16, 23, 15⟩, "java/lang/IllegalArgumentException", 7, 2, 2, rfl, (fun z hz => by simp only [List.mem_cons, List.not_mem_nil, or_false] at hz; subst hz; exact Or.inr ⟨by decide, _, wl_13, by decide⟩), by decide, by decide, wl_15, wk_15, by decide, Or.inl ⟨dL_scene_23, rfl⟩, dL_scene_25, rfl, dL_scene_26, rfl⟩
theorem hd_scene_2 : m_Hd M_L_scene 11 "java/lang/IllegalStateException" (nI 3) := ⟨[⟨0, 16, 19, 13⟩, ⟨0, 16, 23, 15⟩], [], ⟨0, 16, 27, 17⟩, "java/lang/IllegalStateException", 7, 2, 3, rfl, (fun z hz => by
    simp only [List.mem_cons, List.not_mem_nil, or_false] at hz
    rcases hz with rfl | rfl
    · exact Or.inr ⟨by decide, _, wl_13, by decide⟩
    · exact Or.inr ⟨by decide, _, wl_15, by decide⟩), by decide, by decide, wl_17, wk_17, by decide, Or.inl ⟨dL_scene_27, rfl⟩, dL_scene_29, rfl, dL_scene_30, rfl⟩
theorem w_scene {S : m_S} {I I1 : m_I} {lg : Int64} {d : Nat} {x1 x2 x3 x4 x5 : Int32} {r : Int32} (hd : 10 ≤ d) (hc : m_R S M_X10_scene (d - 1) [.ref 0, .int x1, .int x2, .int x3, .int x4, .int x5] (hh I lg) (some (.int r)) (hh I1 lg)) : m_RR S M_L_scene d [.ref 0, .int x1, .int x2, .int x3, .int x4, .int x5, .ref 177] (hh I lg) (some (.int (nI 0))) (hh I1 r.toInt64) 1 6 := by
  refine ms_aload dL_scene_0 rfl ?_
  refine ms_iconst (v := nI 0) dL_scene_2 (by decide) ?_
  refine ms_aload_n dL_scene_3 rfl ?_
  refine ms_iload_n dL_scene_4 rfl ?_
  refine ms_iload_n dL_scene_5 rfl ?_
  refine ms_iload_n dL_scene_6 rfl ?_
  refine ms_iload dL_scene_7 rfl ?_
  refine ms_iload dL_scene_9 rfl ?_
  refine qRV5 dL_scene_11 kL_7 (by show _ < 178; first | decide | exact lt_sc (by omega) | exact lt_dy (by omega)) (by show (sh0 _).1 = _; first | rfl | rw [sh_sc (by omega)] | rw [sh_dy (by omega)]) (d := d - 1) (by show d - 1 + 1 ≤ d; omega) rfl rfl rfl rfl rfl (Nat.le_of_ble_eq_true rfl) (Nat.le_of_ble_eq_true rfl) (hc) rfl ?_
  refine ms_i2l dL_scene_14 ?_
  refine q_last dL_scene_15 ?_
  refine ms_goto (tgt := 31) dL_scene_16 (by decide) ?_
  refine ms_iconst (v := nI 0) dL_scene_31 (by decide) ?_
  refine ms_iret dL_scene_32 rfl rfl ⟨?_, ?_⟩
  · rfl
  · rfl
theorem w_scene0 {S : m_S} {I : m_I} {lg : Int64} {d : Nat} {x1 x2 x3 x4 x5 : Int32} (hd : 10 ≤ d) (ht : m_T S M_X10_scene (d - 1) [.ref 0, .int x1, .int x2, .int x3, .int x4, .int x5] (hh I lg) "java/lang/IndexOutOfBoundsException") : m_RR S M_L_scene d [.ref 0, .int x1, .int x2, .int x3, .int x4, .int x5, .ref 177] (hh I lg) (some (.int (nI 1))) (hh I lg) 1 6 := by
  refine ms_aload dL_scene_0 rfl ?_
  refine ms_iconst (v := nI 0) dL_scene_2 (by decide) ?_
  refine ms_aload_n dL_scene_3 rfl ?_
  refine ms_iload_n dL_scene_4 rfl ?_
  refine ms_iload_n dL_scene_5 rfl ?_
  refine ms_iload_n dL_scene_6 rfl ?_
  refine ms_iload dL_scene_7 rfl ?_
  refine ms_iload dL_scene_9 rfl ?_
  exact qTV5 dL_scene_11 kL_7 (by show _ < 178; first | decide | exact lt_sc (by omega) | exact lt_dy (by omega)) (by show (sh0 _).1 = _; first | rfl | rw [sh_sc (by omega)] | rw [sh_dy (by omega)]) (d := d - 1) (by show d - 1 + 1 ≤ d; omega) rfl rfl rfl rfl rfl (Nat.le_of_ble_eq_true rfl) (Nat.le_of_ble_eq_true rfl) (ht) (by decide) (by decide) (Or.inr ⟨_, hd_scene_0, rfl, rfl⟩)
theorem w_scene1 {S : m_S} {I : m_I} {lg : Int64} {d : Nat} {x1 x2 x3 x4 x5 : Int32} (hd : 10 ≤ d) (ht : m_T S M_X10_scene (d - 1) [.ref 0, .int x1, .int x2, .int x3, .int x4, .int x5] (hh I lg) "java/lang/IllegalArgumentException") : m_RR S M_L_scene d [.ref 0, .int x1, .int x2, .int x3, .int x4, .int x5, .ref 177] (hh I lg) (some (.int (nI 2))) (hh I lg) 1 6 := by
  refine ms_aload dL_scene_0 rfl ?_
  refine ms_iconst (v := nI 0) dL_scene_2 (by decide) ?_
  refine ms_aload_n dL_scene_3 rfl ?_
  refine ms_iload_n dL_scene_4 rfl ?_
  refine ms_iload_n dL_scene_5 rfl ?_
  refine ms_iload_n dL_scene_6 rfl ?_
  refine ms_iload dL_scene_7 rfl ?_
  refine ms_iload dL_scene_9 rfl ?_
  exact qTV5 dL_scene_11 kL_7 (by show _ < 178; first | decide | exact lt_sc (by omega) | exact lt_dy (by omega)) (by show (sh0 _).1 = _; first | rfl | rw [sh_sc (by omega)] | rw [sh_dy (by omega)]) (d := d - 1) (by show d - 1 + 1 ≤ d; omega) rfl rfl rfl rfl rfl (Nat.le_of_ble_eq_true rfl) (Nat.le_of_ble_eq_true rfl) (ht) (by decide) (by decide) (Or.inr ⟨_, hd_scene_1, rfl, rfl⟩)
theorem w_scene2 {S : m_S} {I : m_I} {lg : Int64} {d : Nat} {x1 x2 x3 x4 x5 : Int32} (hd : 10 ≤ d) (ht : m_T S M_X10_scene (d - 1) [.ref 0, .int x1, .int x2, .int x3, .int x4, .int x5] (hh I lg) "java/lang/IllegalStateException") : m_RR S M_L_scene d [.ref 0, .int x1, .int x2, .int x3, .int x4, .int x5, .ref 177] (hh I lg) (some (.int (nI 3))) (hh I lg) 1 6 := by
  refine ms_aload dL_scene_0 rfl ?_
  refine ms_iconst (v := nI 0) dL_scene_2 (by decide) ?_
  refine ms_aload_n dL_scene_3 rfl ?_
  refine ms_iload_n dL_scene_4 rfl ?_
  refine ms_iload_n dL_scene_5 rfl ?_
  refine ms_iload_n dL_scene_6 rfl ?_
  refine ms_iload dL_scene_7 rfl ?_
  refine ms_iload dL_scene_9 rfl ?_
  exact qTV5 dL_scene_11 kL_7 (by show _ < 178; first | decide | exact lt_sc (by omega) | exact lt_dy (by omega)) (by show (sh0 _).1 = _; first | rfl | rw [sh_sc (by omega)] | rw [sh_dy (by omega)]) (d := d - 1) (by show d - 1 + 1 ≤ d; omega) rfl rfl rfl rfl rfl (Nat.le_of_ble_eq_true rfl) (Nat.le_of_ble_eq_true rfl) (ht) (by decide) (by decide) (Or.inr ⟨_, hd_scene_2, rfl, rfl⟩)
theorem L_scene {S : m_S} {c : Nat} {I : m_I} {x1 x2 x3 x4 x5 : Int32} (lg : Int64) (hO : Okc S c I M_X10_scene M_X11_scene [.ref 0, .int x1, .int x2, .int x3, .int x4, .int x5] [.ref 143, .int x1, .int x2, .int x3, .int x4, .int x5] [xI, xA, xS]) : Lok S c I lg M_L_scene M_X11_scene [.ref 0, .int x1, .int x2, .int x3, .int x4, .int x5] [.ref 143, .int x1, .int x2, .int x3, .int x4, .int x5] Int32.toInt64 := by
  refine Lok_of lg Int32.toInt64 hO (fun I1 r d hd h => w_scene hd h) (fun k E d hd hE h => ?_) (by decide) (Or.inl rfl)
  match k, hE with
  | 0, hE => cases hE; exact w_scene0 hd h
  | 1, hE => cases hE; exact w_scene1 hd h
  | 2, hE => cases hE; exact w_scene2 hd h
  | k + 3, hE => cases hE
theorem hd_lock_0 : m_Hd M_L_lock 3 "java/lang/IllegalStateException" (nI 1) := ⟨[], [], ⟨0, 8, 11, 17⟩, "java/lang/IllegalStateException", 2, 1, 1, rfl, (fun z hz => by cases hz), by decide, by decide, wl_17, wk_17, by decide, Or.inr ⟨⟨2, by decide⟩, dL_lock_11, rfl, rfl⟩, dL_lock_12, rfl, dL_lock_13, rfl⟩
theorem w_lock {S : m_S} {I I1 : m_I} {lg : Int64} {d : Nat} {r : Int32} (hd : 10 ≤ d) (hc : m_R S M_X10_lock (d - 1) [.ref 0] (hh I lg) (some (.int r)) (hh I1 lg)) : m_RR S M_L_lock d [.ref 0, .ref 177] (hh I lg) (some (.int (nI 0))) (hh I1 r.toInt64) 1 6 := by
  refine ms_aload_n dL_lock_0 rfl ?_
  refine ms_iconst (v := nI 0) dL_lock_1 (by decide) ?_
  refine ms_aload_n dL_lock_2 rfl ?_
  refine qRV0 dL_lock_3 kL_19 (by show _ < 178; first | decide | exact lt_sc (by omega) | exact lt_dy (by omega)) (by show (sh0 _).1 = _; first | rfl | rw [sh_sc (by omega)] | rw [sh_dy (by omega)]) (d := d - 1) (by show d - 1 + 1 ≤ d; omega)  (Nat.le_of_ble_eq_true rfl) (Nat.le_of_ble_eq_true rfl) (hc) rfl ?_
  refine ms_i2l dL_lock_6 ?_
  refine q_last dL_lock_7 ?_
  refine ms_goto (tgt := 14) dL_lock_8 (by decide) ?_
  refine ms_iconst (v := nI 0) dL_lock_14 (by decide) ?_
  refine ms_iret dL_lock_15 rfl rfl ⟨?_, ?_⟩
  · rfl
  · rfl
theorem w_lock0 {S : m_S} {I : m_I} {lg : Int64} {d : Nat} (hd : 10 ≤ d) (ht : m_T S M_X10_lock (d - 1) [.ref 0] (hh I lg) "java/lang/IllegalStateException") : m_RR S M_L_lock d [.ref 0, .ref 177] (hh I lg) (some (.int (nI 1))) (hh I lg) 1 6 := by
  refine ms_aload_n dL_lock_0 rfl ?_
  refine ms_iconst (v := nI 0) dL_lock_1 (by decide) ?_
  refine ms_aload_n dL_lock_2 rfl ?_
  exact qTV0 dL_lock_3 kL_19 (by show _ < 178; first | decide | exact lt_sc (by omega) | exact lt_dy (by omega)) (by show (sh0 _).1 = _; first | rfl | rw [sh_sc (by omega)] | rw [sh_dy (by omega)]) (d := d - 1) (by show d - 1 + 1 ≤ d; omega)  (Nat.le_of_ble_eq_true rfl) (Nat.le_of_ble_eq_true rfl) (ht) (by decide) (by decide) (Or.inr ⟨_, hd_lock_0, rfl, rfl⟩)
theorem L_lock {S : m_S} {c : Nat} {I : m_I} (lg : Int64) (hO : Okc S c I M_X10_lock M_X11_lock [.ref 0] [.ref 143] [xS]) : Lok S c I lg M_L_lock M_X11_lock [.ref 0] [.ref 143] Int32.toInt64 := by
  refine Lok_of lg Int32.toInt64 hO (fun I1 r d hd h => w_lock hd h) (fun k E d hd hE h => ?_) (by decide) (Or.inl rfl)
  match k, hE with
  | 0, hE => cases hE; exact w_lock0 hd h
  | k + 1, hE => cases hE
theorem hd_omit_0 : m_Hd M_L_omit 4 "java/lang/IndexOutOfBoundsException" (nI 1) := ⟨[], [⟨0, 9, 15, 17⟩], ⟨0, 9, 12, 13⟩, "java/lang/IndexOutOfBoundsException", 3, 1, 1, rfl, (fun z hz => by cases hz), by decide, by decide, wl_13, wk_13, by decide, Or.inr ⟨⟨3, by decide⟩, dL_omit_12, rfl, rfl⟩, dL_omit_13, rfl, dL_omit_14, rfl⟩
theorem hd_omit_1 : m_Hd M_L_omit 4 "java/lang/IllegalStateException" (nI 2) := ⟨[⟨0, 9, 12, 13⟩], [], ⟨0, 9, 15, 17⟩, "java/lang/IllegalStateException", 3, 1, 2, rfl, (fun z hz => by simp only [List.mem_cons, List.not_mem_nil, or_false] at hz; subst hz; exact Or.inr ⟨by decide, _, wl_13, by decide⟩), by decide, by decide, wl_17, wk_17, by decide, Or.inr ⟨⟨3, by decide⟩, dL_omit_15, rfl, rfl⟩, dL_omit_16, rfl, dL_omit_17, rfl⟩
theorem w_omit {S : m_S} {I I1 : m_I} {lg : Int64} {d : Nat} {x1 : Int32} {r : Int32} (hd : 10 ≤ d) (hc : m_R S M_X10_omit (d - 1) [.ref 0, .int x1] (hh I lg) (some (.int r)) (hh I1 lg)) : m_RR S M_L_omit d [.ref 0, .int x1, .ref 177] (hh I lg) (some (.int (nI 0))) (hh I1 r.toInt64) 1 6 := by
  refine ms_aload_n dL_omit_0 rfl ?_
  refine ms_iconst (v := nI 0) dL_omit_1 (by decide) ?_
  refine ms_aload_n dL_omit_2 rfl ?_
  refine ms_iload_n dL_omit_3 rfl ?_
  refine qRV1 dL_omit_4 kL_23 (by show _ < 178; first | decide | exact lt_sc (by omega) | exact lt_dy (by omega)) (by show (sh0 _).1 = _; first | rfl | rw [sh_sc (by omega)] | rw [sh_dy (by omega)]) (d := d - 1) (by show d - 1 + 1 ≤ d; omega) rfl (Nat.le_of_ble_eq_true rfl) (Nat.le_of_ble_eq_true rfl) (hc) rfl ?_
  refine ms_i2l dL_omit_7 ?_
  refine q_last dL_omit_8 ?_
  refine ms_goto (tgt := 18) dL_omit_9 (by decide) ?_
  refine ms_iconst (v := nI 0) dL_omit_18 (by decide) ?_
  refine ms_iret dL_omit_19 rfl rfl ⟨?_, ?_⟩
  · rfl
  · rfl
theorem w_omit0 {S : m_S} {I : m_I} {lg : Int64} {d : Nat} {x1 : Int32} (hd : 10 ≤ d) (ht : m_T S M_X10_omit (d - 1) [.ref 0, .int x1] (hh I lg) "java/lang/IndexOutOfBoundsException") : m_RR S M_L_omit d [.ref 0, .int x1, .ref 177] (hh I lg) (some (.int (nI 1))) (hh I lg) 1 6 := by
  refine ms_aload_n dL_omit_0 rfl ?_
  refine ms_iconst (v := nI 0) dL_omit_1 (by decide) ?_
  refine ms_aload_n dL_omit_2 rfl ?_
  refine ms_iload_n dL_omit_3 rfl ?_
  exact qTV1 dL_omit_4 kL_23 (by show _ < 178; first | decide | exact lt_sc (by omega) | exact lt_dy (by omega)) (by show (sh0 _).1 = _; first | rfl | rw [sh_sc (by omega)] | rw [sh_dy (by omega)]) (d := d - 1) (by show d - 1 + 1 ≤ d; omega) rfl (Nat.le_of_ble_eq_true rfl) (Nat.le_of_ble_eq_true rfl) (ht) (by decide) (by decide) (Or.inr ⟨_, hd_omit_0, rfl, rfl⟩)
theorem w_omit1 {S : m_S} {I : m_I} {lg : Int64} {d : Nat} {x1 : Int32} (hd : 10 ≤ d) (ht : m_T S M_X10_omit (d - 1) [.ref 0, .int x1] (hh I lg) "java/lang/IllegalStateException") : m_RR S M_L_omit d [.ref 0, .int x1, .ref 177] (hh I lg) (some (.int (nI 2))) (hh I lg) 1 6 := by
  refine ms_aload_n dL_omit_0 rfl ?_
  refine ms_iconst (v := nI 0) dL_omit_1 (by decide) ?_
  refine ms_aload_n dL_omit_2 rfl ?_
  refine ms_iload_n dL_omit_3 rfl ?_
  exact qTV1 dL_omit_4 kL_23 (by show _ < 178; first | decide | exact lt_sc (by omega) | exact lt_dy (by omega)) (by show (sh0 _).1 = _; first | rfl | rw [sh_sc (by omega)] | rw [sh_dy (by omega)]) (d := d - 1) (by show d - 1 + 1 ≤ d; omega) rfl (Nat.le_of_ble_eq_true rfl) (Nat.le_of_ble_eq_true rfl) (ht) (by decide) (by decide) (Or.inr ⟨_, hd_omit_1, rfl, rfl⟩)
theorem L_omit {S : m_S} {c : Nat} {I : m_I} {x1 : Int32} (lg : Int64) (hO : Okc S c I M_X10_omit M_X11_omit [.ref 0, .int x1] [.ref 143, .int x1] [xI, xS]) : Lok S c I lg M_L_omit M_X11_omit [.ref 0, .int x1] [.ref 143, .int x1] Int32.toInt64 := by
  refine Lok_of lg Int32.toInt64 hO (fun I1 r d hd h => w_omit hd h) (fun k E d hd hE h => ?_) (by decide) (Or.inl rfl)
  match k, hE with
  | 0, hE => cases hE; exact w_omit0 hd h
  | 1, hE => cases hE; exact w_omit1 hd h
  | k + 2, hE => cases hE
theorem hd_label_0 : m_Hd M_L_label 4 "java/lang/IndexOutOfBoundsException" (nI 1) := ⟨[], [], ⟨0, 9, 12, 13⟩, "java/lang/IndexOutOfBoundsException", 3, 1, 1, rfl, (fun z hz => by cases hz), by decide, by decide, wl_13, wk_13, by decide, Or.inr ⟨⟨3, by decide⟩, dL_label_12, rfl, rfl⟩, dL_label_13, rfl, dL_label_14, rfl⟩
theorem w_label {S : m_S} {I I1 : m_I} {lg : Int64} {d : Nat} {x1 : Int32} {r : Int32} (hd : 10 ≤ d) (hc : m_R S M_X10_label (d - 1) [.ref 0, .int x1] (hh I lg) (some (.int r)) (hh I1 lg)) : m_RR S M_L_label d [.ref 0, .int x1, .ref 177] (hh I lg) (some (.int (nI 0))) (hh I1 r.toInt64) 1 6 := by
  refine ms_aload_n dL_label_0 rfl ?_
  refine ms_iconst (v := nI 0) dL_label_1 (by decide) ?_
  refine ms_aload_n dL_label_2 rfl ?_
  refine ms_iload_n dL_label_3 rfl ?_
  refine qRV1 dL_label_4 kL_27 (by show _ < 178; first | decide | exact lt_sc (by omega) | exact lt_dy (by omega)) (by show (sh0 _).1 = _; first | rfl | rw [sh_sc (by omega)] | rw [sh_dy (by omega)]) (d := d - 1) (by show d - 1 + 1 ≤ d; omega) rfl (Nat.le_of_ble_eq_true rfl) (Nat.le_of_ble_eq_true rfl) (hc) rfl ?_
  refine ms_i2l dL_label_7 ?_
  refine q_last dL_label_8 ?_
  refine ms_goto (tgt := 15) dL_label_9 (by decide) ?_
  refine ms_iconst (v := nI 0) dL_label_15 (by decide) ?_
  refine ms_iret dL_label_16 rfl rfl ⟨?_, ?_⟩
  · rfl
  · rfl
theorem w_label0 {S : m_S} {I : m_I} {lg : Int64} {d : Nat} {x1 : Int32} (hd : 10 ≤ d) (ht : m_T S M_X10_label (d - 1) [.ref 0, .int x1] (hh I lg) "java/lang/IndexOutOfBoundsException") : m_RR S M_L_label d [.ref 0, .int x1, .ref 177] (hh I lg) (some (.int (nI 1))) (hh I lg) 1 6 := by
  refine ms_aload_n dL_label_0 rfl ?_
  refine ms_iconst (v := nI 0) dL_label_1 (by decide) ?_
  refine ms_aload_n dL_label_2 rfl ?_
  refine ms_iload_n dL_label_3 rfl ?_
  exact qTV1 dL_label_4 kL_27 (by show _ < 178; first | decide | exact lt_sc (by omega) | exact lt_dy (by omega)) (by show (sh0 _).1 = _; first | rfl | rw [sh_sc (by omega)] | rw [sh_dy (by omega)]) (d := d - 1) (by show d - 1 + 1 ≤ d; omega) rfl (Nat.le_of_ble_eq_true rfl) (Nat.le_of_ble_eq_true rfl) (ht) (by decide) (by decide) (Or.inr ⟨_, hd_label_0, rfl, rfl⟩)
theorem L_label {S : m_S} {c : Nat} {I : m_I} {x1 : Int32} (lg : Int64) (hO : Okc S c I M_X10_label M_X11_label [.ref 0, .int x1] [.ref 143, .int x1] [xI]) : Lok S c I lg M_L_label M_X11_label [.ref 0, .int x1] [.ref 143, .int x1] Int32.toInt64 := by
  refine Lok_of lg Int32.toInt64 hO (fun I1 r d hd h => w_label hd h) (fun k E d hd hE h => ?_) (by decide) (Or.inl rfl)
  match k, hE with
  | 0, hE => cases hE; exact w_label0 hd h
  | k + 1, hE => cases hE
theorem hd_needs_0 : m_Hd M_L_needs 5 "java/lang/IndexOutOfBoundsException" (nI 1) := ⟨[], [⟨0, 10, 17, 15⟩], ⟨0, 10, 13, 13⟩, "java/lang/IndexOutOfBoundsException", 4, 2, 1, rfl, (fun z hz => by cases hz), by decide, by decide, wl_13, wk_13, by decide, Or.inl ⟨dL_needs_13, rfl⟩, dL_needs_15, rfl, dL_needs_16, rfl⟩
theorem hd_needs_1 : m_Hd M_L_needs 5 "java/lang/IllegalArgumentException" (nI 2) := ⟨[⟨0, 10, 13, 13⟩], [], ⟨0, 10, 17, 15⟩, "java/lang/IllegalArgumentException", 4, 2, 2, rfl, (fun z hz => by simp only [List.mem_cons, List.not_mem_nil, or_false] at hz; subst hz; exact Or.inr ⟨by decide, _, wl_13, by decide⟩), by decide, by decide, wl_15, wk_15, by decide, Or.inl ⟨dL_needs_17, rfl⟩, dL_needs_19, rfl, dL_needs_20, rfl⟩
theorem w_needs {S : m_S} {I I1 : m_I} {lg : Int64} {d : Nat} {x1 x2 : Int32} {r : Int32} (hd : 10 ≤ d) (hc : m_R S M_X10_needs (d - 1) [.ref 0, .int x1, .int x2] (hh I lg) (some (.int r)) (hh I1 lg)) : m_RR S M_L_needs d [.ref 0, .int x1, .int x2, .ref 177] (hh I lg) (some (.int (nI 0))) (hh I1 r.toInt64) 1 6 := by
  refine ms_aload_n dL_needs_0 rfl ?_
  refine ms_iconst (v := nI 0) dL_needs_1 (by decide) ?_
  refine ms_aload_n dL_needs_2 rfl ?_
  refine ms_iload_n dL_needs_3 rfl ?_
  refine ms_iload_n dL_needs_4 rfl ?_
  refine qRV2 dL_needs_5 kL_30 (by show _ < 178; first | decide | exact lt_sc (by omega) | exact lt_dy (by omega)) (by show (sh0 _).1 = _; first | rfl | rw [sh_sc (by omega)] | rw [sh_dy (by omega)]) (d := d - 1) (by show d - 1 + 1 ≤ d; omega) rfl rfl (Nat.le_of_ble_eq_true rfl) (Nat.le_of_ble_eq_true rfl) (hc) rfl ?_
  refine ms_i2l dL_needs_8 ?_
  refine q_last dL_needs_9 ?_
  refine ms_goto (tgt := 21) dL_needs_10 (by decide) ?_
  refine ms_iconst (v := nI 0) dL_needs_21 (by decide) ?_
  refine ms_iret dL_needs_22 rfl rfl ⟨?_, ?_⟩
  · rfl
  · rfl
theorem w_needs0 {S : m_S} {I : m_I} {lg : Int64} {d : Nat} {x1 x2 : Int32} (hd : 10 ≤ d) (ht : m_T S M_X10_needs (d - 1) [.ref 0, .int x1, .int x2] (hh I lg) "java/lang/IndexOutOfBoundsException") : m_RR S M_L_needs d [.ref 0, .int x1, .int x2, .ref 177] (hh I lg) (some (.int (nI 1))) (hh I lg) 1 6 := by
  refine ms_aload_n dL_needs_0 rfl ?_
  refine ms_iconst (v := nI 0) dL_needs_1 (by decide) ?_
  refine ms_aload_n dL_needs_2 rfl ?_
  refine ms_iload_n dL_needs_3 rfl ?_
  refine ms_iload_n dL_needs_4 rfl ?_
  exact qTV2 dL_needs_5 kL_30 (by show _ < 178; first | decide | exact lt_sc (by omega) | exact lt_dy (by omega)) (by show (sh0 _).1 = _; first | rfl | rw [sh_sc (by omega)] | rw [sh_dy (by omega)]) (d := d - 1) (by show d - 1 + 1 ≤ d; omega) rfl rfl (Nat.le_of_ble_eq_true rfl) (Nat.le_of_ble_eq_true rfl) (ht) (by decide) (by decide) (Or.inr ⟨_, hd_needs_0, rfl, rfl⟩)
theorem w_needs1 {S : m_S} {I : m_I} {lg : Int64} {d : Nat} {x1 x2 : Int32} (hd : 10 ≤ d) (ht : m_T S M_X10_needs (d - 1) [.ref 0, .int x1, .int x2] (hh I lg) "java/lang/IllegalArgumentException") : m_RR S M_L_needs d [.ref 0, .int x1, .int x2, .ref 177] (hh I lg) (some (.int (nI 2))) (hh I lg) 1 6 := by
  refine ms_aload_n dL_needs_0 rfl ?_
  refine ms_iconst (v := nI 0) dL_needs_1 (by decide) ?_
  refine ms_aload_n dL_needs_2 rfl ?_
  refine ms_iload_n dL_needs_3 rfl ?_
  refine ms_iload_n dL_needs_4 rfl ?_
  exact qTV2 dL_needs_5 kL_30 (by show _ < 178; first | decide | exact lt_sc (by omega) | exact lt_dy (by omega)) (by show (sh0 _).1 = _; first | rfl | rw [sh_sc (by omega)] | rw [sh_dy (by omega)]) (d := d - 1) (by show d - 1 + 1 ≤ d; omega) rfl rfl (Nat.le_of_ble_eq_true rfl) (Nat.le_of_ble_eq_true rfl) (ht) (by decide) (by decide) (Or.inr ⟨_, hd_needs_1, rfl, rfl⟩)
theorem L_needs {S : m_S} {c : Nat} {I : m_I} {x1 x2 : Int32} (lg : Int64) (hO : Okc S c I M_X10_needs M_X11_needs [.ref 0, .int x1, .int x2] [.ref 143, .int x1, .int x2] [xI, xA]) : Lok S c I lg M_L_needs M_X11_needs [.ref 0, .int x1, .int x2] [.ref 143, .int x1, .int x2] Int32.toInt64 := by
  refine Lok_of lg Int32.toInt64 hO (fun I1 r d hd h => w_needs hd h) (fun k E d hd hE h => ?_) (by decide) (Or.inl rfl)
  match k, hE with
  | 0, hE => cases hE; exact w_needs0 hd h
  | 1, hE => cases hE; exact w_needs1 hd h
  | k + 2, hE => cases hE
theorem hd_look_0 : m_Hd M_L_look 9 "java/lang/IndexOutOfBoundsException" (nI 1) := ⟨[], [⟨0, 14, 21, 15⟩], ⟨0, 14, 17, 13⟩, "java/lang/IndexOutOfBoundsException", 6, 2, 1, rfl, (fun z hz => by cases hz), by decide, by decide, wl_13, wk_13, by decide, Or.inl ⟨dL_look_17, rfl⟩, dL_look_19, rfl, dL_look_20, rfl⟩
theorem hd_look_1 : m_Hd M_L_look 9 "java/lang/IllegalArgumentException" (nI 2) := ⟨[⟨0, 14, 17, 13⟩], [], ⟨0, 14, 21, 15⟩, "java/lang/IllegalArgumentException", 6, 2, 2, rfl, (fun z hz => by simp only [List.mem_cons, List.not_mem_nil, or_false] at hz; subst hz; exact Or.inr ⟨by decide, _, wl_13, by decide⟩), by decide, by decide, wl_15, wk_15, by decide, Or.inl ⟨dL_look_21, rfl⟩, dL_look_23, rfl, dL_look_24, rfl⟩
theorem w_look {S : m_S} {I I1 : m_I} {lg : Int64} {d : Nat} {x1 x2 x3 x4 : Int32} {r : Int32} (hd : 10 ≤ d) (hc : m_R S M_X10_look (d - 1) [.ref 0, .int x1, .int x2, .int x3, .int x4] (hh I lg) (some (.int r)) (hh I1 lg)) : m_RR S M_L_look d [.ref 0, .int x1, .int x2, .int x3, .int x4, .ref 177] (hh I lg) (some (.int (nI 0))) (hh I1 r.toInt64) 1 6 := by
  refine ms_aload dL_look_0 rfl ?_
  refine ms_iconst (v := nI 0) dL_look_2 (by decide) ?_
  refine ms_aload_n dL_look_3 rfl ?_
  refine ms_iload_n dL_look_4 rfl ?_
  refine ms_iload_n dL_look_5 rfl ?_
  refine ms_iload_n dL_look_6 rfl ?_
  refine ms_iload dL_look_7 rfl ?_
  refine qRV4 dL_look_9 kL_34 (by show _ < 178; first | decide | exact lt_sc (by omega) | exact lt_dy (by omega)) (by show (sh0 _).1 = _; first | rfl | rw [sh_sc (by omega)] | rw [sh_dy (by omega)]) (d := d - 1) (by show d - 1 + 1 ≤ d; omega) rfl rfl rfl rfl (Nat.le_of_ble_eq_true rfl) (Nat.le_of_ble_eq_true rfl) (hc) rfl ?_
  refine ms_i2l dL_look_12 ?_
  refine q_last dL_look_13 ?_
  refine ms_goto (tgt := 25) dL_look_14 (by decide) ?_
  refine ms_iconst (v := nI 0) dL_look_25 (by decide) ?_
  refine ms_iret dL_look_26 rfl rfl ⟨?_, ?_⟩
  · rfl
  · rfl
theorem w_look0 {S : m_S} {I : m_I} {lg : Int64} {d : Nat} {x1 x2 x3 x4 : Int32} (hd : 10 ≤ d) (ht : m_T S M_X10_look (d - 1) [.ref 0, .int x1, .int x2, .int x3, .int x4] (hh I lg) "java/lang/IndexOutOfBoundsException") : m_RR S M_L_look d [.ref 0, .int x1, .int x2, .int x3, .int x4, .ref 177] (hh I lg) (some (.int (nI 1))) (hh I lg) 1 6 := by
  refine ms_aload dL_look_0 rfl ?_
  refine ms_iconst (v := nI 0) dL_look_2 (by decide) ?_
  refine ms_aload_n dL_look_3 rfl ?_
  refine ms_iload_n dL_look_4 rfl ?_
  refine ms_iload_n dL_look_5 rfl ?_
  refine ms_iload_n dL_look_6 rfl ?_
  refine ms_iload dL_look_7 rfl ?_
  exact qTV4 dL_look_9 kL_34 (by show _ < 178; first | decide | exact lt_sc (by omega) | exact lt_dy (by omega)) (by show (sh0 _).1 = _; first | rfl | rw [sh_sc (by omega)] | rw [sh_dy (by omega)]) (d := d - 1) (by show d - 1 + 1 ≤ d; omega) rfl rfl rfl rfl (Nat.le_of_ble_eq_true rfl) (Nat.le_of_ble_eq_true rfl) (ht) (by decide) (by decide) (Or.inr ⟨_, hd_look_0, rfl, rfl⟩)
theorem w_look1 {S : m_S} {I : m_I} {lg : Int64} {d : Nat} {x1 x2 x3 x4 : Int32} (hd : 10 ≤ d) (ht : m_T S M_X10_look (d - 1) [.ref 0, .int x1, .int x2, .int x3, .int x4] (hh I lg) "java/lang/IllegalArgumentException") : m_RR S M_L_look d [.ref 0, .int x1, .int x2, .int x3, .int x4, .ref 177] (hh I lg) (some (.int (nI 2))) (hh I lg) 1 6 := by
  refine ms_aload dL_look_0 rfl ?_
  refine ms_iconst (v := nI 0) dL_look_2 (by decide) ?_
  refine ms_aload_n dL_look_3 rfl ?_
  refine ms_iload_n dL_look_4 rfl ?_
  refine ms_iload_n dL_look_5 rfl ?_
  refine ms_iload_n dL_look_6 rfl ?_
  refine ms_iload dL_look_7 rfl ?_
  exact qTV4 dL_look_9 kL_34 (by show _ < 178; first | decide | exact lt_sc (by omega) | exact lt_dy (by omega)) (by show (sh0 _).1 = _; first | rfl | rw [sh_sc (by omega)] | rw [sh_dy (by omega)]) (d := d - 1) (by show d - 1 + 1 ≤ d; omega) rfl rfl rfl rfl (Nat.le_of_ble_eq_true rfl) (Nat.le_of_ble_eq_true rfl) (ht) (by decide) (by decide) (Or.inr ⟨_, hd_look_1, rfl, rfl⟩)
theorem L_look {S : m_S} {c : Nat} {I : m_I} {x1 x2 x3 x4 : Int32} (lg : Int64) (hO : Okc S c I M_X10_look M_X11_look [.ref 0, .int x1, .int x2, .int x3, .int x4] [.ref 143, .int x1, .int x2, .int x3, .int x4] [xI, xA]) : Lok S c I lg M_L_look M_X11_look [.ref 0, .int x1, .int x2, .int x3, .int x4] [.ref 143, .int x1, .int x2, .int x3, .int x4] Int32.toInt64 := by
  refine Lok_of lg Int32.toInt64 hO (fun I1 r d hd h => w_look hd h) (fun k E d hd hE h => ?_) (by decide) (Or.inl rfl)
  match k, hE with
  | 0, hE => cases hE; exact w_look0 hd h
  | 1, hE => cases hE; exact w_look1 hd h
  | k + 2, hE => cases hE
theorem hd_clashes_0 : m_Hd M_L_clashes 4 "java/lang/IndexOutOfBoundsException" (nI 1) := ⟨[], [], ⟨0, 16, 19, 13⟩, "java/lang/IndexOutOfBoundsException", 3, 1, 1, rfl, (fun z hz => by cases hz), by decide, by decide, wl_13, wk_13, by decide, Or.inr ⟨⟨3, by decide⟩, dL_clashes_19, rfl, rfl⟩, dL_clashes_20, rfl, dL_clashes_21, rfl⟩
theorem w_clashes {S : m_S} {I I1 : m_I} {lg : Int64} {d : Nat} {x1 : Int32} {r : Int32} (hd : 10 ≤ d) (hc : m_R S M_X10_clashes (d - 1) [.ref 0, .int x1] (hh I lg) (some (.int r)) (hh I1 lg)) : m_RR S M_L_clashes d [.ref 0, .int x1, .ref 177] (hh I lg) (some (.int (nI 0))) (hh I1 (if r = 0 then 0 else 1)) 1 6 := by
  refine ms_aload_n dL_clashes_0 rfl ?_
  refine ms_iconst (v := nI 0) dL_clashes_1 (by decide) ?_
  refine ms_aload_n dL_clashes_2 rfl ?_
  refine ms_iload_n dL_clashes_3 rfl ?_
  refine qRV1 dL_clashes_4 kL_38 (by show _ < 178; first | decide | exact lt_sc (by omega) | exact lt_dy (by omega)) (by show (sh0 _).1 = _; first | rfl | rw [sh_sc (by omega)] | rw [sh_dy (by omega)]) (d := d - 1) (by show d - 1 + 1 ≤ d; omega) rfl (Nat.le_of_ble_eq_true rfl) (Nat.le_of_ble_eq_true rfl) (hc) rfl ?_
  refine ms_if_eq (tgt := 14) dL_clashes_7 (by decide) (fun c7 => ?_) (fun c7 => ?_)
  · rw [if_pos c7]
    refine ms_lconst (v := 0) dL_clashes_14 (by decide) ?_
    refine q_last dL_clashes_15 ?_
    refine ms_goto (tgt := 22) dL_clashes_16 (by decide) ?_
    refine ms_iconst (v := nI 0) dL_clashes_22 (by decide) ?_
    refine ms_iret dL_clashes_23 rfl rfl ⟨?_, ?_⟩
    · rfl
    · rfl
  · rw [if_neg c7]
    refine ms_lconst (v := 1) dL_clashes_10 (by decide) ?_
    refine ms_goto (tgt := 15) dL_clashes_11 (by decide) ?_
    refine q_last dL_clashes_15 ?_
    refine ms_goto (tgt := 22) dL_clashes_16 (by decide) ?_
    refine ms_iconst (v := nI 0) dL_clashes_22 (by decide) ?_
    refine ms_iret dL_clashes_23 rfl rfl ⟨?_, ?_⟩
    · rfl
    · rfl
theorem w_clashes0 {S : m_S} {I : m_I} {lg : Int64} {d : Nat} {x1 : Int32} (hd : 10 ≤ d) (ht : m_T S M_X10_clashes (d - 1) [.ref 0, .int x1] (hh I lg) "java/lang/IndexOutOfBoundsException") : m_RR S M_L_clashes d [.ref 0, .int x1, .ref 177] (hh I lg) (some (.int (nI 1))) (hh I lg) 1 6 := by
  refine ms_aload_n dL_clashes_0 rfl ?_
  refine ms_iconst (v := nI 0) dL_clashes_1 (by decide) ?_
  refine ms_aload_n dL_clashes_2 rfl ?_
  refine ms_iload_n dL_clashes_3 rfl ?_
  exact qTV1 dL_clashes_4 kL_38 (by show _ < 178; first | decide | exact lt_sc (by omega) | exact lt_dy (by omega)) (by show (sh0 _).1 = _; first | rfl | rw [sh_sc (by omega)] | rw [sh_dy (by omega)]) (d := d - 1) (by show d - 1 + 1 ≤ d; omega) rfl (Nat.le_of_ble_eq_true rfl) (Nat.le_of_ble_eq_true rfl) (ht) (by decide) (by decide) (Or.inr ⟨_, hd_clashes_0, rfl, rfl⟩)
theorem L_clashes {S : m_S} {c : Nat} {I : m_I} {x1 : Int32} (lg : Int64) (hO : Okc S c I M_X10_clashes M_X11_clashes [.ref 0, .int x1] [.ref 143, .int x1] [xI]) : Lok S c I lg M_L_clashes M_X11_clashes [.ref 0, .int x1] [.ref 143, .int x1] (fun r => if r = 0 then 0 else 1) := by
  refine Lok_of lg (fun r => if r = 0 then 0 else 1) hO (fun I1 r d hd h => w_clashes hd h) (fun k E d hd hE h => ?_) (by decide) (Or.inr rfl)
  match k, hE with
  | 0, hE => cases hE; exact w_clashes0 hd h
  | k + 1, hE => cases hE
theorem hd_bind_0 : m_Hd M_L_bind 5 "java/lang/IndexOutOfBoundsException" (nI 1) := ⟨[], [⟨0, 10, 17, 17⟩], ⟨0, 10, 13, 13⟩, "java/lang/IndexOutOfBoundsException", 4, 2, 1, rfl, (fun z hz => by cases hz), by decide, by decide, wl_13, wk_13, by decide, Or.inl ⟨dL_bind_13, rfl⟩, dL_bind_15, rfl, dL_bind_16, rfl⟩
theorem hd_bind_1 : m_Hd M_L_bind 5 "java/lang/IllegalStateException" (nI 2) := ⟨[⟨0, 10, 13, 13⟩], [], ⟨0, 10, 17, 17⟩, "java/lang/IllegalStateException", 4, 2, 2, rfl, (fun z hz => by simp only [List.mem_cons, List.not_mem_nil, or_false] at hz; subst hz; exact Or.inr ⟨by decide, _, wl_13, by decide⟩), by decide, by decide, wl_17, wk_17, by decide, Or.inl ⟨dL_bind_17, rfl⟩, dL_bind_19, rfl, dL_bind_20, rfl⟩
theorem w_bind {S : m_S} {I I1 : m_I} {lg : Int64} {d : Nat} {x1 x2 : Int32} {r : Int32} (hd : 10 ≤ d) (hc : m_R S M_X10_bind (d - 1) [.ref 0, .int x1, .int x2] (hh I lg) (some (.int r)) (hh I1 lg)) : m_RR S M_L_bind d [.ref 0, .int x1, .int x2, .ref 177] (hh I lg) (some (.int (nI 0))) (hh I1 r.toInt64) 1 6 := by
  refine ms_aload_n dL_bind_0 rfl ?_
  refine ms_iconst (v := nI 0) dL_bind_1 (by decide) ?_
  refine ms_aload_n dL_bind_2 rfl ?_
  refine ms_iload_n dL_bind_3 rfl ?_
  refine ms_iload_n dL_bind_4 rfl ?_
  refine qRV2 dL_bind_5 kL_42 (by show _ < 178; first | decide | exact lt_sc (by omega) | exact lt_dy (by omega)) (by show (sh0 _).1 = _; first | rfl | rw [sh_sc (by omega)] | rw [sh_dy (by omega)]) (d := d - 1) (by show d - 1 + 1 ≤ d; omega) rfl rfl (Nat.le_of_ble_eq_true rfl) (Nat.le_of_ble_eq_true rfl) (hc) rfl ?_
  refine ms_i2l dL_bind_8 ?_
  refine q_last dL_bind_9 ?_
  refine ms_goto (tgt := 21) dL_bind_10 (by decide) ?_
  refine ms_iconst (v := nI 0) dL_bind_21 (by decide) ?_
  refine ms_iret dL_bind_22 rfl rfl ⟨?_, ?_⟩
  · rfl
  · rfl
theorem w_bind0 {S : m_S} {I : m_I} {lg : Int64} {d : Nat} {x1 x2 : Int32} (hd : 10 ≤ d) (ht : m_T S M_X10_bind (d - 1) [.ref 0, .int x1, .int x2] (hh I lg) "java/lang/IndexOutOfBoundsException") : m_RR S M_L_bind d [.ref 0, .int x1, .int x2, .ref 177] (hh I lg) (some (.int (nI 1))) (hh I lg) 1 6 := by
  refine ms_aload_n dL_bind_0 rfl ?_
  refine ms_iconst (v := nI 0) dL_bind_1 (by decide) ?_
  refine ms_aload_n dL_bind_2 rfl ?_
  refine ms_iload_n dL_bind_3 rfl ?_
  refine ms_iload_n dL_bind_4 rfl ?_
  exact qTV2 dL_bind_5 kL_42 (by show _ < 178; first | decide | exact lt_sc (by omega) | exact lt_dy (by omega)) (by show (sh0 _).1 = _; first | rfl | rw [sh_sc (by omega)] | rw [sh_dy (by omega)]) (d := d - 1) (by show d - 1 + 1 ≤ d; omega) rfl rfl (Nat.le_of_ble_eq_true rfl) (Nat.le_of_ble_eq_true rfl) (ht) (by decide) (by decide) (Or.inr ⟨_, hd_bind_0, rfl, rfl⟩)
theorem w_bind1 {S : m_S} {I : m_I} {lg : Int64} {d : Nat} {x1 x2 : Int32} (hd : 10 ≤ d) (ht : m_T S M_X10_bind (d - 1) [.ref 0, .int x1, .int x2] (hh I lg) "java/lang/IllegalStateException") : m_RR S M_L_bind d [.ref 0, .int x1, .int x2, .ref 177] (hh I lg) (some (.int (nI 2))) (hh I lg) 1 6 := by
  refine ms_aload_n dL_bind_0 rfl ?_
  refine ms_iconst (v := nI 0) dL_bind_1 (by decide) ?_
  refine ms_aload_n dL_bind_2 rfl ?_
  refine ms_iload_n dL_bind_3 rfl ?_
  refine ms_iload_n dL_bind_4 rfl ?_
  exact qTV2 dL_bind_5 kL_42 (by show _ < 178; first | decide | exact lt_sc (by omega) | exact lt_dy (by omega)) (by show (sh0 _).1 = _; first | rfl | rw [sh_sc (by omega)] | rw [sh_dy (by omega)]) (d := d - 1) (by show d - 1 + 1 ≤ d; omega) rfl rfl (Nat.le_of_ble_eq_true rfl) (Nat.le_of_ble_eq_true rfl) (ht) (by decide) (by decide) (Or.inr ⟨_, hd_bind_1, rfl, rfl⟩)
theorem L_bind {S : m_S} {c : Nat} {I : m_I} {x1 x2 : Int32} (lg : Int64) (hO : Okc S c I M_X10_bind M_X11_bind [.ref 0, .int x1, .int x2] [.ref 143, .int x1, .int x2] [xI, xS]) : Lok S c I lg M_L_bind M_X11_bind [.ref 0, .int x1, .int x2] [.ref 143, .int x1, .int x2] Int32.toInt64 := by
  refine Lok_of lg Int32.toInt64 hO (fun I1 r d hd h => w_bind hd h) (fun k E d hd hE h => ?_) (by decide) (Or.inl rfl)
  match k, hE with
  | 0, hE => cases hE; exact w_bind0 hd h
  | 1, hE => cases hE; exact w_bind1 hd h
  | k + 2, hE => cases hE
theorem hd_person_0 : m_Hd M_L_person 9 "java/lang/IllegalArgumentException" (nI 1) := ⟨[], [⟨0, 14, 21, 17⟩], ⟨0, 14, 17, 15⟩, "java/lang/IllegalArgumentException", 6, 2, 1, rfl, (fun z hz => by cases hz), by decide, by decide, wl_15, wk_15, by decide, Or.inl ⟨dL_person_17, rfl⟩, dL_person_19, rfl, dL_person_20, rfl⟩
theorem hd_person_1 : m_Hd M_L_person 9 "java/lang/IllegalStateException" (nI 2) := ⟨[⟨0, 14, 17, 15⟩], [], ⟨0, 14, 21, 17⟩, "java/lang/IllegalStateException", 6, 2, 2, rfl, (fun z hz => by simp only [List.mem_cons, List.not_mem_nil, or_false] at hz; subst hz; exact Or.inr ⟨by decide, _, wl_15, by decide⟩), by decide, by decide, wl_17, wk_17, by decide, Or.inl ⟨dL_person_21, rfl⟩, dL_person_23, rfl, dL_person_24, rfl⟩
theorem w_person {S : m_S} {I I1 : m_I} {lg : Int64} {d : Nat} {x1 x2 x3 x4 : Int32} {r : Int32} (hd : 10 ≤ d) (hc : m_R S M_X10_person (d - 1) [.ref 0, .int x1, .int x2, .int x3, .int x4] (hh I lg) (some (.int r)) (hh I1 lg)) : m_RR S M_L_person d [.ref 0, .int x1, .int x2, .int x3, .int x4, .ref 177] (hh I lg) (some (.int (nI 0))) (hh I1 r.toInt64) 1 6 := by
  refine ms_aload dL_person_0 rfl ?_
  refine ms_iconst (v := nI 0) dL_person_2 (by decide) ?_
  refine ms_aload_n dL_person_3 rfl ?_
  refine ms_iload_n dL_person_4 rfl ?_
  refine ms_iload_n dL_person_5 rfl ?_
  refine ms_iload_n dL_person_6 rfl ?_
  refine ms_iload dL_person_7 rfl ?_
  refine qRV4 dL_person_9 kL_45 (by show _ < 178; first | decide | exact lt_sc (by omega) | exact lt_dy (by omega)) (by show (sh0 _).1 = _; first | rfl | rw [sh_sc (by omega)] | rw [sh_dy (by omega)]) (d := d - 1) (by show d - 1 + 1 ≤ d; omega) rfl rfl rfl rfl (Nat.le_of_ble_eq_true rfl) (Nat.le_of_ble_eq_true rfl) (hc) rfl ?_
  refine ms_i2l dL_person_12 ?_
  refine q_last dL_person_13 ?_
  refine ms_goto (tgt := 25) dL_person_14 (by decide) ?_
  refine ms_iconst (v := nI 0) dL_person_25 (by decide) ?_
  refine ms_iret dL_person_26 rfl rfl ⟨?_, ?_⟩
  · rfl
  · rfl
theorem w_person0 {S : m_S} {I : m_I} {lg : Int64} {d : Nat} {x1 x2 x3 x4 : Int32} (hd : 10 ≤ d) (ht : m_T S M_X10_person (d - 1) [.ref 0, .int x1, .int x2, .int x3, .int x4] (hh I lg) "java/lang/IllegalArgumentException") : m_RR S M_L_person d [.ref 0, .int x1, .int x2, .int x3, .int x4, .ref 177] (hh I lg) (some (.int (nI 1))) (hh I lg) 1 6 := by
  refine ms_aload dL_person_0 rfl ?_
  refine ms_iconst (v := nI 0) dL_person_2 (by decide) ?_
  refine ms_aload_n dL_person_3 rfl ?_
  refine ms_iload_n dL_person_4 rfl ?_
  refine ms_iload_n dL_person_5 rfl ?_
  refine ms_iload_n dL_person_6 rfl ?_
  refine ms_iload dL_person_7 rfl ?_
  exact qTV4 dL_person_9 kL_45 (by show _ < 178; first | decide | exact lt_sc (by omega) | exact lt_dy (by omega)) (by show (sh0 _).1 = _; first | rfl | rw [sh_sc (by omega)] | rw [sh_dy (by omega)]) (d := d - 1) (by show d - 1 + 1 ≤ d; omega) rfl rfl rfl rfl (Nat.le_of_ble_eq_true rfl) (Nat.le_of_ble_eq_true rfl) (ht) (by decide) (by decide) (Or.inr ⟨_, hd_person_0, rfl, rfl⟩)
theorem w_person1 {S : m_S} {I : m_I} {lg : Int64} {d : Nat} {x1 x2 x3 x4 : Int32} (hd : 10 ≤ d) (ht : m_T S M_X10_person (d - 1) [.ref 0, .int x1, .int x2, .int x3, .int x4] (hh I lg) "java/lang/IllegalStateException") : m_RR S M_L_person d [.ref 0, .int x1, .int x2, .int x3, .int x4, .ref 177] (hh I lg) (some (.int (nI 2))) (hh I lg) 1 6 := by
  refine ms_aload dL_person_0 rfl ?_
  refine ms_iconst (v := nI 0) dL_person_2 (by decide) ?_
  refine ms_aload_n dL_person_3 rfl ?_
  refine ms_iload_n dL_person_4 rfl ?_
  refine ms_iload_n dL_person_5 rfl ?_
  refine ms_iload_n dL_person_6 rfl ?_
  refine ms_iload dL_person_7 rfl ?_
  exact qTV4 dL_person_9 kL_45 (by show _ < 178; first | decide | exact lt_sc (by omega) | exact lt_dy (by omega)) (by show (sh0 _).1 = _; first | rfl | rw [sh_sc (by omega)] | rw [sh_dy (by omega)]) (d := d - 1) (by show d - 1 + 1 ≤ d; omega) rfl rfl rfl rfl (Nat.le_of_ble_eq_true rfl) (Nat.le_of_ble_eq_true rfl) (ht) (by decide) (by decide) (Or.inr ⟨_, hd_person_1, rfl, rfl⟩)
theorem L_person {S : m_S} {c : Nat} {I : m_I} {x1 x2 x3 x4 : Int32} (lg : Int64) (hO : Okc S c I M_X10_person M_X11_person [.ref 0, .int x1, .int x2, .int x3, .int x4] [.ref 143, .int x1, .int x2, .int x3, .int x4] [xA, xS]) : Lok S c I lg M_L_person M_X11_person [.ref 0, .int x1, .int x2, .int x3, .int x4] [.ref 143, .int x1, .int x2, .int x3, .int x4] Int32.toInt64 := by
  refine Lok_of lg Int32.toInt64 hO (fun I1 r d hd h => w_person hd h) (fun k E d hd hE h => ?_) (by decide) (Or.inl rfl)
  match k, hE with
  | 0, hE => cases hE; exact w_person0 hd h
  | 1, hE => cases hE; exact w_person1 hd h
  | k + 2, hE => cases hE
theorem hd_ill_0 : m_Hd M_L_ill 7 "java/lang/IndexOutOfBoundsException" (nI 1) := ⟨[], [], ⟨0, 12, 15, 13⟩, "java/lang/IndexOutOfBoundsException", 5, 2, 1, rfl, (fun z hz => by cases hz), by decide, by decide, wl_13, wk_13, by decide, Or.inl ⟨dL_ill_15, rfl⟩, dL_ill_17, rfl, dL_ill_18, rfl⟩
theorem w_ill {S : m_S} {I I1 : m_I} {lg : Int64} {d : Nat} {x1 x2 x3 : Int32} {r : Int32} (hd : 10 ≤ d) (hc : m_R S M_X10_ill (d - 1) [.ref 0, .int x1, .int x2, .int x3] (hh I lg) (some (.int r)) (hh I1 lg)) : m_RR S M_L_ill d [.ref 0, .int x1, .int x2, .int x3, .ref 177] (hh I lg) (some (.int (nI 0))) (hh I1 r.toInt64) 1 6 := by
  refine ms_aload dL_ill_0 rfl ?_
  refine ms_iconst (v := nI 0) dL_ill_2 (by decide) ?_
  refine ms_aload_n dL_ill_3 rfl ?_
  refine ms_iload_n dL_ill_4 rfl ?_
  refine ms_iload_n dL_ill_5 rfl ?_
  refine ms_iload_n dL_ill_6 rfl ?_
  refine qRV3 dL_ill_7 kL_49 (by show _ < 178; first | decide | exact lt_sc (by omega) | exact lt_dy (by omega)) (by show (sh0 _).1 = _; first | rfl | rw [sh_sc (by omega)] | rw [sh_dy (by omega)]) (d := d - 1) (by show d - 1 + 1 ≤ d; omega) rfl rfl rfl (Nat.le_of_ble_eq_true rfl) (Nat.le_of_ble_eq_true rfl) (hc) rfl ?_
  refine ms_i2l dL_ill_10 ?_
  refine q_last dL_ill_11 ?_
  refine ms_goto (tgt := 19) dL_ill_12 (by decide) ?_
  refine ms_iconst (v := nI 0) dL_ill_19 (by decide) ?_
  refine ms_iret dL_ill_20 rfl rfl ⟨?_, ?_⟩
  · rfl
  · rfl
theorem w_ill0 {S : m_S} {I : m_I} {lg : Int64} {d : Nat} {x1 x2 x3 : Int32} (hd : 10 ≤ d) (ht : m_T S M_X10_ill (d - 1) [.ref 0, .int x1, .int x2, .int x3] (hh I lg) "java/lang/IndexOutOfBoundsException") : m_RR S M_L_ill d [.ref 0, .int x1, .int x2, .int x3, .ref 177] (hh I lg) (some (.int (nI 1))) (hh I lg) 1 6 := by
  refine ms_aload dL_ill_0 rfl ?_
  refine ms_iconst (v := nI 0) dL_ill_2 (by decide) ?_
  refine ms_aload_n dL_ill_3 rfl ?_
  refine ms_iload_n dL_ill_4 rfl ?_
  refine ms_iload_n dL_ill_5 rfl ?_
  refine ms_iload_n dL_ill_6 rfl ?_
  exact qTV3 dL_ill_7 kL_49 (by show _ < 178; first | decide | exact lt_sc (by omega) | exact lt_dy (by omega)) (by show (sh0 _).1 = _; first | rfl | rw [sh_sc (by omega)] | rw [sh_dy (by omega)]) (d := d - 1) (by show d - 1 + 1 ≤ d; omega) rfl rfl rfl (Nat.le_of_ble_eq_true rfl) (Nat.le_of_ble_eq_true rfl) (ht) (by decide) (by decide) (Or.inr ⟨_, hd_ill_0, rfl, rfl⟩)
theorem L_ill {S : m_S} {c : Nat} {I : m_I} {x1 x2 x3 : Int32} (lg : Int64) (hO : Okc S c I M_X10_ill M_X11_ill [.ref 0, .int x1, .int x2, .int x3] [.ref 143, .int x1, .int x2, .int x3] [xI]) : Lok S c I lg M_L_ill M_X11_ill [.ref 0, .int x1, .int x2, .int x3] [.ref 143, .int x1, .int x2, .int x3] Int32.toInt64 := by
  refine Lok_of lg Int32.toInt64 hO (fun I1 r d hd h => w_ill hd h) (fun k E d hd hE h => ?_) (by decide) (Or.inl rfl)
  match k, hE with
  | 0, hE => cases hE; exact w_ill0 hd h
  | k + 1, hE => cases hE
theorem hd_place_0 : m_Hd M_L_place 4 "java/lang/IllegalArgumentException" (nI 1) := ⟨[], [⟨0, 9, 15, 17⟩], ⟨0, 9, 12, 15⟩, "java/lang/IllegalArgumentException", 3, 1, 1, rfl, (fun z hz => by cases hz), by decide, by decide, wl_15, wk_15, by decide, Or.inr ⟨⟨3, by decide⟩, dL_place_12, rfl, rfl⟩, dL_place_13, rfl, dL_place_14, rfl⟩
theorem hd_place_1 : m_Hd M_L_place 4 "java/lang/IllegalStateException" (nI 2) := ⟨[⟨0, 9, 12, 15⟩], [], ⟨0, 9, 15, 17⟩, "java/lang/IllegalStateException", 3, 1, 2, rfl, (fun z hz => by simp only [List.mem_cons, List.not_mem_nil, or_false] at hz; subst hz; exact Or.inr ⟨by decide, _, wl_15, by decide⟩), by decide, by decide, wl_17, wk_17, by decide, Or.inr ⟨⟨3, by decide⟩, dL_place_15, rfl, rfl⟩, dL_place_16, rfl, dL_place_17, rfl⟩
theorem w_place {S : m_S} {I I1 : m_I} {lg : Int64} {d : Nat} {x1 : Int32} {r : Int32} (hd : 10 ≤ d) (hc : m_R S M_X10_place (d - 1) [.ref 0, .int x1] (hh I lg) (some (.int r)) (hh I1 lg)) : m_RR S M_L_place d [.ref 0, .int x1, .ref 177] (hh I lg) (some (.int (nI 0))) (hh I1 r.toInt64) 1 6 := by
  refine ms_aload_n dL_place_0 rfl ?_
  refine ms_iconst (v := nI 0) dL_place_1 (by decide) ?_
  refine ms_aload_n dL_place_2 rfl ?_
  refine ms_iload_n dL_place_3 rfl ?_
  refine qRV1 dL_place_4 kL_53 (by show _ < 178; first | decide | exact lt_sc (by omega) | exact lt_dy (by omega)) (by show (sh0 _).1 = _; first | rfl | rw [sh_sc (by omega)] | rw [sh_dy (by omega)]) (d := d - 1) (by show d - 1 + 1 ≤ d; omega) rfl (Nat.le_of_ble_eq_true rfl) (Nat.le_of_ble_eq_true rfl) (hc) rfl ?_
  refine ms_i2l dL_place_7 ?_
  refine q_last dL_place_8 ?_
  refine ms_goto (tgt := 18) dL_place_9 (by decide) ?_
  refine ms_iconst (v := nI 0) dL_place_18 (by decide) ?_
  refine ms_iret dL_place_19 rfl rfl ⟨?_, ?_⟩
  · rfl
  · rfl
theorem w_place0 {S : m_S} {I : m_I} {lg : Int64} {d : Nat} {x1 : Int32} (hd : 10 ≤ d) (ht : m_T S M_X10_place (d - 1) [.ref 0, .int x1] (hh I lg) "java/lang/IllegalArgumentException") : m_RR S M_L_place d [.ref 0, .int x1, .ref 177] (hh I lg) (some (.int (nI 1))) (hh I lg) 1 6 := by
  refine ms_aload_n dL_place_0 rfl ?_
  refine ms_iconst (v := nI 0) dL_place_1 (by decide) ?_
  refine ms_aload_n dL_place_2 rfl ?_
  refine ms_iload_n dL_place_3 rfl ?_
  exact qTV1 dL_place_4 kL_53 (by show _ < 178; first | decide | exact lt_sc (by omega) | exact lt_dy (by omega)) (by show (sh0 _).1 = _; first | rfl | rw [sh_sc (by omega)] | rw [sh_dy (by omega)]) (d := d - 1) (by show d - 1 + 1 ≤ d; omega) rfl (Nat.le_of_ble_eq_true rfl) (Nat.le_of_ble_eq_true rfl) (ht) (by decide) (by decide) (Or.inr ⟨_, hd_place_0, rfl, rfl⟩)
theorem w_place1 {S : m_S} {I : m_I} {lg : Int64} {d : Nat} {x1 : Int32} (hd : 10 ≤ d) (ht : m_T S M_X10_place (d - 1) [.ref 0, .int x1] (hh I lg) "java/lang/IllegalStateException") : m_RR S M_L_place d [.ref 0, .int x1, .ref 177] (hh I lg) (some (.int (nI 2))) (hh I lg) 1 6 := by
  refine ms_aload_n dL_place_0 rfl ?_
  refine ms_iconst (v := nI 0) dL_place_1 (by decide) ?_
  refine ms_aload_n dL_place_2 rfl ?_
  refine ms_iload_n dL_place_3 rfl ?_
  exact qTV1 dL_place_4 kL_53 (by show _ < 178; first | decide | exact lt_sc (by omega) | exact lt_dy (by omega)) (by show (sh0 _).1 = _; first | rfl | rw [sh_sc (by omega)] | rw [sh_dy (by omega)]) (d := d - 1) (by show d - 1 + 1 ≤ d; omega) rfl (Nat.le_of_ble_eq_true rfl) (Nat.le_of_ble_eq_true rfl) (ht) (by decide) (by decide) (Or.inr ⟨_, hd_place_1, rfl, rfl⟩)
theorem L_place {S : m_S} {c : Nat} {I : m_I} {x1 : Int32} (lg : Int64) (hO : Okc S c I M_X10_place M_X11_place [.ref 0, .int x1] [.ref 143, .int x1] [xA, xS]) : Lok S c I lg M_L_place M_X11_place [.ref 0, .int x1] [.ref 143, .int x1] Int32.toInt64 := by
  refine Lok_of lg Int32.toInt64 hO (fun I1 r d hd h => w_place hd h) (fun k E d hd hE h => ?_) (by decide) (Or.inl rfl)
  match k, hE with
  | 0, hE => cases hE; exact w_place0 hd h
  | 1, hE => cases hE; exact w_place1 hd h
  | k + 2, hE => cases hE
theorem hd_permit_0 : m_Hd M_L_permit 7 "java/lang/IndexOutOfBoundsException" (nI 1) := ⟨[], [], ⟨0, 12, 15, 13⟩, "java/lang/IndexOutOfBoundsException", 5, 2, 1, rfl, (fun z hz => by cases hz), by decide, by decide, wl_13, wk_13, by decide, Or.inl ⟨dL_permit_15, rfl⟩, dL_permit_17, rfl, dL_permit_18, rfl⟩
theorem w_permit {S : m_S} {I I1 : m_I} {lg : Int64} {d : Nat} {x1 x2 x3 : Int32} {r : Int32} (hd : 10 ≤ d) (hc : m_R S M_X10_permit (d - 1) [.ref 0, .int x1, .int x2, .int x3] (hh I lg) (some (.int r)) (hh I1 lg)) : m_RR S M_L_permit d [.ref 0, .int x1, .int x2, .int x3, .ref 177] (hh I lg) (some (.int (nI 0))) (hh I1 r.toInt64) 1 6 := by
  refine ms_aload dL_permit_0 rfl ?_
  refine ms_iconst (v := nI 0) dL_permit_2 (by decide) ?_
  refine ms_aload_n dL_permit_3 rfl ?_
  refine ms_iload_n dL_permit_4 rfl ?_
  refine ms_iload_n dL_permit_5 rfl ?_
  refine ms_iload_n dL_permit_6 rfl ?_
  refine qRV3 dL_permit_7 kL_56 (by show _ < 178; first | decide | exact lt_sc (by omega) | exact lt_dy (by omega)) (by show (sh0 _).1 = _; first | rfl | rw [sh_sc (by omega)] | rw [sh_dy (by omega)]) (d := d - 1) (by show d - 1 + 1 ≤ d; omega) rfl rfl rfl (Nat.le_of_ble_eq_true rfl) (Nat.le_of_ble_eq_true rfl) (hc) rfl ?_
  refine ms_i2l dL_permit_10 ?_
  refine q_last dL_permit_11 ?_
  refine ms_goto (tgt := 19) dL_permit_12 (by decide) ?_
  refine ms_iconst (v := nI 0) dL_permit_19 (by decide) ?_
  refine ms_iret dL_permit_20 rfl rfl ⟨?_, ?_⟩
  · rfl
  · rfl
theorem w_permit0 {S : m_S} {I : m_I} {lg : Int64} {d : Nat} {x1 x2 x3 : Int32} (hd : 10 ≤ d) (ht : m_T S M_X10_permit (d - 1) [.ref 0, .int x1, .int x2, .int x3] (hh I lg) "java/lang/IndexOutOfBoundsException") : m_RR S M_L_permit d [.ref 0, .int x1, .int x2, .int x3, .ref 177] (hh I lg) (some (.int (nI 1))) (hh I lg) 1 6 := by
  refine ms_aload dL_permit_0 rfl ?_
  refine ms_iconst (v := nI 0) dL_permit_2 (by decide) ?_
  refine ms_aload_n dL_permit_3 rfl ?_
  refine ms_iload_n dL_permit_4 rfl ?_
  refine ms_iload_n dL_permit_5 rfl ?_
  refine ms_iload_n dL_permit_6 rfl ?_
  exact qTV3 dL_permit_7 kL_56 (by show _ < 178; first | decide | exact lt_sc (by omega) | exact lt_dy (by omega)) (by show (sh0 _).1 = _; first | rfl | rw [sh_sc (by omega)] | rw [sh_dy (by omega)]) (d := d - 1) (by show d - 1 + 1 ≤ d; omega) rfl rfl rfl (Nat.le_of_ble_eq_true rfl) (Nat.le_of_ble_eq_true rfl) (ht) (by decide) (by decide) (Or.inr ⟨_, hd_permit_0, rfl, rfl⟩)
theorem L_permit {S : m_S} {c : Nat} {I : m_I} {x1 x2 x3 : Int32} (lg : Int64) (hO : Okc S c I M_X10_permit M_X11_permit [.ref 0, .int x1, .int x2, .int x3] [.ref 143, .int x1, .int x2, .int x3] [xI]) : Lok S c I lg M_L_permit M_X11_permit [.ref 0, .int x1, .int x2, .int x3] [.ref 143, .int x1, .int x2, .int x3] Int32.toInt64 := by
  refine Lok_of lg Int32.toInt64 hO (fun I1 r d hd h => w_permit hd h) (fun k E d hd hE h => ?_) (by decide) (Or.inl rfl)
  match k, hE with
  | 0, hE => cases hE; exact w_permit0 hd h
  | k + 1, hE => cases hE
theorem hd_move_0 : m_Hd M_L_move 7 "java/lang/IndexOutOfBoundsException" (nI 1) := ⟨[], [⟨0, 12, 19, 15⟩], ⟨0, 12, 15, 13⟩, "java/lang/IndexOutOfBoundsException", 5, 2, 1, rfl, (fun z hz => by cases hz), by decide, by decide, wl_13, wk_13, by decide, Or.inl ⟨dL_move_15, rfl⟩, dL_move_17, rfl, dL_move_18, rfl⟩
theorem hd_move_1 : m_Hd M_L_move 7 "java/lang/IllegalArgumentException" (nI 2) := ⟨[⟨0, 12, 15, 13⟩], [], ⟨0, 12, 19, 15⟩, "java/lang/IllegalArgumentException", 5, 2, 2, rfl, (fun z hz => by simp only [List.mem_cons, List.not_mem_nil, or_false] at hz; subst hz; exact Or.inr ⟨by decide, _, wl_13, by decide⟩), by decide, by decide, wl_15, wk_15, by decide, Or.inl ⟨dL_move_19, rfl⟩, dL_move_21, rfl, dL_move_22, rfl⟩
theorem w_move {S : m_S} {I I1 : m_I} {lg : Int64} {d : Nat} {x1 x2 x3 : Int32} {r : Int32} (hd : 10 ≤ d) (hc : m_R S M_X10_move (d - 1) [.ref 0, .int x1, .int x2, .int x3] (hh I lg) (some (.int r)) (hh I1 lg)) : m_RR S M_L_move d [.ref 0, .int x1, .int x2, .int x3, .ref 177] (hh I lg) (some (.int (nI 0))) (hh I1 r.toInt64) 1 6 := by
  refine ms_aload dL_move_0 rfl ?_
  refine ms_iconst (v := nI 0) dL_move_2 (by decide) ?_
  refine ms_aload_n dL_move_3 rfl ?_
  refine ms_iload_n dL_move_4 rfl ?_
  refine ms_iload_n dL_move_5 rfl ?_
  refine ms_iload_n dL_move_6 rfl ?_
  refine qRV3 dL_move_7 kL_59 (by show _ < 178; first | decide | exact lt_sc (by omega) | exact lt_dy (by omega)) (by show (sh0 _).1 = _; first | rfl | rw [sh_sc (by omega)] | rw [sh_dy (by omega)]) (d := d - 1) (by show d - 1 + 1 ≤ d; omega) rfl rfl rfl (Nat.le_of_ble_eq_true rfl) (Nat.le_of_ble_eq_true rfl) (hc) rfl ?_
  refine ms_i2l dL_move_10 ?_
  refine q_last dL_move_11 ?_
  refine ms_goto (tgt := 23) dL_move_12 (by decide) ?_
  refine ms_iconst (v := nI 0) dL_move_23 (by decide) ?_
  refine ms_iret dL_move_24 rfl rfl ⟨?_, ?_⟩
  · rfl
  · rfl
theorem w_move0 {S : m_S} {I : m_I} {lg : Int64} {d : Nat} {x1 x2 x3 : Int32} (hd : 10 ≤ d) (ht : m_T S M_X10_move (d - 1) [.ref 0, .int x1, .int x2, .int x3] (hh I lg) "java/lang/IndexOutOfBoundsException") : m_RR S M_L_move d [.ref 0, .int x1, .int x2, .int x3, .ref 177] (hh I lg) (some (.int (nI 1))) (hh I lg) 1 6 := by
  refine ms_aload dL_move_0 rfl ?_
  refine ms_iconst (v := nI 0) dL_move_2 (by decide) ?_
  refine ms_aload_n dL_move_3 rfl ?_
  refine ms_iload_n dL_move_4 rfl ?_
  refine ms_iload_n dL_move_5 rfl ?_
  refine ms_iload_n dL_move_6 rfl ?_
  exact qTV3 dL_move_7 kL_59 (by show _ < 178; first | decide | exact lt_sc (by omega) | exact lt_dy (by omega)) (by show (sh0 _).1 = _; first | rfl | rw [sh_sc (by omega)] | rw [sh_dy (by omega)]) (d := d - 1) (by show d - 1 + 1 ≤ d; omega) rfl rfl rfl (Nat.le_of_ble_eq_true rfl) (Nat.le_of_ble_eq_true rfl) (ht) (by decide) (by decide) (Or.inr ⟨_, hd_move_0, rfl, rfl⟩)
theorem w_move1 {S : m_S} {I : m_I} {lg : Int64} {d : Nat} {x1 x2 x3 : Int32} (hd : 10 ≤ d) (ht : m_T S M_X10_move (d - 1) [.ref 0, .int x1, .int x2, .int x3] (hh I lg) "java/lang/IllegalArgumentException") : m_RR S M_L_move d [.ref 0, .int x1, .int x2, .int x3, .ref 177] (hh I lg) (some (.int (nI 2))) (hh I lg) 1 6 := by
  refine ms_aload dL_move_0 rfl ?_
  refine ms_iconst (v := nI 0) dL_move_2 (by decide) ?_
  refine ms_aload_n dL_move_3 rfl ?_
  refine ms_iload_n dL_move_4 rfl ?_
  refine ms_iload_n dL_move_5 rfl ?_
  refine ms_iload_n dL_move_6 rfl ?_
  exact qTV3 dL_move_7 kL_59 (by show _ < 178; first | decide | exact lt_sc (by omega) | exact lt_dy (by omega)) (by show (sh0 _).1 = _; first | rfl | rw [sh_sc (by omega)] | rw [sh_dy (by omega)]) (d := d - 1) (by show d - 1 + 1 ≤ d; omega) rfl rfl rfl (Nat.le_of_ble_eq_true rfl) (Nat.le_of_ble_eq_true rfl) (ht) (by decide) (by decide) (Or.inr ⟨_, hd_move_1, rfl, rfl⟩)
theorem L_move {S : m_S} {c : Nat} {I : m_I} {x1 x2 x3 : Int32} (lg : Int64) (hO : Okc S c I M_X10_move M_X11_move [.ref 0, .int x1, .int x2, .int x3] [.ref 143, .int x1, .int x2, .int x3] [xI, xA]) : Lok S c I lg M_L_move M_X11_move [.ref 0, .int x1, .int x2, .int x3] [.ref 143, .int x1, .int x2, .int x3] Int32.toInt64 := by
  refine Lok_of lg Int32.toInt64 hO (fun I1 r d hd h => w_move hd h) (fun k E d hd hE h => ?_) (by decide) (Or.inl rfl)
  match k, hE with
  | 0, hE => cases hE; exact w_move0 hd h
  | 1, hE => cases hE; exact w_move1 hd h
  | k + 2, hE => cases hE
theorem hd_light_0 : m_Hd M_L_light 6 "java/lang/IndexOutOfBoundsException" (nI 1) := ⟨[], [⟨0, 9, 16, 15⟩], ⟨0, 9, 12, 13⟩, "java/lang/IndexOutOfBoundsException", 5, 2, 1, rfl, (fun z hz => by cases hz), by decide, by decide, wl_13, wk_13, by decide, Or.inl ⟨dL_light_12, rfl⟩, dL_light_14, rfl, dL_light_15, rfl⟩
theorem hd_light_1 : m_Hd M_L_light 6 "java/lang/IllegalArgumentException" (nI 2) := ⟨[⟨0, 9, 12, 13⟩], [], ⟨0, 9, 16, 15⟩, "java/lang/IllegalArgumentException", 5, 2, 2, rfl, (fun z hz => by simp only [List.mem_cons, List.not_mem_nil, or_false] at hz; subst hz; exact Or.inr ⟨by decide, _, wl_13, by decide⟩), by decide, by decide, wl_15, wk_15, by decide, Or.inl ⟨dL_light_16, rfl⟩, dL_light_18, rfl, dL_light_19, rfl⟩
theorem w_light {S : m_S} {I I1 : m_I} {lg : Int64} {d : Nat} {x1 x2 x3 x4 : Int32} (hd : 10 ≤ d) (hc : m_R S M_X10_light (d - 1) [.ref 0, .int x1, .int x2, .int x3, .int x4] (hh I lg) none (hh I1 lg)) : m_RR S M_L_light d [.ref 0, .int x1, .int x2, .int x3, .int x4] (hh I lg) (some (.int (nI 0))) (hh I1 lg) 1 6 := by
  refine ms_aload_n dL_light_0 rfl ?_
  refine ms_iload_n dL_light_1 rfl ?_
  refine ms_iload_n dL_light_2 rfl ?_
  refine ms_iload_n dL_light_3 rfl ?_
  refine ms_iload dL_light_4 rfl ?_
  refine qRV4 dL_light_6 kL_63 (by show _ < 178; first | decide | exact lt_sc (by omega) | exact lt_dy (by omega)) (by show (sh0 _).1 = _; first | rfl | rw [sh_sc (by omega)] | rw [sh_dy (by omega)]) (d := d - 1) (by show d - 1 + 1 ≤ d; omega) rfl rfl rfl rfl (Nat.le_of_ble_eq_true rfl) (Nat.le_of_ble_eq_true rfl) (hc) rfl ?_
  refine ms_goto (tgt := 20) dL_light_9 (by decide) ?_
  refine ms_iconst (v := nI 0) dL_light_20 (by decide) ?_
  refine ms_iret dL_light_21 rfl rfl ⟨?_, ?_⟩
  · rfl
  · rfl
theorem w_light0 {S : m_S} {I : m_I} {lg : Int64} {d : Nat} {x1 x2 x3 x4 : Int32} (hd : 10 ≤ d) (ht : m_T S M_X10_light (d - 1) [.ref 0, .int x1, .int x2, .int x3, .int x4] (hh I lg) "java/lang/IndexOutOfBoundsException") : m_RR S M_L_light d [.ref 0, .int x1, .int x2, .int x3, .int x4] (hh I lg) (some (.int (nI 1))) (hh I lg) 1 6 := by
  refine ms_aload_n dL_light_0 rfl ?_
  refine ms_iload_n dL_light_1 rfl ?_
  refine ms_iload_n dL_light_2 rfl ?_
  refine ms_iload_n dL_light_3 rfl ?_
  refine ms_iload dL_light_4 rfl ?_
  exact qTV4 dL_light_6 kL_63 (by show _ < 178; first | decide | exact lt_sc (by omega) | exact lt_dy (by omega)) (by show (sh0 _).1 = _; first | rfl | rw [sh_sc (by omega)] | rw [sh_dy (by omega)]) (d := d - 1) (by show d - 1 + 1 ≤ d; omega) rfl rfl rfl rfl (Nat.le_of_ble_eq_true rfl) (Nat.le_of_ble_eq_true rfl) (ht) (by decide) (by decide) (Or.inr ⟨_, hd_light_0, rfl, rfl⟩)
theorem w_light1 {S : m_S} {I : m_I} {lg : Int64} {d : Nat} {x1 x2 x3 x4 : Int32} (hd : 10 ≤ d) (ht : m_T S M_X10_light (d - 1) [.ref 0, .int x1, .int x2, .int x3, .int x4] (hh I lg) "java/lang/IllegalArgumentException") : m_RR S M_L_light d [.ref 0, .int x1, .int x2, .int x3, .int x4] (hh I lg) (some (.int (nI 2))) (hh I lg) 1 6 := by
  refine ms_aload_n dL_light_0 rfl ?_
  refine ms_iload_n dL_light_1 rfl ?_
  refine ms_iload_n dL_light_2 rfl ?_
  refine ms_iload_n dL_light_3 rfl ?_
  refine ms_iload dL_light_4 rfl ?_
  exact qTV4 dL_light_6 kL_63 (by show _ < 178; first | decide | exact lt_sc (by omega) | exact lt_dy (by omega)) (by show (sh0 _).1 = _; first | rfl | rw [sh_sc (by omega)] | rw [sh_dy (by omega)]) (d := d - 1) (by show d - 1 + 1 ≤ d; omega) rfl rfl rfl rfl (Nat.le_of_ble_eq_true rfl) (Nat.le_of_ble_eq_true rfl) (ht) (by decide) (by decide) (Or.inr ⟨_, hd_light_1, rfl, rfl⟩)
theorem hd_put_0 : m_Hd M_L_put 7 "java/lang/IndexOutOfBoundsException" (nI 1) := ⟨[], [⟨0, 12, 19, 17⟩], ⟨0, 12, 15, 13⟩, "java/lang/IndexOutOfBoundsException", 5, 2, 1, rfl, (fun z hz => by cases hz), by decide, by decide, wl_13, wk_13, by decide, Or.inl ⟨dL_put_15, rfl⟩, dL_put_17, rfl, dL_put_18, rfl⟩
theorem hd_put_1 : m_Hd M_L_put 7 "java/lang/IllegalStateException" (nI 2) := ⟨[⟨0, 12, 15, 13⟩], [], ⟨0, 12, 19, 17⟩, "java/lang/IllegalStateException", 5, 2, 2, rfl, (fun z hz => by simp only [List.mem_cons, List.not_mem_nil, or_false] at hz; subst hz; exact Or.inr ⟨by decide, _, wl_13, by decide⟩), by decide, by decide, wl_17, wk_17, by decide, Or.inl ⟨dL_put_19, rfl⟩, dL_put_21, rfl, dL_put_22, rfl⟩
theorem w_put {S : m_S} {I I1 : m_I} {lg : Int64} {d : Nat} {x1 x2 x3 : Int32} {r : Int32} (hd : 10 ≤ d) (hc : m_R S M_X10_put (d - 1) [.ref 0, .int x1, .int x2, .int x3] (hh I lg) (some (.int r)) (hh I1 lg)) : m_RR S M_L_put d [.ref 0, .int x1, .int x2, .int x3, .ref 177] (hh I lg) (some (.int (nI 0))) (hh I1 r.toInt64) 1 6 := by
  refine ms_aload dL_put_0 rfl ?_
  refine ms_iconst (v := nI 0) dL_put_2 (by decide) ?_
  refine ms_aload_n dL_put_3 rfl ?_
  refine ms_iload_n dL_put_4 rfl ?_
  refine ms_iload_n dL_put_5 rfl ?_
  refine ms_iload_n dL_put_6 rfl ?_
  refine qRV3 dL_put_7 kL_67 (by show _ < 178; first | decide | exact lt_sc (by omega) | exact lt_dy (by omega)) (by show (sh0 _).1 = _; first | rfl | rw [sh_sc (by omega)] | rw [sh_dy (by omega)]) (d := d - 1) (by show d - 1 + 1 ≤ d; omega) rfl rfl rfl (Nat.le_of_ble_eq_true rfl) (Nat.le_of_ble_eq_true rfl) (hc) rfl ?_
  refine ms_i2l dL_put_10 ?_
  refine q_last dL_put_11 ?_
  refine ms_goto (tgt := 23) dL_put_12 (by decide) ?_
  refine ms_iconst (v := nI 0) dL_put_23 (by decide) ?_
  refine ms_iret dL_put_24 rfl rfl ⟨?_, ?_⟩
  · rfl
  · rfl
theorem w_put0 {S : m_S} {I : m_I} {lg : Int64} {d : Nat} {x1 x2 x3 : Int32} (hd : 10 ≤ d) (ht : m_T S M_X10_put (d - 1) [.ref 0, .int x1, .int x2, .int x3] (hh I lg) "java/lang/IndexOutOfBoundsException") : m_RR S M_L_put d [.ref 0, .int x1, .int x2, .int x3, .ref 177] (hh I lg) (some (.int (nI 1))) (hh I lg) 1 6 := by
  refine ms_aload dL_put_0 rfl ?_
  refine ms_iconst (v := nI 0) dL_put_2 (by decide) ?_
  refine ms_aload_n dL_put_3 rfl ?_
  refine ms_iload_n dL_put_4 rfl ?_
  refine ms_iload_n dL_put_5 rfl ?_
  refine ms_iload_n dL_put_6 rfl ?_
  exact qTV3 dL_put_7 kL_67 (by show _ < 178; first | decide | exact lt_sc (by omega) | exact lt_dy (by omega)) (by show (sh0 _).1 = _; first | rfl | rw [sh_sc (by omega)] | rw [sh_dy (by omega)]) (d := d - 1) (by show d - 1 + 1 ≤ d; omega) rfl rfl rfl (Nat.le_of_ble_eq_true rfl) (Nat.le_of_ble_eq_true rfl) (ht) (by decide) (by decide) (Or.inr ⟨_, hd_put_0, rfl, rfl⟩)
theorem w_put1 {S : m_S} {I : m_I} {lg : Int64} {d : Nat} {x1 x2 x3 : Int32} (hd : 10 ≤ d) (ht : m_T S M_X10_put (d - 1) [.ref 0, .int x1, .int x2, .int x3] (hh I lg) "java/lang/IllegalStateException") : m_RR S M_L_put d [.ref 0, .int x1, .int x2, .int x3, .ref 177] (hh I lg) (some (.int (nI 2))) (hh I lg) 1 6 := by
  refine ms_aload dL_put_0 rfl ?_
  refine ms_iconst (v := nI 0) dL_put_2 (by decide) ?_
  refine ms_aload_n dL_put_3 rfl ?_
  refine ms_iload_n dL_put_4 rfl ?_
  refine ms_iload_n dL_put_5 rfl ?_
  refine ms_iload_n dL_put_6 rfl ?_
  exact qTV3 dL_put_7 kL_67 (by show _ < 178; first | decide | exact lt_sc (by omega) | exact lt_dy (by omega)) (by show (sh0 _).1 = _; first | rfl | rw [sh_sc (by omega)] | rw [sh_dy (by omega)]) (d := d - 1) (by show d - 1 + 1 ≤ d; omega) rfl rfl rfl (Nat.le_of_ble_eq_true rfl) (Nat.le_of_ble_eq_true rfl) (ht) (by decide) (by decide) (Or.inr ⟨_, hd_put_1, rfl, rfl⟩)
theorem L_put {S : m_S} {c : Nat} {I : m_I} {x1 x2 x3 : Int32} (lg : Int64) (hO : Okc S c I M_X10_put M_X11_put [.ref 0, .int x1, .int x2, .int x3] [.ref 143, .int x1, .int x2, .int x3] [xI, xS]) : Lok S c I lg M_L_put M_X11_put [.ref 0, .int x1, .int x2, .int x3] [.ref 143, .int x1, .int x2, .int x3] Int32.toInt64 := by
  refine Lok_of lg Int32.toInt64 hO (fun I1 r d hd h => w_put hd h) (fun k E d hd hE h => ?_) (by decide) (Or.inl rfl)
  match k, hE with
  | 0, hE => cases hE; exact w_put0 hd h
  | 1, hE => cases hE; exact w_put1 hd h
  | k + 2, hE => cases hE
theorem hd_take_0 : m_Hd M_L_take 4 "java/lang/IndexOutOfBoundsException" (nI 1) := ⟨[], [⟨0, 9, 15, 17⟩], ⟨0, 9, 12, 13⟩, "java/lang/IndexOutOfBoundsException", 3, 1, 1, rfl, (fun z hz => by cases hz), by decide, by decide, wl_13, wk_13, by decide, Or.inr ⟨⟨3, by decide⟩, dL_take_12, rfl, rfl⟩, dL_take_13, rfl, dL_take_14, rfl⟩
theorem hd_take_1 : m_Hd M_L_take 4 "java/lang/IllegalStateException" (nI 2) := ⟨[⟨0, 9, 12, 13⟩], [], ⟨0, 9, 15, 17⟩, "java/lang/IllegalStateException", 3, 1, 2, rfl, (fun z hz => by simp only [List.mem_cons, List.not_mem_nil, or_false] at hz; subst hz; exact Or.inr ⟨by decide, _, wl_13, by decide⟩), by decide, by decide, wl_17, wk_17, by decide, Or.inr ⟨⟨3, by decide⟩, dL_take_15, rfl, rfl⟩, dL_take_16, rfl, dL_take_17, rfl⟩
theorem w_take {S : m_S} {I I1 : m_I} {lg : Int64} {d : Nat} {x1 : Int32} {r : Int32} (hd : 10 ≤ d) (hc : m_R S M_X10_take (d - 1) [.ref 0, .int x1] (hh I lg) (some (.int r)) (hh I1 lg)) : m_RR S M_L_take d [.ref 0, .int x1, .ref 177] (hh I lg) (some (.int (nI 0))) (hh I1 r.toInt64) 1 6 := by
  refine ms_aload_n dL_take_0 rfl ?_
  refine ms_iconst (v := nI 0) dL_take_1 (by decide) ?_
  refine ms_aload_n dL_take_2 rfl ?_
  refine ms_iload_n dL_take_3 rfl ?_
  refine qRV1 dL_take_4 kL_70 (by show _ < 178; first | decide | exact lt_sc (by omega) | exact lt_dy (by omega)) (by show (sh0 _).1 = _; first | rfl | rw [sh_sc (by omega)] | rw [sh_dy (by omega)]) (d := d - 1) (by show d - 1 + 1 ≤ d; omega) rfl (Nat.le_of_ble_eq_true rfl) (Nat.le_of_ble_eq_true rfl) (hc) rfl ?_
  refine ms_i2l dL_take_7 ?_
  refine q_last dL_take_8 ?_
  refine ms_goto (tgt := 18) dL_take_9 (by decide) ?_
  refine ms_iconst (v := nI 0) dL_take_18 (by decide) ?_
  refine ms_iret dL_take_19 rfl rfl ⟨?_, ?_⟩
  · rfl
  · rfl
theorem w_take0 {S : m_S} {I : m_I} {lg : Int64} {d : Nat} {x1 : Int32} (hd : 10 ≤ d) (ht : m_T S M_X10_take (d - 1) [.ref 0, .int x1] (hh I lg) "java/lang/IndexOutOfBoundsException") : m_RR S M_L_take d [.ref 0, .int x1, .ref 177] (hh I lg) (some (.int (nI 1))) (hh I lg) 1 6 := by
  refine ms_aload_n dL_take_0 rfl ?_
  refine ms_iconst (v := nI 0) dL_take_1 (by decide) ?_
  refine ms_aload_n dL_take_2 rfl ?_
  refine ms_iload_n dL_take_3 rfl ?_
  exact qTV1 dL_take_4 kL_70 (by show _ < 178; first | decide | exact lt_sc (by omega) | exact lt_dy (by omega)) (by show (sh0 _).1 = _; first | rfl | rw [sh_sc (by omega)] | rw [sh_dy (by omega)]) (d := d - 1) (by show d - 1 + 1 ≤ d; omega) rfl (Nat.le_of_ble_eq_true rfl) (Nat.le_of_ble_eq_true rfl) (ht) (by decide) (by decide) (Or.inr ⟨_, hd_take_0, rfl, rfl⟩)
theorem w_take1 {S : m_S} {I : m_I} {lg : Int64} {d : Nat} {x1 : Int32} (hd : 10 ≤ d) (ht : m_T S M_X10_take (d - 1) [.ref 0, .int x1] (hh I lg) "java/lang/IllegalStateException") : m_RR S M_L_take d [.ref 0, .int x1, .ref 177] (hh I lg) (some (.int (nI 2))) (hh I lg) 1 6 := by
  refine ms_aload_n dL_take_0 rfl ?_
  refine ms_iconst (v := nI 0) dL_take_1 (by decide) ?_
  refine ms_aload_n dL_take_2 rfl ?_
  refine ms_iload_n dL_take_3 rfl ?_
  exact qTV1 dL_take_4 kL_70 (by show _ < 178; first | decide | exact lt_sc (by omega) | exact lt_dy (by omega)) (by show (sh0 _).1 = _; first | rfl | rw [sh_sc (by omega)] | rw [sh_dy (by omega)]) (d := d - 1) (by show d - 1 + 1 ≤ d; omega) rfl (Nat.le_of_ble_eq_true rfl) (Nat.le_of_ble_eq_true rfl) (ht) (by decide) (by decide) (Or.inr ⟨_, hd_take_1, rfl, rfl⟩)
theorem L_take {S : m_S} {c : Nat} {I : m_I} {x1 : Int32} (lg : Int64) (hO : Okc S c I M_X10_take M_X11_take [.ref 0, .int x1] [.ref 143, .int x1] [xI, xS]) : Lok S c I lg M_L_take M_X11_take [.ref 0, .int x1] [.ref 143, .int x1] Int32.toInt64 := by
  refine Lok_of lg Int32.toInt64 hO (fun I1 r d hd h => w_take hd h) (fun k E d hd hE h => ?_) (by decide) (Or.inl rfl)
  match k, hE with
  | 0, hE => cases hE; exact w_take0 hd h
  | 1, hE => cases hE; exact w_take1 hd h
  | k + 2, hE => cases hE
theorem hd_mend_0 : m_Hd M_L_mend 4 "java/lang/IndexOutOfBoundsException" (nI 1) := ⟨[], [⟨0, 9, 15, 17⟩], ⟨0, 9, 12, 13⟩, "java/lang/IndexOutOfBoundsException", 3, 1, 1, rfl, (fun z hz => by cases hz), by decide, by decide, wl_13, wk_13, by decide, Or.inr ⟨⟨3, by decide⟩, dL_mend_12, rfl, rfl⟩, dL_mend_13, rfl, dL_mend_14, rfl⟩
theorem hd_mend_1 : m_Hd M_L_mend 4 "java/lang/IllegalStateException" (nI 2) := ⟨[⟨0, 9, 12, 13⟩], [], ⟨0, 9, 15, 17⟩, "java/lang/IllegalStateException", 3, 1, 2, rfl, (fun z hz => by simp only [List.mem_cons, List.not_mem_nil, or_false] at hz; subst hz; exact Or.inr ⟨by decide, _, wl_13, by decide⟩), by decide, by decide, wl_17, wk_17, by decide, Or.inr ⟨⟨3, by decide⟩, dL_mend_15, rfl, rfl⟩, dL_mend_16, rfl, dL_mend_17, rfl⟩
theorem w_mend {S : m_S} {I I1 : m_I} {lg : Int64} {d : Nat} {x1 : Int32} {r : Int32} (hd : 10 ≤ d) (hc : m_R S M_X10_mend (d - 1) [.ref 0, .int x1] (hh I lg) (some (.int r)) (hh I1 lg)) : m_RR S M_L_mend d [.ref 0, .int x1, .ref 177] (hh I lg) (some (.int (nI 0))) (hh I1 r.toInt64) 1 6 := by
  refine ms_aload_n dL_mend_0 rfl ?_
  refine ms_iconst (v := nI 0) dL_mend_1 (by decide) ?_
  refine ms_aload_n dL_mend_2 rfl ?_
  refine ms_iload_n dL_mend_3 rfl ?_
  refine qRV1 dL_mend_4 kL_73 (by show _ < 178; first | decide | exact lt_sc (by omega) | exact lt_dy (by omega)) (by show (sh0 _).1 = _; first | rfl | rw [sh_sc (by omega)] | rw [sh_dy (by omega)]) (d := d - 1) (by show d - 1 + 1 ≤ d; omega) rfl (Nat.le_of_ble_eq_true rfl) (Nat.le_of_ble_eq_true rfl) (hc) rfl ?_
  refine ms_i2l dL_mend_7 ?_
  refine q_last dL_mend_8 ?_
  refine ms_goto (tgt := 18) dL_mend_9 (by decide) ?_
  refine ms_iconst (v := nI 0) dL_mend_18 (by decide) ?_
  refine ms_iret dL_mend_19 rfl rfl ⟨?_, ?_⟩
  · rfl
  · rfl
theorem w_mend0 {S : m_S} {I : m_I} {lg : Int64} {d : Nat} {x1 : Int32} (hd : 10 ≤ d) (ht : m_T S M_X10_mend (d - 1) [.ref 0, .int x1] (hh I lg) "java/lang/IndexOutOfBoundsException") : m_RR S M_L_mend d [.ref 0, .int x1, .ref 177] (hh I lg) (some (.int (nI 1))) (hh I lg) 1 6 := by
  refine ms_aload_n dL_mend_0 rfl ?_
  refine ms_iconst (v := nI 0) dL_mend_1 (by decide) ?_
  refine ms_aload_n dL_mend_2 rfl ?_
  refine ms_iload_n dL_mend_3 rfl ?_
  exact qTV1 dL_mend_4 kL_73 (by show _ < 178; first | decide | exact lt_sc (by omega) | exact lt_dy (by omega)) (by show (sh0 _).1 = _; first | rfl | rw [sh_sc (by omega)] | rw [sh_dy (by omega)]) (d := d - 1) (by show d - 1 + 1 ≤ d; omega) rfl (Nat.le_of_ble_eq_true rfl) (Nat.le_of_ble_eq_true rfl) (ht) (by decide) (by decide) (Or.inr ⟨_, hd_mend_0, rfl, rfl⟩)
theorem w_mend1 {S : m_S} {I : m_I} {lg : Int64} {d : Nat} {x1 : Int32} (hd : 10 ≤ d) (ht : m_T S M_X10_mend (d - 1) [.ref 0, .int x1] (hh I lg) "java/lang/IllegalStateException") : m_RR S M_L_mend d [.ref 0, .int x1, .ref 177] (hh I lg) (some (.int (nI 2))) (hh I lg) 1 6 := by
  refine ms_aload_n dL_mend_0 rfl ?_
  refine ms_iconst (v := nI 0) dL_mend_1 (by decide) ?_
  refine ms_aload_n dL_mend_2 rfl ?_
  refine ms_iload_n dL_mend_3 rfl ?_
  exact qTV1 dL_mend_4 kL_73 (by show _ < 178; first | decide | exact lt_sc (by omega) | exact lt_dy (by omega)) (by show (sh0 _).1 = _; first | rfl | rw [sh_sc (by omega)] | rw [sh_dy (by omega)]) (d := d - 1) (by show d - 1 + 1 ≤ d; omega) rfl (Nat.le_of_ble_eq_true rfl) (Nat.le_of_ble_eq_true rfl) (ht) (by decide) (by decide) (Or.inr ⟨_, hd_mend_1, rfl, rfl⟩)
theorem L_mend {S : m_S} {c : Nat} {I : m_I} {x1 : Int32} (lg : Int64) (hO : Okc S c I M_X10_mend M_X11_mend [.ref 0, .int x1] [.ref 143, .int x1] [xI, xS]) : Lok S c I lg M_L_mend M_X11_mend [.ref 0, .int x1] [.ref 143, .int x1] Int32.toInt64 := by
  refine Lok_of lg Int32.toInt64 hO (fun I1 r d hd h => w_mend hd h) (fun k E d hd hE h => ?_) (by decide) (Or.inl rfl)
  match k, hE with
  | 0, hE => cases hE; exact w_mend0 hd h
  | 1, hE => cases hE; exact w_mend1 hd h
  | k + 2, hE => cases hE
theorem hd_strip_0 : m_Hd M_L_strip 5 "java/lang/IndexOutOfBoundsException" (nI 1) := ⟨[], [], ⟨0, 10, 13, 13⟩, "java/lang/IndexOutOfBoundsException", 4, 2, 1, rfl, (fun z hz => by cases hz), by decide, by decide, wl_13, wk_13, by decide, Or.inl ⟨dL_strip_13, rfl⟩, dL_strip_15, rfl, dL_strip_16, rfl⟩
theorem w_strip {S : m_S} {I I1 : m_I} {lg : Int64} {d : Nat} {x1 x2 : Int32} {r : Int32} (hd : 10 ≤ d) (hc : m_R S M_X10_strip (d - 1) [.ref 0, .int x1, .int x2] (hh I lg) (some (.int r)) (hh I1 lg)) : m_RR S M_L_strip d [.ref 0, .int x1, .int x2, .ref 177] (hh I lg) (some (.int (nI 0))) (hh I1 r.toInt64) 1 6 := by
  refine ms_aload_n dL_strip_0 rfl ?_
  refine ms_iconst (v := nI 0) dL_strip_1 (by decide) ?_
  refine ms_aload_n dL_strip_2 rfl ?_
  refine ms_iload_n dL_strip_3 rfl ?_
  refine ms_iload_n dL_strip_4 rfl ?_
  refine qRV2 dL_strip_5 kL_76 (by show _ < 178; first | decide | exact lt_sc (by omega) | exact lt_dy (by omega)) (by show (sh0 _).1 = _; first | rfl | rw [sh_sc (by omega)] | rw [sh_dy (by omega)]) (d := d - 1) (by show d - 1 + 1 ≤ d; omega) rfl rfl (Nat.le_of_ble_eq_true rfl) (Nat.le_of_ble_eq_true rfl) (hc) rfl ?_
  refine ms_i2l dL_strip_8 ?_
  refine q_last dL_strip_9 ?_
  refine ms_goto (tgt := 17) dL_strip_10 (by decide) ?_
  refine ms_iconst (v := nI 0) dL_strip_17 (by decide) ?_
  refine ms_iret dL_strip_18 rfl rfl ⟨?_, ?_⟩
  · rfl
  · rfl
theorem w_strip0 {S : m_S} {I : m_I} {lg : Int64} {d : Nat} {x1 x2 : Int32} (hd : 10 ≤ d) (ht : m_T S M_X10_strip (d - 1) [.ref 0, .int x1, .int x2] (hh I lg) "java/lang/IndexOutOfBoundsException") : m_RR S M_L_strip d [.ref 0, .int x1, .int x2, .ref 177] (hh I lg) (some (.int (nI 1))) (hh I lg) 1 6 := by
  refine ms_aload_n dL_strip_0 rfl ?_
  refine ms_iconst (v := nI 0) dL_strip_1 (by decide) ?_
  refine ms_aload_n dL_strip_2 rfl ?_
  refine ms_iload_n dL_strip_3 rfl ?_
  refine ms_iload_n dL_strip_4 rfl ?_
  exact qTV2 dL_strip_5 kL_76 (by show _ < 178; first | decide | exact lt_sc (by omega) | exact lt_dy (by omega)) (by show (sh0 _).1 = _; first | rfl | rw [sh_sc (by omega)] | rw [sh_dy (by omega)]) (d := d - 1) (by show d - 1 + 1 ≤ d; omega) rfl rfl (Nat.le_of_ble_eq_true rfl) (Nat.le_of_ble_eq_true rfl) (ht) (by decide) (by decide) (Or.inr ⟨_, hd_strip_0, rfl, rfl⟩)
theorem L_strip {S : m_S} {c : Nat} {I : m_I} {x1 x2 : Int32} (lg : Int64) (hO : Okc S c I M_X10_strip M_X11_strip [.ref 0, .int x1, .int x2] [.ref 143, .int x1, .int x2] [xI]) : Lok S c I lg M_L_strip M_X11_strip [.ref 0, .int x1, .int x2] [.ref 143, .int x1, .int x2] Int32.toInt64 := by
  refine Lok_of lg Int32.toInt64 hO (fun I1 r d hd h => w_strip hd h) (fun k E d hd hE h => ?_) (by decide) (Or.inl rfl)
  match k, hE with
  | 0, hE => cases hE; exact w_strip0 hd h
  | k + 1, hE => cases hE
theorem hd_ofScene_0 : m_Hd M_L_ofScene 5 "java/lang/IndexOutOfBoundsException" (nI 1) := ⟨[], [⟨0, 10, 17, 15⟩], ⟨0, 10, 13, 13⟩, "java/lang/IndexOutOfBoundsException", 4, 2, 1, rfl, (fun z hz => by cases hz), by decide, by decide, wl_13, wk_13, by decide, Or.inl ⟨dL_ofScene_13, rfl⟩, dL_ofScene_15, rfl, dL_ofScene_16, rfl⟩
theorem hd_ofScene_1 : m_Hd M_L_ofScene 5 "java/lang/IllegalArgumentException" (nI 2) := ⟨[⟨0, 10, 13, 13⟩], [], ⟨0, 10, 17, 15⟩, "java/lang/IllegalArgumentException", 4, 2, 2, rfl, (fun z hz => by simp only [List.mem_cons, List.not_mem_nil, or_false] at hz; subst hz; exact Or.inr ⟨by decide, _, wl_13, by decide⟩), by decide, by decide, wl_15, wk_15, by decide, Or.inl ⟨dL_ofScene_17, rfl⟩, dL_ofScene_19, rfl, dL_ofScene_20, rfl⟩
theorem w_ofScene {S : m_S} {I I1 : m_I} {lg : Int64} {d : Nat} {x1 x2 : Int32} {r : Int32} (hd : 10 ≤ d) (hc : m_R S M_X10_ofScene (d - 1) [.ref 0, .int x1, .int x2] (hh I lg) (some (.int r)) (hh I1 lg)) : m_RR S M_L_ofScene d [.ref 0, .int x1, .int x2, .ref 177] (hh I lg) (some (.int (nI 0))) (hh I1 r.toInt64) 1 6 := by
  refine ms_aload_n dL_ofScene_0 rfl ?_
  refine ms_iconst (v := nI 0) dL_ofScene_1 (by decide) ?_
  refine ms_aload_n dL_ofScene_2 rfl ?_
  refine ms_iload_n dL_ofScene_3 rfl ?_
  refine ms_iload_n dL_ofScene_4 rfl ?_
  refine qRV2 dL_ofScene_5 kL_79 (by show _ < 178; first | decide | exact lt_sc (by omega) | exact lt_dy (by omega)) (by show (sh0 _).1 = _; first | rfl | rw [sh_sc (by omega)] | rw [sh_dy (by omega)]) (d := d - 1) (by show d - 1 + 1 ≤ d; omega) rfl rfl (Nat.le_of_ble_eq_true rfl) (Nat.le_of_ble_eq_true rfl) (hc) rfl ?_
  refine ms_i2l dL_ofScene_8 ?_
  refine q_last dL_ofScene_9 ?_
  refine ms_goto (tgt := 21) dL_ofScene_10 (by decide) ?_
  refine ms_iconst (v := nI 0) dL_ofScene_21 (by decide) ?_
  refine ms_iret dL_ofScene_22 rfl rfl ⟨?_, ?_⟩
  · rfl
  · rfl
theorem w_ofScene0 {S : m_S} {I : m_I} {lg : Int64} {d : Nat} {x1 x2 : Int32} (hd : 10 ≤ d) (ht : m_T S M_X10_ofScene (d - 1) [.ref 0, .int x1, .int x2] (hh I lg) "java/lang/IndexOutOfBoundsException") : m_RR S M_L_ofScene d [.ref 0, .int x1, .int x2, .ref 177] (hh I lg) (some (.int (nI 1))) (hh I lg) 1 6 := by
  refine ms_aload_n dL_ofScene_0 rfl ?_
  refine ms_iconst (v := nI 0) dL_ofScene_1 (by decide) ?_
  refine ms_aload_n dL_ofScene_2 rfl ?_
  refine ms_iload_n dL_ofScene_3 rfl ?_
  refine ms_iload_n dL_ofScene_4 rfl ?_
  exact qTV2 dL_ofScene_5 kL_79 (by show _ < 178; first | decide | exact lt_sc (by omega) | exact lt_dy (by omega)) (by show (sh0 _).1 = _; first | rfl | rw [sh_sc (by omega)] | rw [sh_dy (by omega)]) (d := d - 1) (by show d - 1 + 1 ≤ d; omega) rfl rfl (Nat.le_of_ble_eq_true rfl) (Nat.le_of_ble_eq_true rfl) (ht) (by decide) (by decide) (Or.inr ⟨_, hd_ofScene_0, rfl, rfl⟩)
theorem w_ofScene1 {S : m_S} {I : m_I} {lg : Int64} {d : Nat} {x1 x2 : Int32} (hd : 10 ≤ d) (ht : m_T S M_X10_ofScene (d - 1) [.ref 0, .int x1, .int x2] (hh I lg) "java/lang/IllegalArgumentException") : m_RR S M_L_ofScene d [.ref 0, .int x1, .int x2, .ref 177] (hh I lg) (some (.int (nI 2))) (hh I lg) 1 6 := by
  refine ms_aload_n dL_ofScene_0 rfl ?_
  refine ms_iconst (v := nI 0) dL_ofScene_1 (by decide) ?_
  refine ms_aload_n dL_ofScene_2 rfl ?_
  refine ms_iload_n dL_ofScene_3 rfl ?_
  refine ms_iload_n dL_ofScene_4 rfl ?_
  exact qTV2 dL_ofScene_5 kL_79 (by show _ < 178; first | decide | exact lt_sc (by omega) | exact lt_dy (by omega)) (by show (sh0 _).1 = _; first | rfl | rw [sh_sc (by omega)] | rw [sh_dy (by omega)]) (d := d - 1) (by show d - 1 + 1 ≤ d; omega) rfl rfl (Nat.le_of_ble_eq_true rfl) (Nat.le_of_ble_eq_true rfl) (ht) (by decide) (by decide) (Or.inr ⟨_, hd_ofScene_1, rfl, rfl⟩)
theorem L_ofScene {S : m_S} {c : Nat} {I : m_I} {x1 x2 : Int32} (lg : Int64) (hO : Okc S c I M_X10_ofScene M_X11_ofScene [.ref 0, .int x1, .int x2] [.ref 143, .int x1, .int x2] [xI, xA]) : Lok S c I lg M_L_ofScene M_X11_ofScene [.ref 0, .int x1, .int x2] [.ref 143, .int x1, .int x2] Int32.toInt64 := by
  refine Lok_of lg Int32.toInt64 hO (fun I1 r d hd h => w_ofScene hd h) (fun k E d hd hE h => ?_) (by decide) (Or.inl rfl)
  match k, hE with
  | 0, hE => cases hE; exact w_ofScene0 hd h
  | 1, hE => cases hE; exact w_ofScene1 hd h
  | k + 2, hE => cases hE
theorem hd_call_0 : m_Hd M_L_call 7 "java/lang/IndexOutOfBoundsException" (nI 1) := ⟨[], [], ⟨0, 12, 15, 13⟩, "java/lang/IndexOutOfBoundsException", 5, 2, 1, rfl, (fun z hz => by cases hz), by decide, by decide, wl_13, wk_13, by decide, Or.inl ⟨dL_call_15, rfl⟩, dL_call_17, rfl, dL_call_18, rfl⟩
theorem w_call {S : m_S} {I I1 : m_I} {lg : Int64} {d : Nat} {x1 x2 x3 : Int32} {r : Int32} (hd : 10 ≤ d) (hc : m_R S M_X10_call (d - 1) [.ref 0, .int x1, .int x2, .int x3] (hh I lg) (some (.int r)) (hh I1 lg)) : m_RR S M_L_call d [.ref 0, .int x1, .int x2, .int x3, .ref 177] (hh I lg) (some (.int (nI 0))) (hh I1 r.toInt64) 1 6 := by
  refine ms_aload dL_call_0 rfl ?_
  refine ms_iconst (v := nI 0) dL_call_2 (by decide) ?_
  refine ms_aload_n dL_call_3 rfl ?_
  refine ms_iload_n dL_call_4 rfl ?_
  refine ms_iload_n dL_call_5 rfl ?_
  refine ms_iload_n dL_call_6 rfl ?_
  refine qRV3 dL_call_7 kL_82 (by show _ < 178; first | decide | exact lt_sc (by omega) | exact lt_dy (by omega)) (by show (sh0 _).1 = _; first | rfl | rw [sh_sc (by omega)] | rw [sh_dy (by omega)]) (d := d - 1) (by show d - 1 + 1 ≤ d; omega) rfl rfl rfl (Nat.le_of_ble_eq_true rfl) (Nat.le_of_ble_eq_true rfl) (hc) rfl ?_
  refine ms_i2l dL_call_10 ?_
  refine q_last dL_call_11 ?_
  refine ms_goto (tgt := 19) dL_call_12 (by decide) ?_
  refine ms_iconst (v := nI 0) dL_call_19 (by decide) ?_
  refine ms_iret dL_call_20 rfl rfl ⟨?_, ?_⟩
  · rfl
  · rfl
theorem w_call0 {S : m_S} {I : m_I} {lg : Int64} {d : Nat} {x1 x2 x3 : Int32} (hd : 10 ≤ d) (ht : m_T S M_X10_call (d - 1) [.ref 0, .int x1, .int x2, .int x3] (hh I lg) "java/lang/IndexOutOfBoundsException") : m_RR S M_L_call d [.ref 0, .int x1, .int x2, .int x3, .ref 177] (hh I lg) (some (.int (nI 1))) (hh I lg) 1 6 := by
  refine ms_aload dL_call_0 rfl ?_
  refine ms_iconst (v := nI 0) dL_call_2 (by decide) ?_
  refine ms_aload_n dL_call_3 rfl ?_
  refine ms_iload_n dL_call_4 rfl ?_
  refine ms_iload_n dL_call_5 rfl ?_
  refine ms_iload_n dL_call_6 rfl ?_
  exact qTV3 dL_call_7 kL_82 (by show _ < 178; first | decide | exact lt_sc (by omega) | exact lt_dy (by omega)) (by show (sh0 _).1 = _; first | rfl | rw [sh_sc (by omega)] | rw [sh_dy (by omega)]) (d := d - 1) (by show d - 1 + 1 ≤ d; omega) rfl rfl rfl (Nat.le_of_ble_eq_true rfl) (Nat.le_of_ble_eq_true rfl) (ht) (by decide) (by decide) (Or.inr ⟨_, hd_call_0, rfl, rfl⟩)
theorem L_call {S : m_S} {c : Nat} {I : m_I} {x1 x2 x3 : Int32} (lg : Int64) (hO : Okc S c I M_X10_call M_X11_call [.ref 0, .int x1, .int x2, .int x3] [.ref 143, .int x1, .int x2, .int x3] [xI]) : Lok S c I lg M_L_call M_X11_call [.ref 0, .int x1, .int x2, .int x3] [.ref 143, .int x1, .int x2, .int x3] Int32.toInt64 := by
  refine Lok_of lg Int32.toInt64 hO (fun I1 r d hd h => w_call hd h) (fun k E d hd hE h => ?_) (by decide) (Or.inl rfl)
  match k, hE with
  | 0, hE => cases hE; exact w_call0 hd h
  | k + 1, hE => cases hE
theorem hd_shoot_0 : m_Hd M_L_shoot 5 "java/lang/IndexOutOfBoundsException" (nI 1) := ⟨[], [⟨0, 10, 17, 15⟩, ⟨0, 10, 21, 17⟩], ⟨0, 10, 13, 13⟩, "java/lang/IndexOutOfBoundsException", 4, 2, 1, rfl, (fun z hz => by cases hz), by decide, by decide, wl_13, wk_13, by decide, Or.inl ⟨dL_shoot_13, rfl⟩, dL_shoot_15, rfl, dL_shoot_16, rfl⟩
theorem hd_shoot_1 : m_Hd M_L_shoot 5 "java/lang/IllegalArgumentException" (nI 2) := ⟨[⟨0, 10, 13, 13⟩], [⟨0, 10, 21, 17⟩], ⟨0, 10, 17, 15⟩, "java/lang/IllegalArgumentException", 4, 2, 2, rfl, (fun z hz => by simp only [List.mem_cons, List.not_mem_nil, or_false] at hz; subst hz; exact Or.inr ⟨by decide, _, wl_13, by decide⟩), by decide, by decide, wl_15, wk_15, by decide, Or.inl ⟨dL_shoot_17, rfl⟩, dL_shoot_19, rfl, dL_shoot_20, rfl⟩
theorem hd_shoot_2 : m_Hd M_L_shoot 5 "java/lang/IllegalStateException" (nI 3) := ⟨[⟨0, 10, 13, 13⟩, ⟨0, 10, 17, 15⟩], [], ⟨0, 10, 21, 17⟩, "java/lang/IllegalStateException", 4, 2, 3, rfl, (fun z hz => by
    simp only [List.mem_cons, List.not_mem_nil, or_false] at hz
    rcases hz with rfl | rfl
    · exact Or.inr ⟨by decide, _, wl_13, by decide⟩
    · exact Or.inr ⟨by decide, _, wl_15, by decide⟩), by decide, by decide, wl_17, wk_17, by decide, Or.inl ⟨dL_shoot_21, rfl⟩, dL_shoot_23, rfl, dL_shoot_24, rfl⟩
theorem w_shoot {S : m_S} {I I1 : m_I} {lg : Int64} {d : Nat} {x1 x2 : Int32} {r : Int32} (hd : 10 ≤ d) (hc : m_R S M_X10_shoot (d - 1) [.ref 0, .int x1, .int x2] (hh I lg) (some (.int r)) (hh I1 lg)) : m_RR S M_L_shoot d [.ref 0, .int x1, .int x2, .ref 177] (hh I lg) (some (.int (nI 0))) (hh I1 r.toInt64) 1 6 := by
  refine ms_aload_n dL_shoot_0 rfl ?_
  refine ms_iconst (v := nI 0) dL_shoot_1 (by decide) ?_
  refine ms_aload_n dL_shoot_2 rfl ?_
  refine ms_iload_n dL_shoot_3 rfl ?_
  refine ms_iload_n dL_shoot_4 rfl ?_
  refine qRV2 dL_shoot_5 kL_85 (by show _ < 178; first | decide | exact lt_sc (by omega) | exact lt_dy (by omega)) (by show (sh0 _).1 = _; first | rfl | rw [sh_sc (by omega)] | rw [sh_dy (by omega)]) (d := d - 1) (by show d - 1 + 1 ≤ d; omega) rfl rfl (Nat.le_of_ble_eq_true rfl) (Nat.le_of_ble_eq_true rfl) (hc) rfl ?_
  refine ms_i2l dL_shoot_8 ?_
  refine q_last dL_shoot_9 ?_
  refine ms_goto (tgt := 25) dL_shoot_10 (by decide) ?_
  refine ms_iconst (v := nI 0) dL_shoot_25 (by decide) ?_
  refine ms_iret dL_shoot_26 rfl rfl ⟨?_, ?_⟩
  · rfl
  · rfl
theorem w_shoot0 {S : m_S} {I : m_I} {lg : Int64} {d : Nat} {x1 x2 : Int32} (hd : 10 ≤ d) (ht : m_T S M_X10_shoot (d - 1) [.ref 0, .int x1, .int x2] (hh I lg) "java/lang/IndexOutOfBoundsException") : m_RR S M_L_shoot d [.ref 0, .int x1, .int x2, .ref 177] (hh I lg) (some (.int (nI 1))) (hh I lg) 1 6 := by
  refine ms_aload_n dL_shoot_0 rfl ?_
  refine ms_iconst (v := nI 0) dL_shoot_1 (by decide) ?_
  refine ms_aload_n dL_shoot_2 rfl ?_
  refine ms_iload_n dL_shoot_3 rfl ?_
  refine ms_iload_n dL_shoot_4 rfl ?_
  exact qTV2 dL_shoot_5 kL_85 (by show _ < 178; first | decide | exact lt_sc (by omega) | exact lt_dy (by omega)) (by show (sh0 _).1 = _; first | rfl | rw [sh_sc (by omega)] | rw [sh_dy (by omega)]) (d := d - 1) (by show d - 1 + 1 ≤ d; omega) rfl rfl (Nat.le_of_ble_eq_true rfl) (Nat.le_of_ble_eq_true rfl) (ht) (by decide) (by decide) (Or.inr ⟨_, hd_shoot_0, rfl, rfl⟩)
theorem w_shoot1 {S : m_S} {I : m_I} {lg : Int64} {d : Nat} {x1 x2 : Int32} (hd : 10 ≤ d) (ht : m_T S M_X10_shoot (d - 1) [.ref 0, .int x1, .int x2] (hh I lg) "java/lang/IllegalArgumentException") : m_RR S M_L_shoot d [.ref 0, .int x1, .int x2, .ref 177] (hh I lg) (some (.int (nI 2))) (hh I lg) 1 6 := by
  refine ms_aload_n dL_shoot_0 rfl ?_
  refine ms_iconst (v := nI 0) dL_shoot_1 (by decide) ?_
  refine ms_aload_n dL_shoot_2 rfl ?_
  refine ms_iload_n dL_shoot_3 rfl ?_
  refine ms_iload_n dL_shoot_4 rfl ?_
  exact qTV2 dL_shoot_5 kL_85 (by show _ < 178; first | decide | exact lt_sc (by omega) | exact lt_dy (by omega)) (by show (sh0 _).1 = _; first | rfl | rw [sh_sc (by omega)] | rw [sh_dy (by omega)]) (d := d - 1) (by show d - 1 + 1 ≤ d; omega) rfl rfl (Nat.le_of_ble_eq_true rfl) (Nat.le_of_ble_eq_true rfl) (ht) (by decide) (by decide) (Or.inr ⟨_, hd_shoot_1, rfl, rfl⟩)
theorem w_shoot2 {S : m_S} {I : m_I} {lg : Int64} {d : Nat} {x1 x2 : Int32} (hd : 10 ≤ d) (ht : m_T S M_X10_shoot (d - 1) [.ref 0, .int x1, .int x2] (hh I lg) "java/lang/IllegalStateException") : m_RR S M_L_shoot d [.ref 0, .int x1, .int x2, .ref 177] (hh I lg) (some (.int (nI 3))) (hh I lg) 1 6 := by
  refine ms_aload_n dL_shoot_0 rfl ?_
  refine ms_iconst (v := nI 0) dL_shoot_1 (by decide) ?_
  refine ms_aload_n dL_shoot_2 rfl ?_
  refine ms_iload_n dL_shoot_3 rfl ?_
  refine ms_iload_n dL_shoot_4 rfl ?_
  exact qTV2 dL_shoot_5 kL_85 (by show _ < 178; first | decide | exact lt_sc (by omega) | exact lt_dy (by omega)) (by show (sh0 _).1 = _; first | rfl | rw [sh_sc (by omega)] | rw [sh_dy (by omega)]) (d := d - 1) (by show d - 1 + 1 ≤ d; omega) rfl rfl (Nat.le_of_ble_eq_true rfl) (Nat.le_of_ble_eq_true rfl) (ht) (by decide) (by decide) (Or.inr ⟨_, hd_shoot_2, rfl, rfl⟩)
theorem L_shoot {S : m_S} {c : Nat} {I : m_I} {x1 x2 : Int32} (lg : Int64) (hO : Okc S c I M_X10_shoot M_X11_shoot [.ref 0, .int x1, .int x2] [.ref 143, .int x1, .int x2] [xI, xA, xS]) : Lok S c I lg M_L_shoot M_X11_shoot [.ref 0, .int x1, .int x2] [.ref 143, .int x1, .int x2] Int32.toInt64 := by
  refine Lok_of lg Int32.toInt64 hO (fun I1 r d hd h => w_shoot hd h) (fun k E d hd hE h => ?_) (by decide) (Or.inl rfl)
  match k, hE with
  | 0, hE => cases hE; exact w_shoot0 hd h
  | 1, hE => cases hE; exact w_shoot1 hd h
  | 2, hE => cases hE; exact w_shoot2 hd h
  | k + 3, hE => cases hE
theorem hd_lose_0 : m_Hd M_L_lose 4 "java/lang/IndexOutOfBoundsException" (nI 1) := ⟨[], [⟨0, 9, 15, 17⟩], ⟨0, 9, 12, 13⟩, "java/lang/IndexOutOfBoundsException", 3, 1, 1, rfl, (fun z hz => by cases hz), by decide, by decide, wl_13, wk_13, by decide, Or.inr ⟨⟨3, by decide⟩, dL_lose_12, rfl, rfl⟩, dL_lose_13, rfl, dL_lose_14, rfl⟩
theorem hd_lose_1 : m_Hd M_L_lose 4 "java/lang/IllegalStateException" (nI 2) := ⟨[⟨0, 9, 12, 13⟩], [], ⟨0, 9, 15, 17⟩, "java/lang/IllegalStateException", 3, 1, 2, rfl, (fun z hz => by simp only [List.mem_cons, List.not_mem_nil, or_false] at hz; subst hz; exact Or.inr ⟨by decide, _, wl_13, by decide⟩), by decide, by decide, wl_17, wk_17, by decide, Or.inr ⟨⟨3, by decide⟩, dL_lose_15, rfl, rfl⟩, dL_lose_16, rfl, dL_lose_17, rfl⟩
theorem w_lose {S : m_S} {I I1 : m_I} {lg : Int64} {d : Nat} {x1 : Int32} {r : Int32} (hd : 10 ≤ d) (hc : m_R S M_X10_lose (d - 1) [.ref 0, .int x1] (hh I lg) (some (.int r)) (hh I1 lg)) : m_RR S M_L_lose d [.ref 0, .int x1, .ref 177] (hh I lg) (some (.int (nI 0))) (hh I1 r.toInt64) 1 6 := by
  refine ms_aload_n dL_lose_0 rfl ?_
  refine ms_iconst (v := nI 0) dL_lose_1 (by decide) ?_
  refine ms_aload_n dL_lose_2 rfl ?_
  refine ms_iload_n dL_lose_3 rfl ?_
  refine qRV1 dL_lose_4 kL_88 (by show _ < 178; first | decide | exact lt_sc (by omega) | exact lt_dy (by omega)) (by show (sh0 _).1 = _; first | rfl | rw [sh_sc (by omega)] | rw [sh_dy (by omega)]) (d := d - 1) (by show d - 1 + 1 ≤ d; omega) rfl (Nat.le_of_ble_eq_true rfl) (Nat.le_of_ble_eq_true rfl) (hc) rfl ?_
  refine ms_i2l dL_lose_7 ?_
  refine q_last dL_lose_8 ?_
  refine ms_goto (tgt := 18) dL_lose_9 (by decide) ?_
  refine ms_iconst (v := nI 0) dL_lose_18 (by decide) ?_
  refine ms_iret dL_lose_19 rfl rfl ⟨?_, ?_⟩
  · rfl
  · rfl
theorem w_lose0 {S : m_S} {I : m_I} {lg : Int64} {d : Nat} {x1 : Int32} (hd : 10 ≤ d) (ht : m_T S M_X10_lose (d - 1) [.ref 0, .int x1] (hh I lg) "java/lang/IndexOutOfBoundsException") : m_RR S M_L_lose d [.ref 0, .int x1, .ref 177] (hh I lg) (some (.int (nI 1))) (hh I lg) 1 6 := by
  refine ms_aload_n dL_lose_0 rfl ?_
  refine ms_iconst (v := nI 0) dL_lose_1 (by decide) ?_
  refine ms_aload_n dL_lose_2 rfl ?_
  refine ms_iload_n dL_lose_3 rfl ?_
  exact qTV1 dL_lose_4 kL_88 (by show _ < 178; first | decide | exact lt_sc (by omega) | exact lt_dy (by omega)) (by show (sh0 _).1 = _; first | rfl | rw [sh_sc (by omega)] | rw [sh_dy (by omega)]) (d := d - 1) (by show d - 1 + 1 ≤ d; omega) rfl (Nat.le_of_ble_eq_true rfl) (Nat.le_of_ble_eq_true rfl) (ht) (by decide) (by decide) (Or.inr ⟨_, hd_lose_0, rfl, rfl⟩)
theorem w_lose1 {S : m_S} {I : m_I} {lg : Int64} {d : Nat} {x1 : Int32} (hd : 10 ≤ d) (ht : m_T S M_X10_lose (d - 1) [.ref 0, .int x1] (hh I lg) "java/lang/IllegalStateException") : m_RR S M_L_lose d [.ref 0, .int x1, .ref 177] (hh I lg) (some (.int (nI 2))) (hh I lg) 1 6 := by
  refine ms_aload_n dL_lose_0 rfl ?_
  refine ms_iconst (v := nI 0) dL_lose_1 (by decide) ?_
  refine ms_aload_n dL_lose_2 rfl ?_
  refine ms_iload_n dL_lose_3 rfl ?_
  exact qTV1 dL_lose_4 kL_88 (by show _ < 178; first | decide | exact lt_sc (by omega) | exact lt_dy (by omega)) (by show (sh0 _).1 = _; first | rfl | rw [sh_sc (by omega)] | rw [sh_dy (by omega)]) (d := d - 1) (by show d - 1 + 1 ≤ d; omega) rfl (Nat.le_of_ble_eq_true rfl) (Nat.le_of_ble_eq_true rfl) (ht) (by decide) (by decide) (Or.inr ⟨_, hd_lose_1, rfl, rfl⟩)
theorem L_lose {S : m_S} {c : Nat} {I : m_I} {x1 : Int32} (lg : Int64) (hO : Okc S c I M_X10_lose M_X11_lose [.ref 0, .int x1] [.ref 143, .int x1] [xI, xS]) : Lok S c I lg M_L_lose M_X11_lose [.ref 0, .int x1] [.ref 143, .int x1] Int32.toInt64 := by
  refine Lok_of lg Int32.toInt64 hO (fun I1 r d hd h => w_lose hd h) (fun k E d hd hE h => ?_) (by decide) (Or.inl rfl)
  match k, hE with
  | 0, hE => cases hE; exact w_lose0 hd h
  | 1, hE => cases hE; exact w_lose1 hd h
  | k + 2, hE => cases hE
theorem hd_next_0 : m_Hd M_L_next 3 "java/lang/IllegalStateException" (nI 1) := ⟨[], [], ⟨0, 8, 11, 17⟩, "java/lang/IllegalStateException", 2, 1, 1, rfl, (fun z hz => by cases hz), by decide, by decide, wl_17, wk_17, by decide, Or.inr ⟨⟨2, by decide⟩, dL_next_11, rfl, rfl⟩, dL_next_12, rfl, dL_next_13, rfl⟩
theorem w_next {S : m_S} {I I1 : m_I} {lg : Int64} {d : Nat} {r : Int32} (hd : 10 ≤ d) (hc : m_R S M_X10_next (d - 1) [.ref 0] (hh I lg) (some (.int r)) (hh I1 lg)) : m_RR S M_L_next d [.ref 0, .ref 177] (hh I lg) (some (.int (nI 0))) (hh I1 r.toInt64) 1 6 := by
  refine ms_aload_n dL_next_0 rfl ?_
  refine ms_iconst (v := nI 0) dL_next_1 (by decide) ?_
  refine ms_aload_n dL_next_2 rfl ?_
  refine qRV0 dL_next_3 kL_91 (by show _ < 178; first | decide | exact lt_sc (by omega) | exact lt_dy (by omega)) (by show (sh0 _).1 = _; first | rfl | rw [sh_sc (by omega)] | rw [sh_dy (by omega)]) (d := d - 1) (by show d - 1 + 1 ≤ d; omega)  (Nat.le_of_ble_eq_true rfl) (Nat.le_of_ble_eq_true rfl) (hc) rfl ?_
  refine ms_i2l dL_next_6 ?_
  refine q_last dL_next_7 ?_
  refine ms_goto (tgt := 14) dL_next_8 (by decide) ?_
  refine ms_iconst (v := nI 0) dL_next_14 (by decide) ?_
  refine ms_iret dL_next_15 rfl rfl ⟨?_, ?_⟩
  · rfl
  · rfl
theorem w_next0 {S : m_S} {I : m_I} {lg : Int64} {d : Nat} (hd : 10 ≤ d) (ht : m_T S M_X10_next (d - 1) [.ref 0] (hh I lg) "java/lang/IllegalStateException") : m_RR S M_L_next d [.ref 0, .ref 177] (hh I lg) (some (.int (nI 1))) (hh I lg) 1 6 := by
  refine ms_aload_n dL_next_0 rfl ?_
  refine ms_iconst (v := nI 0) dL_next_1 (by decide) ?_
  refine ms_aload_n dL_next_2 rfl ?_
  exact qTV0 dL_next_3 kL_91 (by show _ < 178; first | decide | exact lt_sc (by omega) | exact lt_dy (by omega)) (by show (sh0 _).1 = _; first | rfl | rw [sh_sc (by omega)] | rw [sh_dy (by omega)]) (d := d - 1) (by show d - 1 + 1 ≤ d; omega)  (Nat.le_of_ble_eq_true rfl) (Nat.le_of_ble_eq_true rfl) (ht) (by decide) (by decide) (Or.inr ⟨_, hd_next_0, rfl, rfl⟩)
theorem L_next {S : m_S} {c : Nat} {I : m_I} (lg : Int64) (hO : Okc S c I M_X10_next M_X11_next [.ref 0] [.ref 143] [xS]) : Lok S c I lg M_L_next M_X11_next [.ref 0] [.ref 143] Int32.toInt64 := by
  refine Lok_of lg Int32.toInt64 hO (fun I1 r d hd h => w_next hd h) (fun k E d hd hE h => ?_) (by decide) (Or.inl rfl)
  match k, hE with
  | 0, hE => cases hE; exact w_next0 hd h
  | k + 1, hE => cases hE
theorem hd_pay_0 : m_Hd M_L_pay 5 "java/lang/IndexOutOfBoundsException" (nI 1) := ⟨[], [], ⟨0, 10, 13, 13⟩, "java/lang/IndexOutOfBoundsException", 4, 2, 1, rfl, (fun z hz => by cases hz), by decide, by decide, wl_13, wk_13, by decide, Or.inl ⟨dL_pay_13, rfl⟩, dL_pay_15, rfl, dL_pay_16, rfl⟩
theorem w_pay {S : m_S} {I I1 : m_I} {lg : Int64} {d : Nat} {x1 x2 : Int32} {r : Int32} (hd : 10 ≤ d) (hc : m_R S M_X10_pay (d - 1) [.ref 0, .int x1, .int x2] (hh I lg) (some (.int r)) (hh I1 lg)) : m_RR S M_L_pay d [.ref 0, .int x1, .int x2, .ref 177] (hh I lg) (some (.int (nI 0))) (hh I1 r.toInt64) 1 6 := by
  refine ms_aload_n dL_pay_0 rfl ?_
  refine ms_iconst (v := nI 0) dL_pay_1 (by decide) ?_
  refine ms_aload_n dL_pay_2 rfl ?_
  refine ms_iload_n dL_pay_3 rfl ?_
  refine ms_iload_n dL_pay_4 rfl ?_
  refine qRV2 dL_pay_5 kL_94 (by show _ < 178; first | decide | exact lt_sc (by omega) | exact lt_dy (by omega)) (by show (sh0 _).1 = _; first | rfl | rw [sh_sc (by omega)] | rw [sh_dy (by omega)]) (d := d - 1) (by show d - 1 + 1 ≤ d; omega) rfl rfl (Nat.le_of_ble_eq_true rfl) (Nat.le_of_ble_eq_true rfl) (hc) rfl ?_
  refine ms_i2l dL_pay_8 ?_
  refine q_last dL_pay_9 ?_
  refine ms_goto (tgt := 17) dL_pay_10 (by decide) ?_
  refine ms_iconst (v := nI 0) dL_pay_17 (by decide) ?_
  refine ms_iret dL_pay_18 rfl rfl ⟨?_, ?_⟩
  · rfl
  · rfl
theorem w_pay0 {S : m_S} {I : m_I} {lg : Int64} {d : Nat} {x1 x2 : Int32} (hd : 10 ≤ d) (ht : m_T S M_X10_pay (d - 1) [.ref 0, .int x1, .int x2] (hh I lg) "java/lang/IndexOutOfBoundsException") : m_RR S M_L_pay d [.ref 0, .int x1, .int x2, .ref 177] (hh I lg) (some (.int (nI 1))) (hh I lg) 1 6 := by
  refine ms_aload_n dL_pay_0 rfl ?_
  refine ms_iconst (v := nI 0) dL_pay_1 (by decide) ?_
  refine ms_aload_n dL_pay_2 rfl ?_
  refine ms_iload_n dL_pay_3 rfl ?_
  refine ms_iload_n dL_pay_4 rfl ?_
  exact qTV2 dL_pay_5 kL_94 (by show _ < 178; first | decide | exact lt_sc (by omega) | exact lt_dy (by omega)) (by show (sh0 _).1 = _; first | rfl | rw [sh_sc (by omega)] | rw [sh_dy (by omega)]) (d := d - 1) (by show d - 1 + 1 ≤ d; omega) rfl rfl (Nat.le_of_ble_eq_true rfl) (Nat.le_of_ble_eq_true rfl) (ht) (by decide) (by decide) (Or.inr ⟨_, hd_pay_0, rfl, rfl⟩)
theorem L_pay {S : m_S} {c : Nat} {I : m_I} {x1 x2 : Int32} (lg : Int64) (hO : Okc S c I M_X10_pay M_X11_pay [.ref 0, .int x1, .int x2] [.ref 143, .int x1, .int x2] [xI]) : Lok S c I lg M_L_pay M_X11_pay [.ref 0, .int x1, .int x2] [.ref 143, .int x1, .int x2] Int32.toInt64 := by
  refine Lok_of lg Int32.toInt64 hO (fun I1 r d hd h => w_pay hd h) (fun k E d hd hE h => ?_) (by decide) (Or.inl rfl)
  match k, hE with
  | 0, hE => cases hE; exact w_pay0 hd h
  | k + 1, hE => cases hE

