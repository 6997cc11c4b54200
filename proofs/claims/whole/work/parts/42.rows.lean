/-! rows of numbers: a place is made, a place goes, a row is filled -/
/-- the places lo + 1 .. hi of the thing t hold what stood one ahead -/
def shI (I : m_I) (t lo hi : Nat) : m_I := fun a b => if a = t ∧ lo < b ∧ b ≤ hi then I t (b - 1) else I a b
theorem shI_0 (I : m_I) (t n : Nat) : shI I t n n = I := by
  funext a b
  unfold shI
  rw [if_neg (by omega)]
theorem shI_step (I : m_I) {t lo hi : Nat} (h : lo + 1 ≤ hi) : m_up2 (shI I t (lo + 1) hi) t (lo + 1) ((shI I t (lo + 1) hi) t lo) = shI I t lo hi := by
  funext a b
  unfold m_up2 shI
  by_cases e : a = t ∧ b = lo + 1
  · rw [if_pos e, if_neg (by omega), if_pos (by omega), e.2]
    rfl
  · rw [if_neg e]
    by_cases e2 : a = t ∧ lo + 1 < b ∧ b ≤ hi
    · rw [if_pos e2, if_pos (by omega)]
    · rw [if_neg e2, if_neg (by omega)]
theorem shI_ne {I : m_I} {t lo hi a b : Nat} (h : a ≠ t) : shI I t lo hi a b = I a b := if_neg (fun z => h z.1)
theorem shI_lo {I : m_I} {t lo hi b : Nat} (h : b ≤ lo) : shI I t lo hi t b = I t b := if_neg (by omega)
theorem shI_in {I : m_I} {t lo hi b : Nat} (h : lo < b) (h2 : b ≤ hi) : shI I t lo hi t b = I t (b - 1) := if_pos ⟨rfl, h, h2⟩
/-- the places j .. n - 2 of t hold what stood one behind -/
def deI (I : m_I) (t j n : Nat) : m_I := fun a b => if a = t ∧ j ≤ b ∧ b + 1 < n then I t (b + 1) else I a b
theorem deI_0 (I : m_I) (t j : Nat) : deI I t j (j + 1) = I := by
  funext a b
  unfold deI
  rw [if_neg (by omega)]
theorem deI_step (I : m_I) {t j n : Nat} (h : j < n) : m_up2 (deI I t j n) t (n - 1) ((deI I t j n) t n) = deI I t j (n + 1) := by
  funext a b
  unfold m_up2 deI
  by_cases e : a = t ∧ b = n - 1
  · rw [if_pos e, if_neg (by omega), if_pos (by omega), e.2]
    congr 1
    omega
  · rw [if_neg e]
    by_cases e2 : a = t ∧ j ≤ b ∧ b + 1 < n
    · rw [if_pos e2, if_pos (by omega)]
    · rw [if_neg e2, if_neg (by omega)]
theorem deI_ne {I : m_I} {t j n a b : Nat} (h : a ≠ t) : deI I t j n a b = I a b := if_neg (fun z => h z.1)
theorem deI_lo {I : m_I} {t j n b : Nat} (h : b < j) : deI I t j n t b = I t b := if_neg (by omega)
theorem deI_in {I : m_I} {t j n b : Nat} (h : j ≤ b) (h2 : b + 1 < n) : deI I t j n t b = I t (b + 1) := if_pos ⟨rfl, h, h2⟩
theorem deI_hi {I : m_I} {t j n b : Nat} (h : n ≤ b + 1) : deI I t j n t b = I t b := if_neg (by omega)
theorem m_up2_id (I : m_I) (t k : Nat) : m_up2 I t k (I t k) = I := by
  funext a b
  unfold m_up2
  split
  · next h => rw [h.1, h.2]
  · rfl
/-- the first n places of t hold v -/
def flI (I : m_I) (t n : Nat) (v : Int32) : m_I := fun a b => if a = t ∧ b < n then v else I a b
theorem flI_0 (I : m_I) (t : Nat) (v : Int32) : flI I t 0 v = I := by
  funext a b
  unfold flI
  rw [if_neg (by omega)]
theorem flI_step (I : m_I) (t n : Nat) (v : Int32) : m_up2 (flI I t n v) t n v = flI I t (n + 1) v := by
  funext a b
  unfold m_up2 flI
  by_cases e : a = t ∧ b = n
  · rw [if_pos e, if_pos (by omega)]
  · rw [if_neg e]
    by_cases e2 : a = t ∧ b < n
    · rw [if_pos e2, if_pos (by omega)]
    · rw [if_neg e2, if_neg (by omega)]
/-! Crew, Places, Pace, Day -/
theorem k_crewAdd {S : m_S} {I : m_I} {lg : Int64} {d n : Nat} (hd : 2 ≤ d) (hn : I 65 4 = nI n) (hn2 : n < 8) (x1 x2 x3 : Int32) (c : Bool) : m_R S M_X2_add d [.ref 65, .int x1, .int x2, .int x3, .int (bi c)] (hh I lg) (some (.int (nI n))) (hh (m_up2 (m_up2 (m_up2 (m_up2 (m_up2 I 66 n x1) 67 n x2) 68 n x3) 65 3 (wb (I 65 3) n c)) 65 4 (nI (n + 1))) lg) := by
  refine ms_aload_n dX2_add_0 rfl ?_
  refine q_getr dX2_add_1 fX2_9 kd_2_0 (by first | decide | exact lt_sc (by omega) | exact lt_dy (by omega) | exact lt_rw (by omega) | exact lt_wa (by omega) | exact lt_le (by omega)) (by first | rfl | rw [sh_sc (by omega)] | rw [sh_dy (by omega)]) (by first | rfl | exact rf_wa (by omega) | exact rf_le (by omega) | exact rf_rw (by omega)) ?_
  refine ms_aload_n dX2_add_4 rfl ?_
  refine q_geti dX2_add_5 fX2_21 (by rw [kd_2_4]; decide) (by first | decide | exact lt_sc (by omega) | exact lt_dy (by omega) | exact lt_rw (by omega) | exact lt_wa (by omega) | exact lt_le (by omega)) (by first | rfl | rw [sh_sc (by omega)] | rw [sh_dy (by omega)]) (by first | assumption | ((repeat ((with_reducible apply m_up2_tr); · first | omega | (intro z; (try unfold scI at z); (try unfold dyI at z); (try unfold rwI at z); (try unfold waI at z); (try unfold leI at z); omega))); first | assumption | exact m_up2_eq | rfl)) ?_
  refine ms_iload_n dX2_add_8 rfl ?_
  refine q_iast dX2_add_9 (by first | decide | exact lt_sc (by omega) | exact lt_dy (by omega) | exact lt_rw (by omega) | exact lt_wa (by omega) | exact lt_le (by omega)) (by first | rfl | exact sh_rw (by omega) | exact sh_wa (by omega) | exact sh_le (by omega)) (by omega) (by decide) ?_
  refine ms_aload_n dX2_add_10 rfl ?_
  refine q_getr dX2_add_11 fX2_15 kd_2_1 (by first | decide | exact lt_sc (by omega) | exact lt_dy (by omega) | exact lt_rw (by omega) | exact lt_wa (by omega) | exact lt_le (by omega)) (by first | rfl | rw [sh_sc (by omega)] | rw [sh_dy (by omega)]) (by first | rfl | exact rf_wa (by omega) | exact rf_le (by omega) | exact rf_rw (by omega)) ?_
  refine ms_aload_n dX2_add_14 rfl ?_
  refine q_geti dX2_add_15 fX2_21 (by rw [kd_2_4]; decide) (by first | decide | exact lt_sc (by omega) | exact lt_dy (by omega) | exact lt_rw (by omega) | exact lt_wa (by omega) | exact lt_le (by omega)) (by first | rfl | rw [sh_sc (by omega)] | rw [sh_dy (by omega)]) (by first | assumption | ((repeat ((with_reducible apply m_up2_tr); · first | omega | (intro z; (try unfold scI at z); (try unfold dyI at z); (try unfold rwI at z); (try unfold waI at z); (try unfold leI at z); omega))); first | assumption | exact m_up2_eq | rfl)) ?_
  refine ms_iload_n dX2_add_18 rfl ?_
  refine q_iast dX2_add_19 (by first | decide | exact lt_sc (by omega) | exact lt_dy (by omega) | exact lt_rw (by omega) | exact lt_wa (by omega) | exact lt_le (by omega)) (by first | rfl | exact sh_rw (by omega) | exact sh_wa (by omega) | exact sh_le (by omega)) (by omega) (by decide) ?_
  refine ms_aload_n dX2_add_20 rfl ?_
  refine q_getr dX2_add_21 fX2_18 kd_2_2 (by first | decide | exact lt_sc (by omega) | exact lt_dy (by omega) | exact lt_rw (by omega) | exact lt_wa (by omega) | exact lt_le (by omega)) (by first | rfl | rw [sh_sc (by omega)] | rw [sh_dy (by omega)]) (by first | rfl | exact rf_wa (by omega) | exact rf_le (by omega) | exact rf_rw (by omega)) ?_
  refine ms_aload_n dX2_add_24 rfl ?_
  refine q_geti dX2_add_25 fX2_21 (by rw [kd_2_4]; decide) (by first | decide | exact lt_sc (by omega) | exact lt_dy (by omega) | exact lt_rw (by omega) | exact lt_wa (by omega) | exact lt_le (by omega)) (by first | rfl | rw [sh_sc (by omega)] | rw [sh_dy (by omega)]) (by first | assumption | ((repeat ((with_reducible apply m_up2_tr); · first | omega | (intro z; (try unfold scI at z); (try unfold dyI at z); (try unfold rwI at z); (try unfold waI at z); (try unfold leI at z); omega))); first | assumption | exact m_up2_eq | rfl)) ?_
  refine ms_iload_n dX2_add_28 rfl ?_
  refine q_iast dX2_add_29 (by first | decide | exact lt_sc (by omega) | exact lt_dy (by omega) | exact lt_rw (by omega) | exact lt_wa (by omega) | exact lt_le (by omega)) (by first | rfl | exact sh_rw (by omega) | exact sh_wa (by omega) | exact sh_le (by omega)) (by omega) (by decide) ?_
  refine ms_aload_n dX2_add_30 rfl ?_
  refine ms_aload_n dX2_add_31 rfl ?_
  refine q_geti dX2_add_32 fX2_25 (by rw [kd_2_3]; decide) (by first | decide | exact lt_sc (by omega) | exact lt_dy (by omega) | exact lt_rw (by omega) | exact lt_wa (by omega) | exact lt_le (by omega)) (by first | rfl | rw [sh_sc (by omega)] | rw [sh_dy (by omega)]) (by first | assumption | ((repeat ((with_reducible apply m_up2_tr); · first | omega | (intro z; (try unfold scI at z); (try unfold dyI at z); (try unfold rwI at z); (try unfold waI at z); (try unfold leI at z); omega))); first | assumption | exact m_up2_eq | rfl)) ?_
  refine ms_aload_n dX2_add_35 rfl ?_
  refine q_geti dX2_add_36 fX2_21 (by rw [kd_2_4]; decide) (by first | decide | exact lt_sc (by omega) | exact lt_dy (by omega) | exact lt_rw (by omega) | exact lt_wa (by omega) | exact lt_le (by omega)) (by first | rfl | rw [sh_sc (by omega)] | rw [sh_dy (by omega)]) (by first | assumption | ((repeat ((with_reducible apply m_up2_tr); · first | omega | (intro z; (try unfold scI at z); (try unfold dyI at z); (try unfold rwI at z); (try unfold waI at z); (try unfold leI at z); omega))); first | assumption | exact m_up2_eq | rfl)) ?_
  refine ms_iload dX2_add_39 rfl ?_
  refine qRN3 dX2_add_41 kX2_28 (d := d - 1) (by show d - 1 + 1 ≤ d; omega) rfl rfl rfl (Nat.le_of_ble_eq_true rfl) (Nat.le_of_ble_eq_true rfl) (k_withBit _ c) rfl ?_
  refine q_puti dX2_add_44 fX2_25 pX2_2_3 kd_2_3 (by first | decide | exact lt_sc (by omega) | exact lt_dy (by omega) | exact lt_rw (by omega) | exact lt_wa (by omega) | exact lt_le (by omega)) (by first | rfl | rw [sh_sc (by omega)] | rw [sh_dy (by omega)]) ?_
  refine ms_aload_n dX2_add_47 rfl ?_
  refine ms_dup dX2_add_48 rfl ?_
  refine q_geti dX2_add_49 fX2_21 (by rw [kd_2_4]; decide) (by first | decide | exact lt_sc (by omega) | exact lt_dy (by omega) | exact lt_rw (by omega) | exact lt_wa (by omega) | exact lt_le (by omega)) (by first | rfl | rw [sh_sc (by omega)] | rw [sh_dy (by omega)]) (by first | assumption | ((repeat ((with_reducible apply m_up2_tr); · first | omega | (intro z; (try unfold scI at z); (try unfold dyI at z); (try unfold rwI at z); (try unfold waI at z); (try unfold leI at z); omega))); first | assumption | exact m_up2_eq | rfl)) ?_
  refine ms_iconst (v := nI 1) dX2_add_52 (by decide) ?_
  refine n_iadd dX2_add_53 ?_
  refine q_puti dX2_add_54 fX2_21 pX2_2_4 kd_2_4 (by first | decide | exact lt_sc (by omega) | exact lt_dy (by omega) | exact lt_rw (by omega) | exact lt_wa (by omega) | exact lt_le (by omega)) (by first | rfl | rw [sh_sc (by omega)] | rw [sh_dy (by omega)]) ?_
  refine ms_aload_n dX2_add_57 rfl ?_
  refine q_geti dX2_add_58 fX2_21 (by rw [kd_2_4]; decide) (by first | decide | exact lt_sc (by omega) | exact lt_dy (by omega) | exact lt_rw (by omega) | exact lt_wa (by omega) | exact lt_le (by omega)) (by first | rfl | rw [sh_sc (by omega)] | rw [sh_dy (by omega)]) (by first | assumption | ((repeat ((with_reducible apply m_up2_tr); · first | omega | (intro z; (try unfold scI at z); (try unfold dyI at z); (try unfold rwI at z); (try unfold waI at z); (try unfold leI at z); omega))); first | assumption | exact m_up2_eq | rfl)) ?_
  refine ms_iconst (v := nI 1) dX2_add_61 (by decide) ?_
  refine n_isub dX2_add_62 (by omega) ?_
  refine ms_iret dX2_add_63 rfl rfl ⟨?_, ?_⟩
  · rfl
  · rfl
theorem k_placesAdd {S : m_S} {I : m_I} {lg : Int64} {d n : Nat} (hn : I 69 2 = nI n) (hn2 : n < 6) (x : Int32) : m_R S M_X7_add d [.ref 69, .int x] (hh I lg) (some (.int (nI n))) (hh (m_up2 (m_up2 I 70 n x) 69 2 (nI (n + 1))) lg) := by
  refine ms_aload_n dX7_add_0 rfl ?_
  refine q_getr dX7_add_1 fX7_9 kd_7_0 (by first | decide | exact lt_sc (by omega) | exact lt_dy (by omega) | exact lt_rw (by omega) | exact lt_wa (by omega) | exact lt_le (by omega)) (by first | rfl | rw [sh_sc (by omega)] | rw [sh_dy (by omega)]) (by first | rfl | exact rf_wa (by omega) | exact rf_le (by omega) | exact rf_rw (by omega)) ?_
  refine ms_aload_n dX7_add_4 rfl ?_
  refine q_geti dX7_add_5 fX7_24 (by rw [kd_7_2]; decide) (by first | decide | exact lt_sc (by omega) | exact lt_dy (by omega) | exact lt_rw (by omega) | exact lt_wa (by omega) | exact lt_le (by omega)) (by first | rfl | rw [sh_sc (by omega)] | rw [sh_dy (by omega)]) (by first | assumption | ((repeat ((with_reducible apply m_up2_tr); · first | omega | (intro z; (try unfold scI at z); (try unfold dyI at z); (try unfold rwI at z); (try unfold waI at z); (try unfold leI at z); omega))); first | assumption | exact m_up2_eq | rfl)) ?_
  refine ms_iload_n dX7_add_8 rfl ?_
  refine q_iast dX7_add_9 (by first | decide | exact lt_sc (by omega) | exact lt_dy (by omega) | exact lt_rw (by omega) | exact lt_wa (by omega) | exact lt_le (by omega)) (by first | rfl | exact sh_rw (by omega) | exact sh_wa (by omega) | exact sh_le (by omega)) (by omega) (by decide) ?_
  refine ms_aload_n dX7_add_10 rfl ?_
  refine ms_dup dX7_add_11 rfl ?_
  refine q_geti dX7_add_12 fX7_24 (by rw [kd_7_2]; decide) (by first | decide | exact lt_sc (by omega) | exact lt_dy (by omega) | exact lt_rw (by omega) | exact lt_wa (by omega) | exact lt_le (by omega)) (by first | rfl | rw [sh_sc (by omega)] | rw [sh_dy (by omega)]) (by first | assumption | ((repeat ((with_reducible apply m_up2_tr); · first | omega | (intro z; (try unfold scI at z); (try unfold dyI at z); (try unfold rwI at z); (try unfold waI at z); (try unfold leI at z); omega))); first | assumption | exact m_up2_eq | rfl)) ?_
  refine ms_iconst (v := nI 1) dX7_add_15 (by decide) ?_
  refine n_iadd dX7_add_16 ?_
  refine q_puti dX7_add_17 fX7_24 pX7_7_2 kd_7_2 (by first | decide | exact lt_sc (by omega) | exact lt_dy (by omega) | exact lt_rw (by omega) | exact lt_wa (by omega) | exact lt_le (by omega)) (by first | rfl | rw [sh_sc (by omega)] | rw [sh_dy (by omega)]) ?_
  refine ms_aload_n dX7_add_20 rfl ?_
  refine q_geti dX7_add_21 fX7_24 (by rw [kd_7_2]; decide) (by first | decide | exact lt_sc (by omega) | exact lt_dy (by omega) | exact lt_rw (by omega) | exact lt_wa (by omega) | exact lt_le (by omega)) (by first | rfl | rw [sh_sc (by omega)] | rw [sh_dy (by omega)]) (by first | assumption | ((repeat ((with_reducible apply m_up2_tr); · first | omega | (intro z; (try unfold scI at z); (try unfold dyI at z); (try unfold rwI at z); (try unfold waI at z); (try unfold leI at z); omega))); first | assumption | exact m_up2_eq | rfl)) ?_
  refine ms_iconst (v := nI 1) dX7_add_24 (by decide) ?_
  refine n_isub dX7_add_25 (by omega) ?_
  refine ms_iret dX7_add_26 rfl rfl ⟨?_, ?_⟩
  · rfl
  · rfl
def mvC (I : m_I) (a b : Nat) : Int32 := if a = b then nI 0 else I 71 (a * 6 + b)
theorem k_moveBetween {S : m_S} {I : m_I} {lg : Int64} {d a b : Nat} (ha : a < 6) (hb : b < 6) : m_R S M_X7_moveBetween d [.ref 69, .int (nI a), .int (nI b)] (hh I lg) (some (.int (mvC I a b))) (hh I lg) := by
  refine ms_iload_n dX7_moveBetween_0 rfl ?_
  refine ms_iload_n dX7_moveBetween_1 rfl ?_
  refine n_icmp_ne (tgt := 9) dX7_moveBetween_2 (by decide) (by omega) (by omega) (fun c2 => ?_) (fun c2 => ?_)
  · refine ms_aload_n dX7_moveBetween_9 rfl ?_
    refine q_getr dX7_moveBetween_10 fX7_15 kd_7_1 (by first | decide | exact lt_sc (by omega) | exact lt_dy (by omega) | exact lt_rw (by omega) | exact lt_wa (by omega) | exact lt_le (by omega)) (by first | rfl | rw [sh_sc (by omega)] | rw [sh_dy (by omega)]) (by first | rfl | exact rf_wa (by omega) | exact rf_le (by omega) | exact rf_rw (by omega)) ?_
    refine ms_iload_n dX7_moveBetween_13 rfl ?_
    refine ms_bipush (v := nI 6) dX7_moveBetween_14 (by decide) ?_
    refine n_imul dX7_moveBetween_16 ?_
    refine ms_iload_n dX7_moveBetween_17 rfl ?_
    refine n_iadd dX7_moveBetween_18 ?_
    refine q_iald dX7_moveBetween_19 (by first | decide | exact lt_sc (by omega) | exact lt_dy (by omega) | exact lt_rw (by omega) | exact lt_wa (by omega) | exact lt_le (by omega)) (by first | rfl | exact sh_rw (by omega) | exact sh_wa (by omega) | exact sh_le (by omega)) (by omega) (by decide) (by first | assumption | ((repeat ((with_reducible apply m_up2_tr); · first | omega | (intro z; (try unfold scI at z); (try unfold dyI at z); (try unfold rwI at z); (try unfold waI at z); (try unfold leI at z); omega))); first | assumption | exact m_up2_eq | rfl)) ?_
    refine ms_iret dX7_moveBetween_20 rfl rfl ⟨?_, ?_⟩
    · simp_all [mvC]
    · rfl
  · refine ms_iconst (v := nI 0) dX7_moveBetween_5 (by decide) ?_
    refine ms_goto (tgt := 20) dX7_moveBetween_6 (by decide) ?_
    refine ms_iret dX7_moveBetween_20 rfl rfl ⟨?_, ?_⟩
    · simp_all [mvC]
    · rfl
theorem k_tellMove {S : m_S} {I : m_I} {lg : Int64} {d a b : Nat} (hd : 2 ≤ d) (ha : a < 6) (hb : b < 6) (x : Int32) : m_R S M_X7_tellMove d [.ref 69, .int (nI a), .int (nI b), .int x] (hh I lg) (some (.int (mvC I a b))) (hh (m_up2 (m_up2 I 71 (a * 6 + b) x) 71 (b * 6 + a) x) lg) := by
  refine ms_aload_n dX7_tellMove_0 rfl ?_
  refine ms_iload_n dX7_tellMove_1 rfl ?_
  refine ms_iload_n dX7_tellMove_2 rfl ?_
  refine qRV2 dX7_tellMove_3 kX7_28 (by show _ < 178; first | decide | exact lt_sc (by omega) | exact lt_dy (by omega)) (by show (sh0 _).1 = _; first | rfl | rw [sh_sc (by omega)] | rw [sh_dy (by omega)]) (d := d - 1) (by show d - 1 + 1 ≤ d; omega) rfl rfl (Nat.le_of_ble_eq_true rfl) (Nat.le_of_ble_eq_true rfl) (k_moveBetween ha hb) rfl ?_
  refine ms_istore dX7_tellMove_6 (Nat.le_of_ble_eq_true rfl) ?_
  refine ms_aload_n dX7_tellMove_8 rfl ?_
  refine q_getr dX7_tellMove_9 fX7_15 kd_7_1 (by first | decide | exact lt_sc (by omega) | exact lt_dy (by omega) | exact lt_rw (by omega) | exact lt_wa (by omega) | exact lt_le (by omega)) (by first | rfl | rw [sh_sc (by omega)] | rw [sh_dy (by omega)]) (by first | rfl | exact rf_wa (by omega) | exact rf_le (by omega) | exact rf_rw (by omega)) ?_
  refine ms_iload_n dX7_tellMove_12 rfl ?_
  refine ms_bipush (v := nI 6) dX7_tellMove_13 (by decide) ?_
  refine n_imul dX7_tellMove_15 ?_
  refine ms_iload_n dX7_tellMove_16 rfl ?_
  refine n_iadd dX7_tellMove_17 ?_
  refine ms_iload_n dX7_tellMove_18 rfl ?_
  refine q_iast dX7_tellMove_19 (by first | decide | exact lt_sc (by omega) | exact lt_dy (by omega) | exact lt_rw (by omega) | exact lt_wa (by omega) | exact lt_le (by omega)) (by first | rfl | exact sh_rw (by omega) | exact sh_wa (by omega) | exact sh_le (by omega)) (by omega) (by decide) ?_
  refine ms_aload_n dX7_tellMove_20 rfl ?_
  refine q_getr dX7_tellMove_21 fX7_15 kd_7_1 (by first | decide | exact lt_sc (by omega) | exact lt_dy (by omega) | exact lt_rw (by omega) | exact lt_wa (by omega) | exact lt_le (by omega)) (by first | rfl | rw [sh_sc (by omega)] | rw [sh_dy (by omega)]) (by first | rfl | exact rf_wa (by omega) | exact rf_le (by omega) | exact rf_rw (by omega)) ?_
  refine ms_iload_n dX7_tellMove_24 rfl ?_
  refine ms_bipush (v := nI 6) dX7_tellMove_25 (by decide) ?_
  refine n_imul dX7_tellMove_27 ?_
  refine ms_iload_n dX7_tellMove_28 rfl ?_
  refine n_iadd dX7_tellMove_29 ?_
  refine ms_iload_n dX7_tellMove_30 rfl ?_
  refine q_iast dX7_tellMove_31 (by first | decide | exact lt_sc (by omega) | exact lt_dy (by omega) | exact lt_rw (by omega) | exact lt_wa (by omega) | exact lt_le (by omega)) (by first | rfl | exact sh_rw (by omega) | exact sh_wa (by omega) | exact sh_le (by omega)) (by omega) (by decide) ?_
  refine ms_iload dX7_tellMove_32 rfl ?_
  refine ms_iret dX7_tellMove_34 rfl rfl ⟨?_, ?_⟩
  · rfl
  · rfl
def eiC (I : m_I) : Int32 := if I 73 1 = 0 then nI 15 else (I 73 0 + I 73 1 - nI 1) / I 73 1
theorem k_ofEighth {S : m_S} {I : m_I} {lg : Int64} {d : Nat} : m_R S M_X5_ofEighth d [.ref 73] (hh I lg) (some (.int (eiC I))) (hh I lg) := by
  refine ms_aload_n dX5_ofEighth_0 rfl ?_
  refine q_geti dX5_ofEighth_1 fX5_13 (by rw [kd_5_1]; decide) (by first | decide | exact lt_sc (by omega) | exact lt_dy (by omega) | exact lt_rw (by omega) | exact lt_wa (by omega) | exact lt_le (by omega)) (by first | rfl | rw [sh_sc (by omega)] | rw [sh_dy (by omega)]) (by first | assumption | ((repeat ((with_reducible apply m_up2_tr); · first | omega | (intro z; (try unfold scI at z); (try unfold dyI at z); (try unfold rwI at z); (try unfold waI at z); (try unfold leI at z); omega))); first | assumption | exact m_up2_eq | rfl)) ?_
  refine ms_if_ne (tgt := 12) dX5_ofEighth_4 (by decide) (fun c4 => ?_) (fun c4 => ?_)
  · refine ms_aload_n dX5_ofEighth_12 rfl ?_
    refine q_geti dX5_ofEighth_13 fX5_7 (by rw [kd_5_0]; decide) (by first | decide | exact lt_sc (by omega) | exact lt_dy (by omega) | exact lt_rw (by omega) | exact lt_wa (by omega) | exact lt_le (by omega)) (by first | rfl | rw [sh_sc (by omega)] | rw [sh_dy (by omega)]) (by first | assumption | ((repeat ((with_reducible apply m_up2_tr); · first | omega | (intro z; (try unfold scI at z); (try unfold dyI at z); (try unfold rwI at z); (try unfold waI at z); (try unfold leI at z); omega))); first | assumption | exact m_up2_eq | rfl)) ?_
    refine ms_aload_n dX5_ofEighth_16 rfl ?_
    refine q_geti dX5_ofEighth_17 fX5_13 (by rw [kd_5_1]; decide) (by first | decide | exact lt_sc (by omega) | exact lt_dy (by omega) | exact lt_rw (by omega) | exact lt_wa (by omega) | exact lt_le (by omega)) (by first | rfl | rw [sh_sc (by omega)] | rw [sh_dy (by omega)]) (by first | assumption | ((repeat ((with_reducible apply m_up2_tr); · first | omega | (intro z; (try unfold scI at z); (try unfold dyI at z); (try unfold rwI at z); (try unfold waI at z); (try unfold leI at z); omega))); first | assumption | exact m_up2_eq | rfl)) ?_
    refine ms_iadd dX5_ofEighth_20 ?_
    refine ms_iconst (v := nI 1) dX5_ofEighth_21 (by decide) ?_
    refine ms_isub dX5_ofEighth_22 ?_
    refine ms_aload_n dX5_ofEighth_23 rfl ?_
    refine q_geti dX5_ofEighth_24 fX5_13 (by rw [kd_5_1]; decide) (by first | decide | exact lt_sc (by omega) | exact lt_dy (by omega) | exact lt_rw (by omega) | exact lt_wa (by omega) | exact lt_le (by omega)) (by first | rfl | rw [sh_sc (by omega)] | rw [sh_dy (by omega)]) (by first | assumption | ((repeat ((with_reducible apply m_up2_tr); · first | omega | (intro z; (try unfold scI at z); (try unfold dyI at z); (try unfold rwI at z); (try unfold waI at z); (try unfold leI at z); omega))); first | assumption | exact m_up2_eq | rfl)) ?_
    refine ms_idiv dX5_ofEighth_27 (by first | decide | assumption) ?_
    refine ms_iret dX5_ofEighth_28 rfl rfl ⟨?_, ?_⟩
    · simp_all [eiC]
    · rfl
  · refine ms_bipush (v := nI 15) dX5_ofEighth_7 (by decide) ?_
    refine ms_goto (tgt := 28) dX5_ofEighth_9 (by decide) ?_
    refine ms_iret dX5_ofEighth_28 rfl rfl ⟨?_, ?_⟩
    · simp_all [eiC]
    · rfl
theorem k_learn {S : m_S} {I : m_I} {lg : Int64} {d : Nat} (hd : 2 ≤ d) (x y : Int32) : m_R S M_X5_learn d [.ref 73, .int x, .int y] (hh I lg) (some (.int (eiC (m_up2 (m_up2 I 73 0 (I 73 0 + x)) 73 1 (I 73 1 + y))))) (hh (m_up2 (m_up2 I 73 0 (I 73 0 + x)) 73 1 (I 73 1 + y)) lg) := by
  refine ms_aload_n dX5_learn_0 rfl ?_
  refine ms_dup dX5_learn_1 rfl ?_
  refine q_geti dX5_learn_2 fX5_7 (by rw [kd_5_0]; decide) (by first | decide | exact lt_sc (by omega) | exact lt_dy (by omega) | exact lt_rw (by omega) | exact lt_wa (by omega) | exact lt_le (by omega)) (by first | rfl | rw [sh_sc (by omega)] | rw [sh_dy (by omega)]) (by first | assumption | ((repeat ((with_reducible apply m_up2_tr); · first | omega | (intro z; (try unfold scI at z); (try unfold dyI at z); (try unfold rwI at z); (try unfold waI at z); (try unfold leI at z); omega))); first | assumption | exact m_up2_eq | rfl)) ?_
  refine ms_iload_n dX5_learn_5 rfl ?_
  refine ms_iadd dX5_learn_6 ?_
  refine q_puti dX5_learn_7 fX5_7 pX5_5_0 kd_5_0 (by first | decide | exact lt_sc (by omega) | exact lt_dy (by omega) | exact lt_rw (by omega) | exact lt_wa (by omega) | exact lt_le (by omega)) (by first | rfl | rw [sh_sc (by omega)] | rw [sh_dy (by omega)]) ?_
  refine ms_aload_n dX5_learn_10 rfl ?_
  refine ms_dup dX5_learn_11 rfl ?_
  refine q_geti dX5_learn_12 fX5_13 (by rw [kd_5_1]; decide) (by first | decide | exact lt_sc (by omega) | exact lt_dy (by omega) | exact lt_rw (by omega) | exact lt_wa (by omega) | exact lt_le (by omega)) (by first | rfl | rw [sh_sc (by omega)] | rw [sh_dy (by omega)]) (by first | assumption | ((repeat ((with_reducible apply m_up2_tr); · first | omega | (intro z; (try unfold scI at z); (try unfold dyI at z); (try unfold rwI at z); (try unfold waI at z); (try unfold leI at z); omega))); first | assumption | exact m_up2_eq | rfl)) ?_
  refine ms_iload_n dX5_learn_15 rfl ?_
  refine ms_iadd dX5_learn_16 ?_
  refine q_puti dX5_learn_17 fX5_13 pX5_5_1 kd_5_1 (by first | decide | exact lt_sc (by omega) | exact lt_dy (by omega) | exact lt_rw (by omega) | exact lt_wa (by omega) | exact lt_le (by omega)) (by first | rfl | rw [sh_sc (by omega)] | rw [sh_dy (by omega)]) ?_
  refine ms_aload_n dX5_learn_20 rfl ?_
  refine qRV0 dX5_learn_21 kX5_16 (by show _ < 178; first | decide | exact lt_sc (by omega) | exact lt_dy (by omega)) (by show (sh0 _).1 = _; first | rfl | rw [sh_sc (by omega)] | rw [sh_dy (by omega)]) (d := d - 1) (by show d - 1 + 1 ≤ d; omega)  (Nat.le_of_ble_eq_true rfl) (Nat.le_of_ble_eq_true rfl) (k_ofEighth) rfl ?_
  refine ms_iret dX5_learn_24 rfl rfl ⟨?_, ?_⟩
  · rfl
  · rfl
theorem k_isFull {S : m_S} {I : m_I} {lg : Int64} {d t n : Nat} (ht : t < 30) (hn : I (dyI t) 6 = nI n) (hn2 : n ≤ 8) : m_R S M_X3_isFull d [.ref (dyI t)] (hh I lg) (some (.int (bi (decide (8 ≤ n))))) (hh I lg) := by
  refine ms_aload_n dX3_isFull_0 rfl ?_
  refine q_geti dX3_isFull_1 fX3_25 (by rw [kd_3_6]; decide) (by first | decide | exact lt_sc (by omega) | exact lt_dy (by omega) | exact lt_rw (by omega) | exact lt_wa (by omega) | exact lt_le (by omega)) (by first | rfl | rw [sh_sc (by omega)] | rw [sh_dy (by omega)]) (by first | assumption | ((repeat ((with_reducible apply m_up2_tr); · first | omega | (intro z; (try unfold scI at z); (try unfold dyI at z); (try unfold rwI at z); (try unfold waI at z); (try unfold leI at z); omega))); first | assumption | exact m_up2_eq | rfl)) ?_
  refine ms_bipush (v := nI 8) dX3_isFull_4 (by decide) ?_
  refine n_icmp_lt (tgt := 13) dX3_isFull_6 (by decide) (by omega) (by omega) (fun c6 => ?_) (fun c6 => ?_)
  · refine ms_iconst (v := nI 0) dX3_isFull_13 (by decide) ?_
    refine ms_zret dX3_isFull_14 rfl rfl (by first | exact Or.inl (by decide) | exact Or.inr (by decide) | assumption | exact bi_01 _) ⟨?_, ?_⟩
    · (first | (rw [decide_eq_true (by omega)]; rfl) | (rw [decide_eq_false (by omega)]; rfl))
    · rfl
  · refine ms_iconst (v := nI 1) dX3_isFull_9 (by decide) ?_
    refine ms_goto (tgt := 14) dX3_isFull_10 (by decide) ?_
    refine ms_zret dX3_isFull_14 rfl rfl (by first | exact Or.inl (by decide) | exact Or.inr (by decide) | assumption | exact bi_01 _) ⟨?_, ?_⟩
    · (first | (rw [decide_eq_true (by omega)]; rfl) | (rw [decide_eq_false (by omega)]; rfl))
    · rfl
theorem k_insert {S : m_S} {I : m_I} {lg : Int64} {d t n at' : Nat} (ht : t < 30) (hn : I (dyI t) 6 = nI n) (hn2 : n < 8) (ha : at' ≤ n) (x : Int32) : m_R S M_X3_insert d [.ref (dyI t), .int x, .int (nI at')] (hh I lg) none (hh (m_up2 (m_up2 (shI I (rwI t) at' n) (rwI t) at' x) (dyI t) 6 (nI (n + 1))) lg) := by
  have hnn : ∀ i, (shI I (rwI t) i n) (dyI t) 6 = nI n := fun i => (shI_ne (by unfold dyI rwI; omega)).trans hn
  have loop : ∀ i, at' ≤ i → i ≤ n → m_W S (M_X3_insert, d, fun w g => w = none ∧ g = hh (m_up2 (m_up2 (shI I (rwI t) at' n) (rwI t) at' x) (dyI t) 6 (nI (n + 1))) lg, fun _ _ => False) 5 [some (.ref (dyI t)), some (.int x), some (.int (nI at')), some (.int (nI i))] [] (hh (shI I (rwI t) i n) lg) 0 0 := by
    intro i
    induction i with
    | zero =>
      intro h1 h2
      have hn0 := hnn at'
      obtain rfl : at' = 0 := by omega
      refine ms_iload_n dX3_insert_5 rfl ?_
      refine ms_iload_n dX3_insert_6 rfl ?_
      refine n_icmp_le (tgt := 30) dX3_insert_7 (by decide) (by omega) (by omega) (fun c7 => ?_) (fun c7 => ?_)
      · refine ms_aload_n dX3_insert_30 rfl ?_
        refine q_getr dX3_insert_31 fX3_21 kd_3_5 (by first | decide | exact lt_sc (by omega) | exact lt_dy (by omega) | exact lt_rw (by omega) | exact lt_wa (by omega) | exact lt_le (by omega)) (by first | rfl | rw [sh_sc (by omega)] | rw [sh_dy (by omega)]) (by first | rfl | exact rf_wa (by omega) | exact rf_le (by omega) | exact rf_rw (by omega)) ?_
        refine ms_iload_n dX3_insert_34 rfl ?_
        refine ms_iload_n dX3_insert_35 rfl ?_
        refine q_iast dX3_insert_36 (by first | decide | exact lt_sc (by omega) | exact lt_dy (by omega) | exact lt_rw (by omega) | exact lt_wa (by omega) | exact lt_le (by omega)) (by first | rfl | exact sh_rw (by omega) | exact sh_wa (by omega) | exact sh_le (by omega)) (by omega) (by decide) ?_
        refine ms_aload_n dX3_insert_37 rfl ?_
        refine ms_dup dX3_insert_38 rfl ?_
        refine q_geti dX3_insert_39 fX3_25 (by rw [kd_3_6]; decide) (by first | decide | exact lt_sc (by omega) | exact lt_dy (by omega) | exact lt_rw (by omega) | exact lt_wa (by omega) | exact lt_le (by omega)) (by first | rfl | rw [sh_sc (by omega)] | rw [sh_dy (by omega)]) (by first | assumption | ((repeat ((with_reducible apply m_up2_tr); · first | omega | (intro z; (try unfold scI at z); (try unfold dyI at z); (try unfold rwI at z); (try unfold waI at z); (try unfold leI at z); omega))); first | assumption | exact m_up2_eq | rfl)) ?_
        refine ms_iconst (v := nI 1) dX3_insert_42 (by decide) ?_
        refine n_iadd dX3_insert_43 ?_
        refine q_puti dX3_insert_44 fX3_25 pX3_3_6 kd_3_6 (by first | decide | exact lt_sc (by omega) | exact lt_dy (by omega) | exact lt_rw (by omega) | exact lt_wa (by omega) | exact lt_le (by omega)) (by first | rfl | rw [sh_sc (by omega)] | rw [sh_dy (by omega)]) ?_
        refine ms_vret dX3_insert_47 rfl rfl ⟨rfl, ?_⟩
        · rfl
      · omega
    | succ i ih =>
      intro h1 h2
      have hn0 := hnn (i + 1)
      refine ms_iload_n dX3_insert_5 rfl ?_
      refine ms_iload_n dX3_insert_6 rfl ?_
      refine n_icmp_le (tgt := 30) dX3_insert_7 (by decide) (by omega) (by omega) (fun c7 => ?_) (fun c7 => ?_)
      · obtain rfl : at' = i + 1 := by omega
        refine ms_aload_n dX3_insert_30 rfl ?_
        refine q_getr dX3_insert_31 fX3_21 kd_3_5 (by first | decide | exact lt_sc (by omega) | exact lt_dy (by omega) | exact lt_rw (by omega) | exact lt_wa (by omega) | exact lt_le (by omega)) (by first | rfl | rw [sh_sc (by omega)] | rw [sh_dy (by omega)]) (by first | rfl | exact rf_wa (by omega) | exact rf_le (by omega) | exact rf_rw (by omega)) ?_
        refine ms_iload_n dX3_insert_34 rfl ?_
        refine ms_iload_n dX3_insert_35 rfl ?_
        refine q_iast dX3_insert_36 (by first | decide | exact lt_sc (by omega) | exact lt_dy (by omega) | exact lt_rw (by omega) | exact lt_wa (by omega) | exact lt_le (by omega)) (by first | rfl | exact sh_rw (by omega) | exact sh_wa (by omega) | exact sh_le (by omega)) (by omega) (by decide) ?_
        refine ms_aload_n dX3_insert_37 rfl ?_
        refine ms_dup dX3_insert_38 rfl ?_
        refine q_geti dX3_insert_39 fX3_25 (by rw [kd_3_6]; decide) (by first | decide | exact lt_sc (by omega) | exact lt_dy (by omega) | exact lt_rw (by omega) | exact lt_wa (by omega) | exact lt_le (by omega)) (by first | rfl | rw [sh_sc (by omega)] | rw [sh_dy (by omega)]) (by first | assumption | ((repeat ((with_reducible apply m_up2_tr); · first | omega | (intro z; (try unfold scI at z); (try unfold dyI at z); (try unfold rwI at z); (try unfold waI at z); (try unfold leI at z); omega))); first | assumption | exact m_up2_eq | rfl)) ?_
        refine ms_iconst (v := nI 1) dX3_insert_42 (by decide) ?_
        refine n_iadd dX3_insert_43 ?_
        refine q_puti dX3_insert_44 fX3_25 pX3_3_6 kd_3_6 (by first | decide | exact lt_sc (by omega) | exact lt_dy (by omega) | exact lt_rw (by omega) | exact lt_wa (by omega) | exact lt_le (by omega)) (by first | rfl | rw [sh_sc (by omega)] | rw [sh_dy (by omega)]) ?_
        refine ms_vret dX3_insert_47 rfl rfl ⟨rfl, ?_⟩
        · rfl
      · refine ms_aload_n dX3_insert_10 rfl ?_
        refine q_getr dX3_insert_11 fX3_21 kd_3_5 (by first | decide | exact lt_sc (by omega) | exact lt_dy (by omega) | exact lt_rw (by omega) | exact lt_wa (by omega) | exact lt_le (by omega)) (by first | rfl | rw [sh_sc (by omega)] | rw [sh_dy (by omega)]) (by first | rfl | exact rf_wa (by omega) | exact rf_le (by omega) | exact rf_rw (by omega)) ?_
        refine ms_iload_n dX3_insert_14 rfl ?_
        refine ms_aload_n dX3_insert_15 rfl ?_
        refine q_getr dX3_insert_16 fX3_21 kd_3_5 (by first | decide | exact lt_sc (by omega) | exact lt_dy (by omega) | exact lt_rw (by omega) | exact lt_wa (by omega) | exact lt_le (by omega)) (by first | rfl | rw [sh_sc (by omega)] | rw [sh_dy (by omega)]) (by first | rfl | exact rf_wa (by omega) | exact rf_le (by omega) | exact rf_rw (by omega)) ?_
        refine ms_iload_n dX3_insert_19 rfl ?_
        refine ms_iconst (v := nI 1) dX3_insert_20 (by decide) ?_
        refine ms_isub dX3_insert_21 ?_
        rw [show nI (i + 1) - nI 1 = nI i from pk_sub (by omega)]
        refine q_iald dX3_insert_22 (by first | decide | exact lt_sc (by omega) | exact lt_dy (by omega) | exact lt_rw (by omega) | exact lt_wa (by omega) | exact lt_le (by omega)) (by first | rfl | exact sh_rw (by omega) | exact sh_wa (by omega) | exact sh_le (by omega)) (by omega) (by decide) (by first | assumption | ((repeat ((with_reducible apply m_up2_tr); · first | omega | (intro z; (try unfold scI at z); (try unfold dyI at z); (try unfold rwI at z); (try unfold waI at z); (try unfold leI at z); omega))); first | assumption | exact m_up2_eq | rfl)) ?_
        refine q_iast dX3_insert_23 (by first | decide | exact lt_sc (by omega) | exact lt_dy (by omega) | exact lt_rw (by omega) | exact lt_wa (by omega) | exact lt_le (by omega)) (by first | rfl | exact sh_rw (by omega) | exact sh_wa (by omega) | exact sh_le (by omega)) (by omega) (by decide) ?_
        refine n_iincm dX3_insert_24 rfl ?_
        refine ms_goto (tgt := 5) dX3_insert_27 (by decide) ?_
        rw [shI_step I h2]
        exact ih (by omega) (by omega)
  have hn0 := hn
  refine ms_aload_n dX3_insert_0 rfl ?_
  refine q_geti dX3_insert_1 fX3_25 (by rw [kd_3_6]; decide) (by first | decide | exact lt_sc (by omega) | exact lt_dy (by omega) | exact lt_rw (by omega) | exact lt_wa (by omega) | exact lt_le (by omega)) (by first | rfl | rw [sh_sc (by omega)] | rw [sh_dy (by omega)]) (by first | assumption | ((repeat ((with_reducible apply m_up2_tr); · first | omega | (intro z; (try unfold scI at z); (try unfold dyI at z); (try unfold rwI at z); (try unfold waI at z); (try unfold leI at z); omega))); first | assumption | exact m_up2_eq | rfl)) ?_
  refine ms_istore_n dX3_insert_4 (Nat.le_of_ble_eq_true rfl) ?_
  have h9 := loop n ha (Nat.le_refl _)
  rw [shI_0] at h9
  exact h9
theorem k_remove {S : m_S} {I : m_I} {lg : Int64} {d t n j s : Nat} (ht : t < 30) (hn : I (dyI t) 6 = nI n) (hn2 : n ≤ 8) (hj : j < n) (hs : s < 20) (hjs : I (rwI t) j = nI s) (hne : ∀ i, i < n → i ≠ j → I (rwI t) i ≠ nI s) : m_R S M_X3_remove d [.ref (dyI t), .int (nI s)] (hh I lg) none (hh (m_up2 (deI I (rwI t) j n) (dyI t) 6 (nI (n - 1))) lg) := by
  have hnn : ∀ i, (deI I (rwI t) j i) (dyI t) 6 = nI n := fun i => (deI_ne (by unfold dyI rwI; omega)).trans hn
  have loop2 : ∀ q i, j < i → i ≤ n → n - i < q → m_W S (M_X3_remove, d, fun w g => w = none ∧ g = hh (m_up2 (deI I (rwI t) j n) (dyI t) 6 (nI (n - 1))) lg, fun _ _ => False) 4 [some (.ref (dyI t)), some (.int (nI s)), some (.int (nI (i - 1))), some (.int (nI i))] [] (hh (deI I (rwI t) j i) lg) 0 0 := by
    intro q
    induction q with
    | zero => intro i _ _ h; omega
    | succ q ih =>
      intro i h1 h2 h3
      have hn0 := hnn i
      refine ms_iload_n dX3_remove_4 rfl ?_
      refine ms_aload_n dX3_remove_5 rfl ?_
      refine q_geti dX3_remove_6 fX3_25 (by rw [kd_3_6]; decide) (by first | decide | exact lt_sc (by omega) | exact lt_dy (by omega) | exact lt_rw (by omega) | exact lt_wa (by omega) | exact lt_le (by omega)) (by first | rfl | rw [sh_sc (by omega)] | rw [sh_dy (by omega)]) (by first | assumption | ((repeat ((with_reducible apply m_up2_tr); · first | omega | (intro z; (try unfold scI at z); (try unfold dyI at z); (try unfold rwI at z); (try unfold waI at z); (try unfold leI at z); omega))); first | assumption | exact m_up2_eq | rfl)) ?_
      refine n_icmp_ge (tgt := 43) dX3_remove_9 (by decide) (by omega) (by omega) (fun c9 => ?_) (fun c9 => ?_)
      · obtain rfl : i = n := by omega
        refine ms_aload_n dX3_remove_43 rfl ?_
        refine ms_iload_n dX3_remove_44 rfl ?_
        refine q_puti dX3_remove_45 fX3_25 pX3_3_6 kd_3_6 (by first | decide | exact lt_sc (by omega) | exact lt_dy (by omega) | exact lt_rw (by omega) | exact lt_wa (by omega) | exact lt_le (by omega)) (by first | rfl | rw [sh_sc (by omega)] | rw [sh_dy (by omega)]) ?_
        refine ms_vret dX3_remove_48 rfl rfl ⟨rfl, ?_⟩
        · rfl
      · have hv : (deI I (rwI t) j i) (rwI t) i = I (rwI t) i := deI_hi (by omega)
        refine ms_aload_n dX3_remove_12 rfl ?_
        refine q_getr dX3_remove_13 fX3_21 kd_3_5 (by first | decide | exact lt_sc (by omega) | exact lt_dy (by omega) | exact lt_rw (by omega) | exact lt_wa (by omega) | exact lt_le (by omega)) (by first | rfl | rw [sh_sc (by omega)] | rw [sh_dy (by omega)]) (by first | rfl | exact rf_wa (by omega) | exact rf_le (by omega) | exact rf_rw (by omega)) ?_
        refine ms_iload_n dX3_remove_16 rfl ?_
        refine q_iald dX3_remove_17 (by first | decide | exact lt_sc (by omega) | exact lt_dy (by omega) | exact lt_rw (by omega) | exact lt_wa (by omega) | exact lt_le (by omega)) (by first | rfl | exact sh_rw (by omega) | exact sh_wa (by omega) | exact sh_le (by omega)) (by omega) (by decide) rfl ?_
        refine ms_iload_n dX3_remove_18 rfl ?_
        refine ms_icmp_eq (tgt := 37) dX3_remove_19 (by decide) (fun c19 => ?_) (fun c19 => ?_)
        · rw [hv] at c19
          exact absurd c19 (hne i (by omega) (by omega))
        · refine ms_aload_n dX3_remove_22 rfl ?_
          refine q_getr dX3_remove_23 fX3_21 kd_3_5 (by first | decide | exact lt_sc (by omega) | exact lt_dy (by omega) | exact lt_rw (by omega) | exact lt_wa (by omega) | exact lt_le (by omega)) (by first | rfl | rw [sh_sc (by omega)] | rw [sh_dy (by omega)]) (by first | rfl | exact rf_wa (by omega) | exact rf_le (by omega) | exact rf_rw (by omega)) ?_
          refine ms_iload_n dX3_remove_26 rfl ?_
          refine ms_aload_n dX3_remove_27 rfl ?_
          refine q_getr dX3_remove_28 fX3_21 kd_3_5 (by first | decide | exact lt_sc (by omega) | exact lt_dy (by omega) | exact lt_rw (by omega) | exact lt_wa (by omega) | exact lt_le (by omega)) (by first | rfl | rw [sh_sc (by omega)] | rw [sh_dy (by omega)]) (by first | rfl | exact rf_wa (by omega) | exact rf_le (by omega) | exact rf_rw (by omega)) ?_
          refine ms_iload_n dX3_remove_31 rfl ?_
          refine q_iald dX3_remove_32 (by first | decide | exact lt_sc (by omega) | exact lt_dy (by omega) | exact lt_rw (by omega) | exact lt_wa (by omega) | exact lt_le (by omega)) (by first | rfl | exact sh_rw (by omega) | exact sh_wa (by omega) | exact sh_le (by omega)) (by omega) (by decide) rfl ?_
          refine q_iast dX3_remove_33 (by first | decide | exact lt_sc (by omega) | exact lt_dy (by omega) | exact lt_rw (by omega) | exact lt_wa (by omega) | exact lt_le (by omega)) (by first | rfl | exact sh_rw (by omega) | exact sh_wa (by omega) | exact sh_le (by omega)) (by omega) (by decide) ?_
          refine n_iinc dX3_remove_34 rfl ?_
          refine n_iinc dX3_remove_37 rfl ?_
          refine ms_goto (tgt := 4) dX3_remove_40 (by decide) ?_
          rw [deI_step I h1]
          have h9 := ih (i + 1) (by omega) (by omega) (by omega)
          rw [show i + 1 - 1 = i - 1 + 1 by omega] at h9
          exact h9
  have loop1 : ∀ q i, i ≤ j → j - i < q → m_W S (M_X3_remove, d, fun w g => w = none ∧ g = hh (m_up2 (deI I (rwI t) j n) (dyI t) 6 (nI (n - 1))) lg, fun _ _ => False) 4 [some (.ref (dyI t)), some (.int (nI s)), some (.int (nI i)), some (.int (nI i))] [] (hh I lg) 0 0 := by
    intro q
    induction q with
    | zero => intro i _ h; omega
    | succ q ih =>
      intro i h1 h2
      refine ms_iload_n dX3_remove_4 rfl ?_
      refine ms_aload_n dX3_remove_5 rfl ?_
      refine q_geti dX3_remove_6 fX3_25 (by rw [kd_3_6]; decide) (by first | decide | exact lt_sc (by omega) | exact lt_dy (by omega) | exact lt_rw (by omega) | exact lt_wa (by omega) | exact lt_le (by omega)) (by first | rfl | rw [sh_sc (by omega)] | rw [sh_dy (by omega)]) (by first | assumption | ((repeat ((with_reducible apply m_up2_tr); · first | omega | (intro z; (try unfold scI at z); (try unfold dyI at z); (try unfold rwI at z); (try unfold waI at z); (try unfold leI at z); omega))); first | assumption | exact m_up2_eq | rfl)) ?_
      refine n_icmp_ge (tgt := 43) dX3_remove_9 (by decide) (by omega) (by omega) (fun c9 => ?_) (fun c9 => ?_)
      · omega
      · refine ms_aload_n dX3_remove_12 rfl ?_
        refine q_getr dX3_remove_13 fX3_21 kd_3_5 (by first | decide | exact lt_sc (by omega) | exact lt_dy (by omega) | exact lt_rw (by omega) | exact lt_wa (by omega) | exact lt_le (by omega)) (by first | rfl | rw [sh_sc (by omega)] | rw [sh_dy (by omega)]) (by first | rfl | exact rf_wa (by omega) | exact rf_le (by omega) | exact rf_rw (by omega)) ?_
        refine ms_iload_n dX3_remove_16 rfl ?_
        refine q_iald dX3_remove_17 (by first | decide | exact lt_sc (by omega) | exact lt_dy (by omega) | exact lt_rw (by omega) | exact lt_wa (by omega) | exact lt_le (by omega)) (by first | rfl | exact sh_rw (by omega) | exact sh_wa (by omega) | exact sh_le (by omega)) (by omega) (by decide) rfl ?_
        refine ms_iload_n dX3_remove_18 rfl ?_
        refine ms_icmp_eq (tgt := 37) dX3_remove_19 (by decide) (fun c19 => ?_) (fun c19 => ?_)
        · have e : i = j := by
            rcases Nat.lt_or_ge i j with z | z
            · exact absurd c19 (hne i (by omega) (by omega))
            · omega
          subst e
          refine n_iinc dX3_remove_37 rfl ?_
          refine ms_goto (tgt := 4) dX3_remove_40 (by decide) ?_
          have h9 := loop2 (n + 1) (i + 1) (by omega) (by omega) (by omega)
          rw [deI_0] at h9
          exact h9
        · have e : i ≠ j := fun e => c19 (by rw [e]; exact hjs)
          refine ms_aload_n dX3_remove_22 rfl ?_
          refine q_getr dX3_remove_23 fX3_21 kd_3_5 (by first | decide | exact lt_sc (by omega) | exact lt_dy (by omega) | exact lt_rw (by omega) | exact lt_wa (by omega) | exact lt_le (by omega)) (by first | rfl | rw [sh_sc (by omega)] | rw [sh_dy (by omega)]) (by first | rfl | exact rf_wa (by omega) | exact rf_le (by omega) | exact rf_rw (by omega)) ?_
          refine ms_iload_n dX3_remove_26 rfl ?_
          refine ms_aload_n dX3_remove_27 rfl ?_
          refine q_getr dX3_remove_28 fX3_21 kd_3_5 (by first | decide | exact lt_sc (by omega) | exact lt_dy (by omega) | exact lt_rw (by omega) | exact lt_wa (by omega) | exact lt_le (by omega)) (by first | rfl | rw [sh_sc (by omega)] | rw [sh_dy (by omega)]) (by first | rfl | exact rf_wa (by omega) | exact rf_le (by omega) | exact rf_rw (by omega)) ?_
          refine ms_iload_n dX3_remove_31 rfl ?_
          refine q_iald dX3_remove_32 (by first | decide | exact lt_sc (by omega) | exact lt_dy (by omega) | exact lt_rw (by omega) | exact lt_wa (by omega) | exact lt_le (by omega)) (by first | rfl | exact sh_rw (by omega) | exact sh_wa (by omega) | exact sh_le (by omega)) (by omega) (by decide) rfl ?_
          refine q_iast dX3_remove_33 (by first | decide | exact lt_sc (by omega) | exact lt_dy (by omega) | exact lt_rw (by omega) | exact lt_wa (by omega) | exact lt_le (by omega)) (by first | rfl | exact sh_rw (by omega) | exact sh_wa (by omega) | exact sh_le (by omega)) (by omega) (by decide) ?_
          refine n_iinc dX3_remove_34 rfl ?_
          refine n_iinc dX3_remove_37 rfl ?_
          refine ms_goto (tgt := 4) dX3_remove_40 (by decide) ?_
          rw [m_up2_id]
          exact ih (i + 1) (by omega) (by omega)
  refine ms_iconst (v := nI 0) dX3_remove_0 (by decide) ?_
  refine ms_istore_n dX3_remove_1 (Nat.le_of_ble_eq_true rfl) ?_
  refine ms_iconst (v := nI 0) dX3_remove_2 (by decide) ?_
  refine ms_istore_n dX3_remove_3 (Nat.le_of_ble_eq_true rfl) ?_
  exact loop1 (j + 1) 0 (by omega) (by omega)
theorem k_daySpot {S : m_S} {I : m_I} {lg : Int64} {d t n i s : Nat} (ht : t < 30) (hn : I (dyI t) 6 = nI n) (hn2 : n ≤ 8) (hi : i < n) (hs : s < 20) (he : I (rwI t) i = nI s) (hf : ∀ j, j < i → I (rwI t) j ≠ nI s) : m_R S M_X3_spotOf d [.ref (dyI t), .int (nI s)] (hh I lg) (some (.int (nI i))) (hh I lg) := by
  have loop : ∀ n j, j ≤ i → i - j < n → m_W S (M_X3_spotOf, d, fun w g => w = some (.int (nI i)) ∧ g = hh I lg, fun _ _ => False) 2 [some (.ref (dyI t)), some (.int (nI s)), some (.int (nI j))] [] (hh I lg) 0 0 := by
    intro q
    induction q with
    | zero => intro j _ h; omega
    | succ q ih =>
      intro j hj hn
      refine ms_iload_n dX3_spotOf_2 rfl ?_
      refine ms_aload_n dX3_spotOf_3 rfl ?_
      refine q_geti dX3_spotOf_4 fX3_25 (by rw [kd_3_6]; decide) (by first | decide | exact lt_sc (by omega) | exact lt_dy (by omega) | exact lt_rw (by omega) | exact lt_wa (by omega) | exact lt_le (by omega)) (by first | rfl | rw [sh_sc (by omega)] | rw [sh_dy (by omega)]) (by first | assumption | ((repeat ((with_reducible apply m_up2_tr); · first | omega | (intro z; (try unfold scI at z); (try unfold dyI at z); (try unfold rwI at z); (try unfold waI at z); (try unfold leI at z); omega))); first | assumption | exact m_up2_eq | rfl)) ?_
      refine n_icmp_ge (tgt := 28) dX3_spotOf_7 (by decide) (by omega) (by omega) (fun c7 => ?_) (fun c7 => ?_)
      · omega
      · refine ms_aload_n dX3_spotOf_10 rfl ?_
        refine q_getr dX3_spotOf_11 fX3_21 kd_3_5 (by first | decide | exact lt_sc (by omega) | exact lt_dy (by omega) | exact lt_rw (by omega) | exact lt_wa (by omega) | exact lt_le (by omega)) (by first | rfl | rw [sh_sc (by omega)] | rw [sh_dy (by omega)]) (by first | rfl | exact rf_wa (by omega) | exact rf_le (by omega) | exact rf_rw (by omega)) ?_
        refine ms_iload_n dX3_spotOf_14 rfl ?_
        refine q_iald dX3_spotOf_15 (by first | decide | exact lt_sc (by omega) | exact lt_dy (by omega) | exact lt_rw (by omega) | exact lt_wa (by omega) | exact lt_le (by omega)) (by first | rfl | exact sh_rw (by omega) | exact sh_wa (by omega) | exact sh_le (by omega)) (by omega) (by decide) rfl ?_
        refine ms_iload_n dX3_spotOf_16 rfl ?_
        refine ms_icmp_ne (tgt := 22) dX3_spotOf_17 (by decide) (fun c17 => ?_) (fun c17 => ?_)
        · have hne : j ≠ i := fun e => by rw [e] at c17; exact c17 he
          refine n_iinc dX3_spotOf_22 rfl ?_
          refine ms_goto (tgt := 2) dX3_spotOf_25 (by decide) ?_
          exact ih (j + 1) (by omega) (by omega)
        · have hji : j = i := by
            rcases Nat.lt_or_ge j i with q | q
            · exact absurd c17 (hf j q)
            · omega
          subst hji
          refine ms_iload_n dX3_spotOf_20 rfl ?_
          refine ms_iret dX3_spotOf_21 rfl rfl ⟨?_, ?_⟩
          · rfl
          · rfl
  refine ms_iconst (v := nI 0) dX3_spotOf_0 (by decide) ?_
  refine ms_istore_n dX3_spotOf_1 (Nat.le_of_ble_eq_true rfl) ?_
  exact loop (i + 1) 0 (by omega) (by omega)

