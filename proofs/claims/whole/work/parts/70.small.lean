-- NAME small
/-! the reference: the small ones -/
def inB (v a b : Int32) : Bool := decide (a ≤ v ∧ v ≤ b)
theorem kr_in {S : m_S} {h : m_H} {d : Nat} {v a b : Int32} : m_R S M_X11_in d [.int v, .int a, .int b] h (some (.int (bi (inB v a b)))) h := by
  refine ms_iload_n dX11_in_0 rfl ?_
  refine ms_iload_n dX11_in_1 rfl ?_
  refine ms_icmp_lt (tgt := 14) dX11_in_2 (by decide) (fun c2 => ?_) (fun c2 => ?_)
  · refine ms_iconst (v := nI 0) dX11_in_14 (by decide) ?_
    refine ms_zret dX11_in_15 rfl rfl (by first | exact Or.inl (by decide) | exact Or.inr (by decide) | assumption | exact bi_01 _) ⟨?_, ?_⟩
    · rw [show inB v a b = false from decide_eq_false (fun z => Int32.not_lt.mpr z.1 c2)]; rfl
    · rfl
  · refine ms_iload_n dX11_in_5 rfl ?_
    refine ms_iload_n dX11_in_6 rfl ?_
    refine ms_icmp_gt (tgt := 14) dX11_in_7 (by decide) (fun c7 => ?_) (fun c7 => ?_)
    · refine ms_iconst (v := nI 0) dX11_in_14 (by decide) ?_
      refine ms_zret dX11_in_15 rfl rfl (by first | exact Or.inl (by decide) | exact Or.inr (by decide) | assumption | exact bi_01 _) ⟨?_, ?_⟩
      · rw [show inB v a b = false from decide_eq_false (fun z => Int32.not_lt.mpr z.2 c7)]; rfl
      · rfl
    · refine ms_iconst (v := nI 1) dX11_in_10 (by decide) ?_
      refine ms_goto (tgt := 15) dX11_in_11 (by decide) ?_
      refine ms_zret dX11_in_15 rfl rfl (by first | exact Or.inl (by decide) | exact Or.inr (by decide) | assumption | exact bi_01 _) ⟨?_, ?_⟩
      · rw [show inB v a b = true from decide_eq_true ⟨Int32.not_lt.mp c2, Int32.not_lt.mp c7⟩]; rfl
      · rfl
theorem kr_has {S : m_S} {h : m_H} {d b : Nat} {x : Int32} (hb : b < 32) : m_R S M_X11_has d [.int x, .int (nI b)] h (some (.int (bi (bt x b)))) h := by
  have e := b_has x hb
  refine ms_iload_n dX11_has_0 rfl ?_
  refine ms_iload_n dX11_has_1 rfl ?_
  refine ms_ishr dX11_has_2 ?_
  refine ms_iconst (v := nI 1) dX11_has_3 (by decide) ?_
  refine ms_iand dX11_has_4 ?_
  refine ms_iconst (v := nI 1) dX11_has_5 (by decide) ?_
  refine ms_icmp_ne (tgt := 13) dX11_has_6 (by decide) (fun c6 => ?_) (fun c6 => ?_)
  · rw [e] at c6
    have e2 : bt x b = false := by
      rcases Bool.eq_false_or_eq_true (bt x b) with q | q
      · rw [q] at c6
        exact absurd rfl c6
      · exact q
    rw [e2]
    refine ms_iconst (v := nI 0) dX11_has_13 (by decide) ?_
    refine ms_zret dX11_has_14 rfl rfl (by first | exact Or.inl (by decide) | exact Or.inr (by decide) | assumption | exact bi_01 _) ⟨?_, ?_⟩
    · rfl
    · rfl
  · rw [e] at c6
    have e2 : bt x b = true := bi_inj (b := true) c6
    rw [e2]
    refine ms_iconst (v := nI 1) dX11_has_9 (by decide) ?_
    refine ms_goto (tgt := 14) dX11_has_10 (by decide) ?_
    refine ms_zret dX11_has_14 rfl rfl (by first | exact Or.inl (by decide) | exact Or.inr (by decide) | assumption | exact bi_01 _) ⟨?_, ?_⟩
    · rfl
    · rfl
theorem kr_goesWell {S : m_S} {I : m_I} {lg : Int64} {d : Nat} {x : Int32} : m_R S M_X11_goesWell d [.ref 143, .int x] (hh I lg) (some (.int (bi (decide (x = 0))))) (hh (m_up2 I 143 0 x) lg) := by
  refine ms_aload_n dX11_goesWell_0 rfl ?_
  refine ms_iload_n dX11_goesWell_1 rfl ?_
  refine q_puti dX11_goesWell_2 fX11_110 pX11_11_0 kd_11_0 (by first | decide | exact lt_sc (by omega) | exact lt_dy (by omega) | exact lt_rw (by omega) | exact lt_wa (by omega) | exact lt_le (by omega)) (by first | rfl | rw [sh_sc (by omega)] | rw [sh_dy (by omega)]) ?_
  refine ms_iload_n dX11_goesWell_5 rfl ?_
  refine ms_if_ne (tgt := 13) dX11_goesWell_6 (by decide) (fun c6 => ?_) (fun c6 => ?_)
  · refine ms_iconst (v := nI 0) dX11_goesWell_13 (by decide) ?_
    refine ms_zret dX11_goesWell_14 rfl rfl (by first | exact Or.inl (by decide) | exact Or.inr (by decide) | assumption | exact bi_01 _) ⟨?_, ?_⟩
    · rw [decide_eq_false c6]; rfl
    · rfl
  · refine ms_iconst (v := nI 1) dX11_goesWell_9 (by decide) ?_
    refine ms_goto (tgt := 14) dX11_goesWell_10 (by decide) ?_
    refine ms_zret dX11_goesWell_14 rfl rfl (by first | exact Or.inl (by decide) | exact Or.inr (by decide) | assumption | exact bi_01 _) ⟨?_, ?_⟩
    · rw [decide_eq_true c6]; rfl
    · rfl
theorem kr_thrown {S : m_S} {I : m_I} {lg : Int64} {d : Nat} : m_R S M_X11_thrown d [.ref 143] (hh I lg) (some (.int (I 143 0))) (hh I lg) := by
  refine ms_aload_n dX11_thrown_0 rfl ?_
  refine q_geti dX11_thrown_1 fX11_110 (by rw [kd_11_0]; decide) (by first | decide | exact lt_sc (by omega) | exact lt_dy (by omega) | exact lt_rw (by omega) | exact lt_wa (by omega) | exact lt_le (by omega)) (by first | rfl | rw [sh_sc (by omega)] | rw [sh_dy (by omega)]) rfl ?_
  refine ms_iret dX11_thrown_4 rfl rfl ⟨?_, ?_⟩
  · rfl
  · rfl
theorem kr_isScene {S : m_S} {I : m_I} {lg : Int64} {d : Nat} {x : Int32} (hd : 2 ≤ d) : m_R S M_X11_isScene d [.ref 143, .int x] (hh I lg) (some (.int (bi (inB x (nI 0) (I 143 3 - nI 1))))) (hh I lg) := by
  refine ms_iload_n dX11_isScene_0 rfl ?_
  refine ms_iconst (v := nI 0) dX11_isScene_1 (by decide) ?_
  refine ms_aload_n dX11_isScene_2 rfl ?_
  refine q_geti dX11_isScene_3 fX11_114 (by rw [kd_11_3]; decide) (by first | decide | exact lt_sc (by omega) | exact lt_dy (by omega) | exact lt_rw (by omega) | exact lt_wa (by omega) | exact lt_le (by omega)) (by first | rfl | rw [sh_sc (by omega)] | rw [sh_dy (by omega)]) rfl ?_
  refine ms_iconst (v := nI 1) dX11_isScene_6 (by decide) ?_
  refine ms_isub dX11_isScene_7 ?_
  refine qRS3 dX11_isScene_8 kX11_117 (d := d - 1) (by show d - 1 + 1 ≤ d; omega) rfl rfl rfl (Nat.le_of_ble_eq_true rfl) (Nat.le_of_ble_eq_true rfl) (kr_in) rfl ?_
  refine ms_zret dX11_isScene_11 rfl rfl (by first | exact Or.inl (by decide) | exact Or.inr (by decide) | assumption | exact bi_01 _) ⟨?_, ?_⟩
  · rfl
  · rfl
theorem kr_isPerson {S : m_S} {I : m_I} {lg : Int64} {d : Nat} {x : Int32} (hd : 2 ≤ d) : m_R S M_X11_isPerson d [.ref 143, .int x] (hh I lg) (some (.int (bi (inB x (nI 0) (I 143 22 - nI 1))))) (hh I lg) := by
  refine ms_iload_n dX11_isPerson_0 rfl ?_
  refine ms_iconst (v := nI 0) dX11_isPerson_1 (by decide) ?_
  refine ms_aload_n dX11_isPerson_2 rfl ?_
  refine q_geti dX11_isPerson_3 fX11_121 (by rw [kd_11_22]; decide) (by first | decide | exact lt_sc (by omega) | exact lt_dy (by omega) | exact lt_rw (by omega) | exact lt_wa (by omega) | exact lt_le (by omega)) (by first | rfl | rw [sh_sc (by omega)] | rw [sh_dy (by omega)]) rfl ?_
  refine ms_iconst (v := nI 1) dX11_isPerson_6 (by decide) ?_
  refine ms_isub dX11_isPerson_7 ?_
  refine qRS3 dX11_isPerson_8 kX11_117 (d := d - 1) (by show d - 1 + 1 ≤ d; omega) rfl rfl rfl (Nat.le_of_ble_eq_true rfl) (Nat.le_of_ble_eq_true rfl) (kr_in) rfl ?_
  refine ms_zret dX11_isPerson_11 rfl rfl (by first | exact Or.inl (by decide) | exact Or.inr (by decide) | assumption | exact bi_01 _) ⟨?_, ?_⟩
  · rfl
  · rfl
theorem kr_isPlace {S : m_S} {I : m_I} {lg : Int64} {d : Nat} {x : Int32} (hd : 2 ≤ d) : m_R S M_X11_isPlace d [.ref 143, .int x] (hh I lg) (some (.int (bi (inB x (nI 0) (I 143 28 - nI 1))))) (hh I lg) := by
  refine ms_iload_n dX11_isPlace_0 rfl ?_
  refine ms_iconst (v := nI 0) dX11_isPlace_1 (by decide) ?_
  refine ms_aload_n dX11_isPlace_2 rfl ?_
  refine q_geti dX11_isPlace_3 fX11_124 (by rw [kd_11_28]; decide) (by first | decide | exact lt_sc (by omega) | exact lt_dy (by omega) | exact lt_rw (by omega) | exact lt_wa (by omega) | exact lt_le (by omega)) (by first | rfl | rw [sh_sc (by omega)] | rw [sh_dy (by omega)]) rfl ?_
  refine ms_iconst (v := nI 1) dX11_isPlace_6 (by decide) ?_
  refine ms_isub dX11_isPlace_7 ?_
  refine qRS3 dX11_isPlace_8 kX11_117 (d := d - 1) (by show d - 1 + 1 ≤ d; omega) rfl rfl rfl (Nat.le_of_ble_eq_true rfl) (Nat.le_of_ble_eq_true rfl) (kr_in) rfl ?_
  refine ms_zret dX11_isPlace_11 rfl rfl (by first | exact Or.inl (by decide) | exact Or.inr (by decide) | assumption | exact bi_01 _) ⟨?_, ?_⟩
  · rfl
  · rfl
theorem kr_isDay {S : m_S} {h : m_H} {d : Nat} {x : Int32} (hd : 2 ≤ d) : m_R S M_X11_isDay d [.int x] h (some (.int (bi (inB x (nI 0) (nI 29))))) h := by
  refine ms_iload_n dX11_isDay_0 rfl ?_
  refine ms_iconst (v := nI 0) dX11_isDay_1 (by decide) ?_
  refine ms_bipush (v := nI 29) dX11_isDay_2 (by decide) ?_
  refine qRS3 dX11_isDay_4 kX11_117 (d := d - 1) (by show d - 1 + 1 ≤ d; omega) rfl rfl rfl (Nat.le_of_ble_eq_true rfl) (Nat.le_of_ble_eq_true rfl) (kr_in) rfl ?_
  refine ms_zret dX11_isDay_7 rfl rfl (by first | exact Or.inl (by decide) | exact Or.inr (by decide) | assumption | exact bi_01 _) ⟨?_, ?_⟩
  · rfl
  · rfl

