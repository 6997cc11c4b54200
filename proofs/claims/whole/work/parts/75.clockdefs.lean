-- NAME clockdefs
/-! the reference: what its clock is told by -/
def eiR (I : m_I) : Int32 := if I 143 21 = 0 then nI 15 else (I 143 20 + I 143 21 - nI 1) / I 143 21
theorem kr_eighth {S : m_S} {I : m_I} {lg : Int64} {d : Nat} : m_R S M_X11_eighth d [.ref 143] (hh I lg) (some (.int (eiR I))) (hh I lg) := by
  refine ms_aload_n dX11_eighth_0 rfl ?_
  refine q_geti dX11_eighth_1 fX11_172 (by rw [kd_11_21]; decide) (by first | decide | exact lt_sc (by omega) | exact lt_dy (by omega) | exact lt_rw (by omega) | exact lt_wa (by omega) | exact lt_le (by omega)) (by first | rfl | rw [sh_sc (by omega)] | rw [sh_dy (by omega)]) (by first | assumption | ((repeat ((with_reducible apply m_up2_tr); · first | omega | (intro z; (try unfold scI at z); (try unfold dyI at z); (try unfold rwI at z); (try unfold waI at z); (try unfold leI at z); omega))); first | assumption | exact m_up2_eq | rfl)) ?_
  refine ms_if_ne (tgt := 12) dX11_eighth_4 (by decide) (fun c4 => ?_) (fun c4 => ?_)
  · refine ms_aload_n dX11_eighth_12 rfl ?_
    refine q_geti dX11_eighth_13 fX11_175 (by rw [kd_11_20]; decide) (by first | decide | exact lt_sc (by omega) | exact lt_dy (by omega) | exact lt_rw (by omega) | exact lt_wa (by omega) | exact lt_le (by omega)) (by first | rfl | rw [sh_sc (by omega)] | rw [sh_dy (by omega)]) (by first | assumption | ((repeat ((with_reducible apply m_up2_tr); · first | omega | (intro z; (try unfold scI at z); (try unfold dyI at z); (try unfold rwI at z); (try unfold waI at z); (try unfold leI at z); omega))); first | assumption | exact m_up2_eq | rfl)) ?_
    refine ms_aload_n dX11_eighth_16 rfl ?_
    refine q_geti dX11_eighth_17 fX11_172 (by rw [kd_11_21]; decide) (by first | decide | exact lt_sc (by omega) | exact lt_dy (by omega) | exact lt_rw (by omega) | exact lt_wa (by omega) | exact lt_le (by omega)) (by first | rfl | rw [sh_sc (by omega)] | rw [sh_dy (by omega)]) (by first | assumption | ((repeat ((with_reducible apply m_up2_tr); · first | omega | (intro z; (try unfold scI at z); (try unfold dyI at z); (try unfold rwI at z); (try unfold waI at z); (try unfold leI at z); omega))); first | assumption | exact m_up2_eq | rfl)) ?_
    refine ms_iadd dX11_eighth_20 ?_
    refine ms_iconst (v := nI 1) dX11_eighth_21 (by decide) ?_
    refine ms_isub dX11_eighth_22 ?_
    refine ms_aload_n dX11_eighth_23 rfl ?_
    refine q_geti dX11_eighth_24 fX11_172 (by rw [kd_11_21]; decide) (by first | decide | exact lt_sc (by omega) | exact lt_dy (by omega) | exact lt_rw (by omega) | exact lt_wa (by omega) | exact lt_le (by omega)) (by first | rfl | rw [sh_sc (by omega)] | rw [sh_dy (by omega)]) (by first | assumption | ((repeat ((with_reducible apply m_up2_tr); · first | omega | (intro z; (try unfold scI at z); (try unfold dyI at z); (try unfold rwI at z); (try unfold waI at z); (try unfold leI at z); omega))); first | assumption | exact m_up2_eq | rfl)) ?_
    refine ms_idiv dX11_eighth_27 (by first | decide | assumption) ?_
    refine ms_iret dX11_eighth_28 rfl rfl ⟨?_, ?_⟩
    · simp_all [eiR]
    · rfl
  · refine ms_bipush (v := nI 15) dX11_eighth_7 (by decide) ?_
    refine ms_goto (tgt := 28) dX11_eighth_9 (by decide) ?_
    refine ms_iret dX11_eighth_28 rfl rfl ⟨?_, ?_⟩
    · simp_all [eiR]
    · rfl
/-- begins and ends of the first k scenes -/
def rrM (I : m_I) (bg en : Nat → Int32) (k : Nat) : m_I := fun a b => if a = 174 ∧ b < k then bg b else if a = 175 ∧ b < k then en b else I a b
theorem rrM_0 (I : m_I) (bg en : Nat → Int32) : rrM I bg en 0 = I := by
  funext a b
  unfold rrM
  rw [if_neg (by omega), if_neg (by omega)]
theorem rrM_ne {I : m_I} {bg en : Nat → Int32} {k a b : Nat} (h : a ≠ 174 ∧ a ≠ 175) : rrM I bg en k a b = I a b := by
  unfold rrM
  rw [if_neg (fun z => h.1 z.1), if_neg (fun z => h.2 z.1)]
theorem rrM_step (I : m_I) (bg en : Nat → Int32) (k : Nat) : m_up2 (m_up2 (rrM I bg en k) 174 k (bg k)) 175 k (en k) = rrM I bg en (k + 1) := by
  funext a b
  unfold m_up2 rrM
  by_cases h1 : a = 175 ∧ b = k
  · rw [if_pos h1, if_neg (by omega), if_pos (by omega), h1.2]
  · rw [if_neg h1]
    by_cases h2 : a = 174 ∧ b = k
    · rw [if_pos h2, if_pos (by omega), h2.2]
    · rw [if_neg h2]
      by_cases h3 : a = 174 ∧ b < k
      · rw [if_pos h3, if_pos (by omega)]
      · by_cases h4 : a = 175 ∧ b < k
        · rw [if_neg h3, if_pos h4, if_neg (show ¬ (a = 174 ∧ b < k + 1) by omega), if_pos (show a = 175 ∧ b < k + 1 by omega)]
        · rw [if_neg h3, if_neg h4, if_neg (show ¬ (a = 174 ∧ b < k + 1) by omega), if_neg (show ¬ (a = 175 ∧ b < k + 1) by omega)]
/-- how long, and the move before, in the shape of the class's -/
def laR (I : m_I) (w : Nat → Nat) (k : Nat) : Int32 := if I 156 (w k) = 0 then I 150 (w k) * eiR I else I 158 (w k)
def moR (I : m_I) (pl : Nat → Nat) (k : Nat) : Int32 := if k = 0 then nI 0 else if pl (k - 1) = pl k then nI 0 else I 167 (6 * pl (k - 1) + pl k)

