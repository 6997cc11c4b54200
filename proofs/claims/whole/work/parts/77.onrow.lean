-- NAME onrow
/-! the reference: a scene put on a day -/
def onR (I : m_I) (s t a n : Nat) : m_I := m_up2 (m_up2 (m_up2 (shI I 171 (8 * t + a) (8 * t + n)) 171 (8 * t + a) (nI s)) 172 t (nI (n + 1))) 159 s (nI t)
theorem kr_on {S : m_S} {I : m_I} {lg : Int64} {d t n s a : Nat} (ht : t < 30) (hs : s < 20) (hn : I 172 t = nI n) (hn2 : n < 8) (ha : a ≤ n) : m_R S M_X11_on d [.ref 143, .int (nI s), .int (nI t), .int (nI a)] (hh I lg) none (hh (onR I s t a n) lg) := by
  have hnn : ∀ i, (shI I 171 (8 * t + i) (8 * t + n)) 172 t = nI n := fun i => (shI_ne (by decide)).trans hn
  have loop : ∀ i, a ≤ i → i ≤ n → m_W S (M_X11_on, d, fun w g => w = none ∧ g = hh (onR I s t a n) lg, fun _ _ => False) 8 [some (.ref 143), some (.int (nI s)), some (.int (nI t)), some (.int (nI a)), some (.int (nI i))] [] (hh (shI I 171 (8 * t + i) (8 * t + n)) lg) 0 0 := by
    intro i
    induction i with
    | zero =>
      intro h1 h2
      have hn0 := hnn a
      obtain rfl : a = 0 := by omega
      refine ms_iload dX11_on_8 rfl ?_
      refine ms_iload_n dX11_on_10 rfl ?_
      refine n_icmp_le (tgt := 46) dX11_on_11 (by decide) (by omega) (by omega) (fun c11 => ?_) (fun c11 => ?_)
      · refine ms_aload_n dX11_on_46 rfl ?_
        refine q_getr dX11_on_47 fX11_92 kd_11_35 (by first | decide | exact lt_sc (by omega) | exact lt_dy (by omega) | exact lt_rw (by omega) | exact lt_wa (by omega) | exact lt_le (by omega)) (by first | rfl | rw [sh_sc (by omega)] | rw [sh_dy (by omega)]) (by first | rfl | exact rf_wa (by omega) | exact rf_le (by omega) | exact rf_rw (by omega)) ?_
        refine ms_bipush (v := nI 8) dX11_on_50 (by decide) ?_
        refine ms_iload_n dX11_on_52 rfl ?_
        refine n_imul dX11_on_53 ?_
        refine ms_iload_n dX11_on_54 rfl ?_
        refine n_iadd dX11_on_55 ?_
        refine ms_iload_n dX11_on_56 rfl ?_
        refine q_iast dX11_on_57 (by first | decide | exact lt_sc (by omega) | exact lt_dy (by omega) | exact lt_rw (by omega) | exact lt_wa (by omega) | exact lt_le (by omega)) (by first | rfl | exact sh_rw (by omega) | exact sh_wa (by omega) | exact sh_le (by omega)) (by omega) (by decide) ?_
        refine ms_aload_n dX11_on_58 rfl ?_
        refine q_getr dX11_on_59 fX11_95 kd_11_36 (by first | decide | exact lt_sc (by omega) | exact lt_dy (by omega) | exact lt_rw (by omega) | exact lt_wa (by omega) | exact lt_le (by omega)) (by first | rfl | rw [sh_sc (by omega)] | rw [sh_dy (by omega)]) (by first | rfl | exact rf_wa (by omega) | exact rf_le (by omega) | exact rf_rw (by omega)) ?_
        refine ms_iload_n dX11_on_62 rfl ?_
        refine ms_dup2 dX11_on_63 rfl rfl ?_
        refine q_iald dX11_on_64 (by first | decide | exact lt_sc (by omega) | exact lt_dy (by omega) | exact lt_rw (by omega) | exact lt_wa (by omega) | exact lt_le (by omega)) (by first | rfl | exact sh_rw (by omega) | exact sh_wa (by omega) | exact sh_le (by omega)) (by omega) (by decide) (by first | assumption | ((repeat ((with_reducible apply m_up2_tr); · first | omega | (intro z; (try unfold scI at z); (try unfold dyI at z); (try unfold rwI at z); (try unfold waI at z); (try unfold leI at z); omega))); first | assumption | exact m_up2_eq | rfl)) ?_
        refine ms_iconst (v := nI 1) dX11_on_65 (by decide) ?_
        refine n_iadd dX11_on_66 ?_
        refine q_iast dX11_on_67 (by first | decide | exact lt_sc (by omega) | exact lt_dy (by omega) | exact lt_rw (by omega) | exact lt_wa (by omega) | exact lt_le (by omega)) (by first | rfl | exact sh_rw (by omega) | exact sh_wa (by omega) | exact sh_le (by omega)) (by omega) (by decide) ?_
        refine ms_aload_n dX11_on_68 rfl ?_
        refine q_getr dX11_on_69 fX11_56 kd_11_19 (by first | decide | exact lt_sc (by omega) | exact lt_dy (by omega) | exact lt_rw (by omega) | exact lt_wa (by omega) | exact lt_le (by omega)) (by first | rfl | rw [sh_sc (by omega)] | rw [sh_dy (by omega)]) (by first | rfl | exact rf_wa (by omega) | exact rf_le (by omega) | exact rf_rw (by omega)) ?_
        refine ms_iload_n dX11_on_72 rfl ?_
        refine ms_iload_n dX11_on_73 rfl ?_
        refine q_iast dX11_on_74 (by first | decide | exact lt_sc (by omega) | exact lt_dy (by omega) | exact lt_rw (by omega) | exact lt_wa (by omega) | exact lt_le (by omega)) (by first | rfl | exact sh_rw (by omega) | exact sh_wa (by omega) | exact sh_le (by omega)) (by omega) (by decide) ?_
        refine ms_vret dX11_on_75 rfl rfl ⟨rfl, ?_⟩
        · rfl
      · omega
    | succ i ih =>
      intro h1 h2
      have hn0 := hnn (i + 1)
      refine ms_iload dX11_on_8 rfl ?_
      refine ms_iload_n dX11_on_10 rfl ?_
      refine n_icmp_le (tgt := 46) dX11_on_11 (by decide) (by omega) (by omega) (fun c11 => ?_) (fun c11 => ?_)
      · obtain rfl : a = i + 1 := by omega
        refine ms_aload_n dX11_on_46 rfl ?_
        refine q_getr dX11_on_47 fX11_92 kd_11_35 (by first | decide | exact lt_sc (by omega) | exact lt_dy (by omega) | exact lt_rw (by omega) | exact lt_wa (by omega) | exact lt_le (by omega)) (by first | rfl | rw [sh_sc (by omega)] | rw [sh_dy (by omega)]) (by first | rfl | exact rf_wa (by omega) | exact rf_le (by omega) | exact rf_rw (by omega)) ?_
        refine ms_bipush (v := nI 8) dX11_on_50 (by decide) ?_
        refine ms_iload_n dX11_on_52 rfl ?_
        refine n_imul dX11_on_53 ?_
        refine ms_iload_n dX11_on_54 rfl ?_
        refine n_iadd dX11_on_55 ?_
        refine ms_iload_n dX11_on_56 rfl ?_
        refine q_iast dX11_on_57 (by first | decide | exact lt_sc (by omega) | exact lt_dy (by omega) | exact lt_rw (by omega) | exact lt_wa (by omega) | exact lt_le (by omega)) (by first | rfl | exact sh_rw (by omega) | exact sh_wa (by omega) | exact sh_le (by omega)) (by omega) (by decide) ?_
        refine ms_aload_n dX11_on_58 rfl ?_
        refine q_getr dX11_on_59 fX11_95 kd_11_36 (by first | decide | exact lt_sc (by omega) | exact lt_dy (by omega) | exact lt_rw (by omega) | exact lt_wa (by omega) | exact lt_le (by omega)) (by first | rfl | rw [sh_sc (by omega)] | rw [sh_dy (by omega)]) (by first | rfl | exact rf_wa (by omega) | exact rf_le (by omega) | exact rf_rw (by omega)) ?_
        refine ms_iload_n dX11_on_62 rfl ?_
        refine ms_dup2 dX11_on_63 rfl rfl ?_
        refine q_iald dX11_on_64 (by first | decide | exact lt_sc (by omega) | exact lt_dy (by omega) | exact lt_rw (by omega) | exact lt_wa (by omega) | exact lt_le (by omega)) (by first | rfl | exact sh_rw (by omega) | exact sh_wa (by omega) | exact sh_le (by omega)) (by omega) (by decide) (by first | assumption | ((repeat ((with_reducible apply m_up2_tr); · first | omega | (intro z; (try unfold scI at z); (try unfold dyI at z); (try unfold rwI at z); (try unfold waI at z); (try unfold leI at z); omega))); first | assumption | exact m_up2_eq | rfl)) ?_
        refine ms_iconst (v := nI 1) dX11_on_65 (by decide) ?_
        refine n_iadd dX11_on_66 ?_
        refine q_iast dX11_on_67 (by first | decide | exact lt_sc (by omega) | exact lt_dy (by omega) | exact lt_rw (by omega) | exact lt_wa (by omega) | exact lt_le (by omega)) (by first | rfl | exact sh_rw (by omega) | exact sh_wa (by omega) | exact sh_le (by omega)) (by omega) (by decide) ?_
        refine ms_aload_n dX11_on_68 rfl ?_
        refine q_getr dX11_on_69 fX11_56 kd_11_19 (by first | decide | exact lt_sc (by omega) | exact lt_dy (by omega) | exact lt_rw (by omega) | exact lt_wa (by omega) | exact lt_le (by omega)) (by first | rfl | rw [sh_sc (by omega)] | rw [sh_dy (by omega)]) (by first | rfl | exact rf_wa (by omega) | exact rf_le (by omega) | exact rf_rw (by omega)) ?_
        refine ms_iload_n dX11_on_72 rfl ?_
        refine ms_iload_n dX11_on_73 rfl ?_
        refine q_iast dX11_on_74 (by first | decide | exact lt_sc (by omega) | exact lt_dy (by omega) | exact lt_rw (by omega) | exact lt_wa (by omega) | exact lt_le (by omega)) (by first | rfl | exact sh_rw (by omega) | exact sh_wa (by omega) | exact sh_le (by omega)) (by omega) (by decide) ?_
        refine ms_vret dX11_on_75 rfl rfl ⟨rfl, ?_⟩
        · rfl
      · refine ms_aload_n dX11_on_14 rfl ?_
        refine q_getr dX11_on_15 fX11_92 kd_11_35 (by first | decide | exact lt_sc (by omega) | exact lt_dy (by omega) | exact lt_rw (by omega) | exact lt_wa (by omega) | exact lt_le (by omega)) (by first | rfl | rw [sh_sc (by omega)] | rw [sh_dy (by omega)]) (by first | rfl | exact rf_wa (by omega) | exact rf_le (by omega) | exact rf_rw (by omega)) ?_
        refine ms_bipush (v := nI 8) dX11_on_18 (by decide) ?_
        refine ms_iload_n dX11_on_20 rfl ?_
        refine n_imul dX11_on_21 ?_
        refine ms_iload dX11_on_22 rfl ?_
        refine n_iadd dX11_on_24 ?_
        refine ms_aload_n dX11_on_25 rfl ?_
        refine q_getr dX11_on_26 fX11_92 kd_11_35 (by first | decide | exact lt_sc (by omega) | exact lt_dy (by omega) | exact lt_rw (by omega) | exact lt_wa (by omega) | exact lt_le (by omega)) (by first | rfl | rw [sh_sc (by omega)] | rw [sh_dy (by omega)]) (by first | rfl | exact rf_wa (by omega) | exact rf_le (by omega) | exact rf_rw (by omega)) ?_
        refine ms_bipush (v := nI 8) dX11_on_29 (by decide) ?_
        refine ms_iload_n dX11_on_31 rfl ?_
        refine n_imul dX11_on_32 ?_
        refine ms_iload dX11_on_33 rfl ?_
        refine n_iadd dX11_on_35 ?_
        refine ms_iconst (v := nI 1) dX11_on_36 (by decide) ?_
        refine ms_isub dX11_on_37 ?_
        rw [show nI (8 * t + (i + 1)) - nI 1 = nI (8 * t + i) from pk_sub (by omega)]
        refine q_iald dX11_on_38 (by first | decide | exact lt_sc (by omega) | exact lt_dy (by omega) | exact lt_rw (by omega) | exact lt_wa (by omega) | exact lt_le (by omega)) (by first | rfl | exact sh_rw (by omega) | exact sh_wa (by omega) | exact sh_le (by omega)) (by omega) (by decide) rfl ?_
        refine q_iast dX11_on_39 (by first | decide | exact lt_sc (by omega) | exact lt_dy (by omega) | exact lt_rw (by omega) | exact lt_wa (by omega) | exact lt_le (by omega)) (by first | rfl | exact sh_rw (by omega) | exact sh_wa (by omega) | exact sh_le (by omega)) (by omega) (by decide) ?_
        refine n_iincm dX11_on_40 rfl ?_
        refine ms_goto (tgt := 8) dX11_on_43 (by decide) ?_
        rw [show m_up2 (shI I 171 (8 * t + (i + 1)) (8 * t + n)) 171 (8 * t + (i + 1)) (shI I 171 (8 * t + (i + 1)) (8 * t + n) 171 (8 * t + i)) = shI I 171 (8 * t + i) (8 * t + n) from shI_step (lo := 8 * t + i) (hi := 8 * t + n) I (show 8 * t + i + 1 ≤ 8 * t + n by omega)]
        exact ih (by omega) (by omega)
  have hn0 := hn
  refine ms_aload_n dX11_on_0 rfl ?_
  refine q_getr dX11_on_1 fX11_95 kd_11_36 (by first | decide | exact lt_sc (by omega) | exact lt_dy (by omega) | exact lt_rw (by omega) | exact lt_wa (by omega) | exact lt_le (by omega)) (by first | rfl | rw [sh_sc (by omega)] | rw [sh_dy (by omega)]) (by first | rfl | exact rf_wa (by omega) | exact rf_le (by omega) | exact rf_rw (by omega)) ?_
  refine ms_iload_n dX11_on_4 rfl ?_
  refine q_iald dX11_on_5 (by first | decide | exact lt_sc (by omega) | exact lt_dy (by omega) | exact lt_rw (by omega) | exact lt_wa (by omega) | exact lt_le (by omega)) (by first | rfl | exact sh_rw (by omega) | exact sh_wa (by omega) | exact sh_le (by omega)) (by omega) (by decide) hn ?_
  refine ms_istore dX11_on_6 (Nat.le_of_ble_eq_true rfl) ?_
  have h9 := loop n ha (Nat.le_refl _)
  rw [shI_0] at h9
  exact h9

