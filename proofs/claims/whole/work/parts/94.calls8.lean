-- NAME calls8
/-! calls: next -/
def edH (I : m_I) (t j : Nat) : m_I := (edS I t (vw I t) (vn I t) j).1
def edN (I : m_I) (t j : Nat) : Nat := (edS I t (vw I t) (vn I t) j).2
theorem ed_ok {c : Nat} {I : m_I} {t : Nat} (hI : Iv c I) (ht : t < 30) : ∀ j, j ≤ vn I t → Iv c (edH I t j) ∧ vn (edH I t j) t = edN I t j ∧ vn I t - j ≤ edN I t j ∧ (∀ i, i < vn I t - j → vw (edH I t j) t i = vw I t i) ∧ vm (edH I t j) = vm I ∧ ∀ a b, 143 ≤ a ∨ a = 72 → edH I t j a b = I a b := by
  have hV := hI.1
  have hm := hV.1
  intro j
  induction j with
  | zero => exact fun _ => ⟨hI, rfl, Nat.le_refl _, fun _ _ => rfl, rfl, fun _ _ _ => rfl⟩
  | succ j ih =>
    intro hj
    obtain ⟨g1, g2, g3, g4, g5, g6⟩ := ih (by omega)
    obtain ⟨p, hp⟩ : ∃ p, p = vn I t - 1 - j := ⟨_, rfl⟩
    have hpn : p < vn I t := by omega
    have hws := Vw_w20 hV ht hpn
    by_cases hsh : edH I t j (scI (vw I t p)) 12 = 0
    · have e : edS I t (vw I t) (vn I t) (j + 1) = (toI (m_up2 (edH I t j) (scI (vw I t p)) 13 (nI 1)) (vw I t p) t p (edN I t j), edN I t j - 1) := by
        conv => lhs; unfold edS
        rw [← hp]
        exact if_pos hsh
      obtain ⟨H, hH⟩ : ∃ H, H = m_up2 (edH I t j) (scI (vw I t p)) 13 (nI 1) := ⟨_, rfl⟩
      have hq : ∀ a b, ¬ (a = scI (vw I t p) ∧ b = 13) → H a b = edH I t j a b := fun a b h => by rw [hH]; exact m_up2_ne h
      have hIH : Iv c H := by rw [hH]; exact Iv_free g1 (Nat.le_refl _) (by unfold usd scI; omega)
      have en : vn H t = edN I t j := (congrArg vN (hq _ _ (by unfold dyI scI; omega))).trans g2
      have ew : ∀ i, vw H t i = vw (edH I t j) t i := fun i => congrArg vN (hq _ _ (by unfold rwI scI; omega))
      have ew2 : vw H t p = vw I t p := (ew p).trans (g4 p (by omega))
      have eT : edH I t (j + 1) = toI H (vw I t p) t p (vn H t) := by
        unfold edH
        rw [e, en, hH]
      have eN : edN I t (j + 1) = edN I t j - 1 := by
        unfold edN
        rw [e]
        rfl
      have hne : ∀ a b, a ≠ rwI t → ¬ (a = dyI t ∧ b = 6) → ¬ (a = scI (vw I t p) ∧ b = 15) → ¬ (a = scI (vw I t p) ∧ b = 13) → edH I t (j + 1) a b = edH I t j a b := fun a b h1 h2 h3 h4 => by
        rw [eT, toI_ne h1 h2 h3]
        exact hq a b h4
      refine ⟨by rw [eT]; exact Iv_toI hIH (Nat.le_refl _) ht (by omega) ew2, ?_, by omega, fun i hi => ?_, ?_, fun a b hab => ?_⟩
      · rw [eT, eN, en]
        have hle := g1.1.2.1 t ht
        exact (congrArg vN (toI_n hws)).trans (vN_nI (by omega))
      · rw [eT]
        have e9 : toI H (vw I t p) t p (vn H t) (rwI t) i = H (rwI t) i := (toI_r hws).trans (deI_lo (by omega))
        exact (congrArg vN e9).trans ((ew i).trans (g4 i (by omega)))
      · exact (congrArg vN (hne _ _ (by unfold rwI; omega) (by unfold dyI; omega) (by unfold scI; omega) (by unfold scI; omega))).trans g5
      · exact (hne a b (by unfold rwI; omega) (by unfold dyI; omega) (by unfold scI; omega) (by unfold scI; omega)).trans (g6 a b hab)
    · have e : edS I t (vw I t) (vn I t) (j + 1) = edS I t (vw I t) (vn I t) j := by
        conv => lhs; unfold edS
        rw [← hp]
        exact if_neg hsh
      have eT : edH I t (j + 1) = edH I t j := congrArg Prod.fst e
      have eN : edN I t (j + 1) = edN I t j := congrArg Prod.snd e
      rw [eT, eN]
      exact ⟨g1, g2, by omega, fun i hi => g4 i (by omega), g5, g6⟩
theorem r_next {S : m_S} {c : Nat} {I : m_I} {t : Nat} {r : Int32} (hI : Iv c I) (ht : t < 29) (hnow : I 72 4 = nI t) (hr : ∀ J : m_I, Cr (m_up2 (edH I t (vn I t)) 72 4 (nI (t + 1))) J → r = nI (fb_ct (fun i => decide (stR J i = 3)) (vm I))) : ∀ (k : Nat) (Jj : m_I), k ≤ vn I t → Cr (edH I t (vn I t - k)) Jj → ∃ J2, (∀ lg d d2, 9 ≤ d → m_W S (M_X11_next, d, fun w9 g => w9 = some (.int r) ∧ g = hh J2 lg, fun _ _ => False) 35 [some (.ref 143), some (.int (nI k - nI 1)), d2] [] (hh Jj lg) 0 0) ∧ Cr (m_up2 (edH I t (vn I t)) 72 4 (nI (t + 1))) J2 ∧ fQ Jj J2 ∧ J2 143 0 = Jj 143 0 := by
  have ht30 : t < 30 := by omega
  have hV := hI.1
  have hm := hV.1
  intro k
  induction k with
  | zero =>
    intro Jj _ hC
    rw [Nat.sub_zero] at hC
    obtain ⟨g1, g2, g3, g4, g5, g6⟩ := ed_ok hI ht30 (vn I t) (Nat.le_refl _)
    have hm2 := g1.1.1
    have hC2 : Cr (m_up2 (edH I t (vn I t)) 72 4 (nI (t + 1))) (m_up2 Jj 143 1 (nI (t + 1))) := Cr_up hm2 hC (a := 143) (b := 1) (by unfold lvR; omega) rfl (by decide) (by decide)
    refine ⟨_, fun lg d d2 hd => ?_, hC2, fQ_up (by decide), m_up2_ne (by decide)⟩
    have n9 : Jj 143 1 = nI t := hC.now.trans ((g6 _ _ (by omega)).trans hnow)
    have how := kr_owed (S := S) (I := m_up2 Jj 143 1 (nI (t + 1))) (lg := lg) (d := d - 1) (m := vm I) (by omega) ((m_up2_ne (by decide)).trans (hC.m.trans ((nI_vN _).symm.trans (by show nI (vm _) = _; rw [g5])))) hm
    rw [hr _ hC2]
    refine ms_iload_n dX11_next_35 rfl ?_
    refine ms_if_lt (tgt := 81) dX11_next_36 (by decide) (fun c36 => ?_) (fun c36 => absurd c36 (by decide))
    refine ms_aload_n dX11_next_81 rfl ?_
    refine ms_dup dX11_next_82 rfl ?_
    refine q_geti dX11_next_83 fX11_192 (by rw [kd_11_1]; decide) (by first | decide | exact lt_sc (by omega) | exact lt_dy (by omega) | exact lt_rw (by omega) | exact lt_wa (by omega) | exact lt_le (by omega)) (by first | rfl | rw [sh_sc (by omega)] | rw [sh_dy (by omega)]) n9 ?_
    refine ms_iconst (v := nI 1) dX11_next_86 (by decide) ?_
    refine n_iadd dX11_next_87 ?_
    refine q_puti dX11_next_88 fX11_192 pX11_11_1 kd_11_1 (by first | decide | exact lt_sc (by omega) | exact lt_dy (by omega) | exact lt_rw (by omega) | exact lt_wa (by omega) | exact lt_le (by omega)) (by first | rfl | rw [sh_sc (by omega)] | rw [sh_dy (by omega)]) ?_
    refine ms_aload_n dX11_next_91 rfl ?_
    refine qRV0 dX11_next_92 kX11_217 (by show _ < 178; first | decide | exact lt_sc (by omega) | exact lt_dy (by omega)) (by show (sh0 _).1 = _; first | rfl | rw [sh_sc (by omega)] | rw [sh_dy (by omega)]) (d := d - 1) (by show d - 1 + 1 ≤ d; omega)  (Nat.le_of_ble_eq_true rfl) (Nat.le_of_ble_eq_true rfl) (how) rfl ?_
    refine ms_iret dX11_next_95 rfl rfl ⟨?_, ?_⟩
    · rfl
    · rfl
  | succ k ih =>
    intro Jj hk hC
    obtain ⟨g1, g2, g3, g4, g5, g6⟩ := ed_ok hI ht30 (vn I t - (k + 1)) (by omega)
    obtain ⟨j, hj⟩ : ∃ j, j = vn I t - (k + 1) := ⟨_, rfl⟩
    rw [← hj] at hC g1 g2 g3 g4 g5 g6
    have hj1 : vn I t - k = j + 1 := by omega
    have hkp : k = vn I t - 1 - j := by omega
    have hkn : k < vn I t := by omega
    have hws := Vw_w20 hV ht30 hkn
    have hVj := g1.1
    have hmj := hVj.1
    have hkj : k < vn (edH I t j) t := by omega
    have ewk : vw (edH I t j) t k = vw I t k := g4 k (by omega)
    have hwm : vw I t k < vm (edH I t j) := by rw [g5]; exact (hV.2.2.1 t k ht30 hkn).1
    have hle8 := hVj.2.1 t ht30
    rw [show nI (k + 1) - nI 1 = nI k from pk_sub (by omega)]
    have n9 : Jj 143 1 = nI t := hC.now.trans ((g6 _ _ (by omega)).trans hnow)
    have r9 : Jj 171 (8 * t + k) = nI (vw I t k) := by
      have e := (hC.dr hVj ht30).2.2.2 k hkj
      rw [ewk] at e
      exact e.1
    have s9 : Jj 156 (vw I t k) = edH I t j (scI (vw I t k)) 12 := hC.sh hws
    by_cases hsh : edH I t j (scI (vw I t k)) 12 = 0
    · obtain ⟨H, hH⟩ : ∃ H, H = m_up2 (edH I t j) (scI (vw I t k)) 13 (nI 1) := ⟨_, rfl⟩
      have hq : ∀ a b, ¬ (a = scI (vw I t k) ∧ b = 13) → H a b = edH I t j a b := fun a b h => by rw [hH]; exact m_up2_ne h
      have hIH : Iv c H := by rw [hH]; exact Iv_free g1 (Nat.le_refl _) (by unfold usd scI; omega)
      have en : vn H t = edN I t j := (congrArg vN (hq _ _ (by unfold dyI scI; omega))).trans g2
      have ew : vw H t k = vw I t k := (congrArg vN (hq _ _ (by unfold rwI scI; omega))).trans ewk
      have em : vm H = vm (edH I t j) := congrArg vN (hq _ _ (by unfold scI; omega))
      have hCH : Cr H (m_up2 Jj 157 (vw I t k) (nI 1)) := by rw [hH]; exact Cr_up hmj hC (a := 157) (b := vw I t k) (by unfold lvR; omega) rfl (by unfold scI; omega) (by unfold scI; omega)
      have eT : edH I t (j + 1) = toI H (vw I t k) t k (vn H t) := by
        unfold edH
        have e : edS I t (vw I t) (vn I t) (j + 1) = (toI (m_up2 (edH I t j) (scI (vw I t k)) 13 (nI 1)) (vw I t k) t k (edN I t j), edN I t j - 1) := by
          conv => lhs; unfold edS
          rw [← hkp]
          exact if_pos hsh
        rw [e, en, hH]
      have hCT : Cr (edH I t (j + 1)) (ofR (m_up2 Jj 157 (vw I t k) (nI 1)) (vw I t k) t k (vn H t)) := by
        rw [eT]
        exact Cr_take (by omega) hCH ht30 (by omega) (by omega)
      obtain ⟨J2, q1, q2, q3, q4⟩ := ih _ (by omega) (by rw [hj1]; exact hCT)
      refine ⟨J2, fun lg d d2 hd => ?_, q2, fQ_tr (fQ_up (by decide)) (fQ_tr fQ_of q3), q4.trans (ofR_thr.trans (m_up2_ne (by omega)))⟩
      have hof := kr_offV (S := S) (lg := lg) (d := d - 1) (by omega) hCH hIH.1 ht30 (by omega) ew
      have hn36 := nI_pos (n := k) (by omega)
      refine ms_iload_n dX11_next_35 rfl ?_
      refine ms_if_lt (tgt := 81) dX11_next_36 (by decide) (fun c36 => absurd c36 (hn36)) (fun c36 => ?_)
      refine ms_aload_n dX11_next_39 rfl ?_
      refine q_getr dX11_next_40 fX11_92 kd_11_35 (by first | decide | exact lt_sc (by omega) | exact lt_dy (by omega) | exact lt_rw (by omega) | exact lt_wa (by omega) | exact lt_le (by omega)) (by first | rfl | rw [sh_sc (by omega)] | rw [sh_dy (by omega)]) (by first | rfl | exact rf_wa (by omega) | exact rf_le (by omega) | exact rf_rw (by omega)) ?_
      refine ms_bipush (v := nI 8) dX11_next_43 (by decide) ?_
      refine ms_aload_n dX11_next_45 rfl ?_
      refine q_geti dX11_next_46 fX11_192 (by rw [kd_11_1]; decide) (by first | decide | exact lt_sc (by omega) | exact lt_dy (by omega) | exact lt_rw (by omega) | exact lt_wa (by omega) | exact lt_le (by omega)) (by first | rfl | rw [sh_sc (by omega)] | rw [sh_dy (by omega)]) n9 ?_
      refine n_imul dX11_next_49 ?_
      refine ms_iload_n dX11_next_50 rfl ?_
      refine n_iadd dX11_next_51 ?_
      refine q_iald dX11_next_52 (by first | decide | exact lt_sc (by omega) | exact lt_dy (by omega) | exact lt_rw (by omega) | exact lt_wa (by omega) | exact lt_le (by omega)) (by first | rfl | exact sh_rw (by omega) | exact sh_wa (by omega) | exact sh_le (by omega)) (by omega) (by decide) r9 ?_
      refine ms_istore_n dX11_next_53 (Nat.le_of_ble_eq_true rfl) ?_
      refine ms_aload_n dX11_next_54 rfl ?_
      refine q_getr dX11_next_55 fX11_47 kd_11_16 (by first | decide | exact lt_sc (by omega) | exact lt_dy (by omega) | exact lt_rw (by omega) | exact lt_wa (by omega) | exact lt_le (by omega)) (by first | rfl | rw [sh_sc (by omega)] | rw [sh_dy (by omega)]) (by first | rfl | exact rf_wa (by omega) | exact rf_le (by omega) | exact rf_rw (by omega)) ?_
      refine ms_iload_n dX11_next_58 rfl ?_
      refine q_zald dX11_next_59 (by first | decide | exact lt_sc (by omega) | exact lt_dy (by omega) | exact lt_rw (by omega) | exact lt_wa (by omega) | exact lt_le (by omega)) (by first | rfl | exact sh_rw (by omega) | exact sh_wa (by omega) | exact sh_le (by omega)) (by omega) (by decide) s9 ?_
      refine ms_if_ne (tgt := 75) dX11_next_60 (by decide) (fun c60 => absurd c60 (fun q => q hsh)) (fun c60 => ?_)
      refine ms_aload_n dX11_next_63 rfl ?_
      refine q_getr dX11_next_64 fX11_50 kd_11_17 (by first | decide | exact lt_sc (by omega) | exact lt_dy (by omega) | exact lt_rw (by omega) | exact lt_wa (by omega) | exact lt_le (by omega)) (by first | rfl | rw [sh_sc (by omega)] | rw [sh_dy (by omega)]) (by first | rfl | exact rf_wa (by omega) | exact rf_le (by omega) | exact rf_rw (by omega)) ?_
      refine ms_iload_n dX11_next_67 rfl ?_
      refine ms_iconst (v := nI 1) dX11_next_68 (by decide) ?_
      refine q_zast dX11_next_69 (by first | decide | exact lt_sc (by omega) | exact lt_dy (by omega) | exact lt_rw (by omega) | exact lt_wa (by omega) | exact lt_le (by omega)) (by first | rfl | exact sh_rw (by omega) | exact sh_wa (by omega) | exact sh_le (by omega)) (by omega) (by decide) (by first | exact Or.inl (by decide) | exact Or.inr (by decide) | assumption | exact bi_01 _) ?_
      refine ms_aload_n dX11_next_70 rfl ?_
      refine ms_iload_n dX11_next_71 rfl ?_
      refine qRV1 dX11_next_72 kX11_148 (by show _ < 178; first | decide | exact lt_sc (by omega) | exact lt_dy (by omega)) (by show (sh0 _).1 = _; first | rfl | rw [sh_sc (by omega)] | rw [sh_dy (by omega)]) (d := d - 1) (by show d - 1 + 1 ≤ d; omega) rfl (Nat.le_of_ble_eq_true rfl) (Nat.le_of_ble_eq_true rfl) (hof) rfl ?_
      refine ms_iinc dX11_next_75 rfl (pdec k) ?_
      refine ms_goto (tgt := 35) dX11_next_78 (by decide) ?_
      exact q1 _ _ _ hd
    · have eT : edH I t (j + 1) = edH I t j := by
        have e : edS I t (vw I t) (vn I t) (j + 1) = edS I t (vw I t) (vn I t) j := by
          conv => lhs; unfold edS
          rw [← hkp]
          exact if_neg hsh
        exact congrArg Prod.fst e
      obtain ⟨J2, q1, q2, q3, q4⟩ := ih Jj (by omega) (by rw [hj1, eT]; exact hC)
      refine ⟨J2, fun lg d d2 hd => ?_, q2, q3, q4⟩
      have hn36 := nI_pos (n := k) (by omega)
      refine ms_iload_n dX11_next_35 rfl ?_
      refine ms_if_lt (tgt := 81) dX11_next_36 (by decide) (fun c36 => absurd c36 (hn36)) (fun c36 => ?_)
      refine ms_aload_n dX11_next_39 rfl ?_
      refine q_getr dX11_next_40 fX11_92 kd_11_35 (by first | decide | exact lt_sc (by omega) | exact lt_dy (by omega) | exact lt_rw (by omega) | exact lt_wa (by omega) | exact lt_le (by omega)) (by first | rfl | rw [sh_sc (by omega)] | rw [sh_dy (by omega)]) (by first | rfl | exact rf_wa (by omega) | exact rf_le (by omega) | exact rf_rw (by omega)) ?_
      refine ms_bipush (v := nI 8) dX11_next_43 (by decide) ?_
      refine ms_aload_n dX11_next_45 rfl ?_
      refine q_geti dX11_next_46 fX11_192 (by rw [kd_11_1]; decide) (by first | decide | exact lt_sc (by omega) | exact lt_dy (by omega) | exact lt_rw (by omega) | exact lt_wa (by omega) | exact lt_le (by omega)) (by first | rfl | rw [sh_sc (by omega)] | rw [sh_dy (by omega)]) n9 ?_
      refine n_imul dX11_next_49 ?_
      refine ms_iload_n dX11_next_50 rfl ?_
      refine n_iadd dX11_next_51 ?_
      refine q_iald dX11_next_52 (by first | decide | exact lt_sc (by omega) | exact lt_dy (by omega) | exact lt_rw (by omega) | exact lt_wa (by omega) | exact lt_le (by omega)) (by first | rfl | exact sh_rw (by omega) | exact sh_wa (by omega) | exact sh_le (by omega)) (by omega) (by decide) r9 ?_
      refine ms_istore_n dX11_next_53 (Nat.le_of_ble_eq_true rfl) ?_
      refine ms_aload_n dX11_next_54 rfl ?_
      refine q_getr dX11_next_55 fX11_47 kd_11_16 (by first | decide | exact lt_sc (by omega) | exact lt_dy (by omega) | exact lt_rw (by omega) | exact lt_wa (by omega) | exact lt_le (by omega)) (by first | rfl | rw [sh_sc (by omega)] | rw [sh_dy (by omega)]) (by first | rfl | exact rf_wa (by omega) | exact rf_le (by omega) | exact rf_rw (by omega)) ?_
      refine ms_iload_n dX11_next_58 rfl ?_
      refine q_zald dX11_next_59 (by first | decide | exact lt_sc (by omega) | exact lt_dy (by omega) | exact lt_rw (by omega) | exact lt_wa (by omega) | exact lt_le (by omega)) (by first | rfl | exact sh_rw (by omega) | exact sh_wa (by omega) | exact sh_le (by omega)) (by omega) (by decide) s9 ?_
      refine ms_if_ne (tgt := 75) dX11_next_60 (by decide) (fun c60 => ?_) (fun c60 => absurd c60 (fun q => hsh q))
      refine ms_iinc dX11_next_75 rfl (pdec k) ?_
      refine ms_goto (tgt := 35) dX11_next_78 (by decide) ?_
      exact q1 _ _ _ hd
theorem Iv_now {c c2 : Nat} {I : m_I} {t : Nat} (h : Iv c I) (hc : c ≤ c2) (ht : t < 30) : Iv c2 (m_up2 I 72 4 (nI t)) := by
  obtain ⟨h1, h2, h3, h4, h5, h6, h7, h8, h9, h10, h11, h12⟩ := h
  have hm := h1.1
  have hf : ∀ a d, ¬ (a = 72 ∧ d = 4) → m_up2 I 72 4 (nI t) a d = I a d := fun a d h => m_up2_ne h
  refine ⟨Vw_cong h1 (hf _ _ (by (try unfold scI); (try unfold dyI); (try unfold rwI); (try unfold waI); (try unfold leI); omega)) (fun t ht => ⟨hf (dyI t) 6 (by (try unfold scI); (try unfold dyI); (try unfold rwI); (try unfold waI); (try unfold leI); omega), fun j => hf (rwI t) j (by (try unfold scI); (try unfold dyI); (try unfold rwI); (try unfold waI); (try unfold leI); omega)⟩) (fun u hu => ⟨hf (scI u) 0 (by (try unfold scI); (try unfold dyI); (try unfold rwI); (try unfold waI); (try unfold leI); omega), hf (scI u) 15 (by (try unfold scI); (try unfold dyI); (try unfold rwI); (try unfold waI); (try unfold leI); omega)⟩), ?_, i3_c h3 (hf _ _ (by (try unfold scI); (try unfold dyI); (try unfold rwI); (try unfold waI); (try unfold leI); omega)) (fun u hu => hf (scI u) 4 (by (try unfold scI); (try unfold dyI); (try unfold rwI); (try unfold waI); (try unfold leI); omega)), i4_c hm h4 (hf _ _ (by (try unfold scI); (try unfold dyI); (try unfold rwI); (try unfold waI); (try unfold leI); omega)) (hf _ _ (by (try unfold scI); (try unfold dyI); (try unfold rwI); (try unfold waI); (try unfold leI); omega)) (fun u hu => hf (scI u) 0 (by (try unfold scI); (try unfold dyI); (try unfold rwI); (try unfold waI); (try unfold leI); omega)), i5_c h5 (hf _ _ (by (try unfold scI); (try unfold dyI); (try unfold rwI); (try unfold waI); (try unfold leI); omega)) (fun k => hf 3 k (by (try unfold scI); (try unfold dyI); (try unfold rwI); (try unfold waI); (try unfold leI); omega)), i6_c h6 (fun u hu => ⟨hf (scI u) 7 (by (try unfold scI); (try unfold dyI); (try unfold rwI); (try unfold waI); (try unfold leI); omega), hf (scI u) 3 (by (try unfold scI); (try unfold dyI); (try unfold rwI); (try unfold waI); (try unfold leI); omega), hf (scI u) 14 (by (try unfold scI); (try unfold dyI); (try unfold rwI); (try unfold waI); (try unfold leI); omega)⟩), i7_c h7 (hf _ _ (by (try unfold scI); (try unfold dyI); (try unfold rwI); (try unfold waI); (try unfold leI); omega)) (fun u hu hu2 => ⟨hf (scI u) 7 (by (try unfold scI); (try unfold dyI); (try unfold rwI); (try unfold waI); (try unfold leI); omega), hf (scI u) 15 (by (try unfold scI); (try unfold dyI); (try unfold rwI); (try unfold waI); (try unfold leI); omega), hf (scI u) 12 (by (try unfold scI); (try unfold dyI); (try unfold rwI); (try unfold waI); (try unfold leI); omega), hf (scI u) 11 (by (try unfold scI); (try unfold dyI); (try unfold rwI); (try unfold waI); (try unfold leI); omega), fun t ht => ⟨hf (waI u) t (by (try unfold scI); (try unfold dyI); (try unfold rwI); (try unfold waI); (try unfold leI); omega), hf (leI u) t (by (try unfold scI); (try unfold dyI); (try unfold rwI); (try unfold waI); (try unfold leI); omega)⟩⟩), i8_c h8 (hf _ _ (by (try unfold scI); (try unfold dyI); (try unfold rwI); (try unfold waI); (try unfold leI); omega)) (fun u hu => hf (scI u) 5 (by (try unfold scI); (try unfold dyI); (try unfold rwI); (try unfold waI); (try unfold leI); omega)), i9_c hm h9 (hf _ _ (by (try unfold scI); (try unfold dyI); (try unfold rwI); (try unfold waI); (try unfold leI); omega)) (fun u hu => ⟨hf (scI u) 11 (by (try unfold scI); (try unfold dyI); (try unfold rwI); (try unfold waI); (try unfold leI); omega), hf (scI u) 15 (by (try unfold scI); (try unfold dyI); (try unfold rwI); (try unfold waI); (try unfold leI); omega)⟩), i10_c h10 (hf _ _ (by (try unfold scI); (try unfold dyI); (try unfold rwI); (try unfold waI); (try unfold leI); omega)) (fun t ht => hf (dyI t) 4 (by (try unfold scI); (try unfold dyI); (try unfold rwI); (try unfold waI); (try unfold leI); omega)), i11_c h11 (fun t ht => hf (dyI t) 0 (by (try unfold scI); (try unfold dyI); (try unfold rwI); (try unfold waI); (try unfold leI); omega)) (fun k hk => hf 71 k (by (try unfold scI); (try unfold dyI); (try unfold rwI); (try unfold waI); (try unfold leI); omega)), i12_c h12 (by omega) (hf _ _ (by (try unfold scI); (try unfold dyI); (try unfold rwI); (try unfold waI); (try unfold leI); omega)) (hf _ _ (by (try unfold scI); (try unfold dyI); (try unfold rwI); (try unfold waI); (try unfold leI); omega))⟩
  have e : vt (m_up2 I 72 4 (nI t)) = t := (congrArg vN m_up2_eq).trans (vN_nI (by omega))
  refine ⟨?_, ?_, by rw [e]; exact ht⟩
  · rw [show vpn (m_up2 I 72 4 (nI t)) = vpn I from congrArg vN (hf _ _ (by omega))]
    exact h2.1
  · rw [show vlc (m_up2 I 72 4 (nI t)) = vlc I from congrArg vN (hf _ _ (by omega))]
    exact h2.2.1
theorem o_next {S : m_S} {c : Nat} {I : m_I} (hI : Iv c I) (hC : Cr I I) : Okc S c I M_X10_next M_X11_next [.ref 0] [.ref 143] [xS] := by
  have hV := hI.1
  have hm := hV.1
  have hM := Iv_Md hI
  have hn30 := hI.2.1.2.2
  have hnow : I 72 4 = nI (vt I) := (nI_vN _).symm
  obtain ⟨t, ht9⟩ : ∃ t, t = vt I := ⟨_, rfl⟩
  rw [← ht9] at hn30 hnow
  by_cases ht : t < 29
  · obtain ⟨g1, g2, g3, g4, g5, g6⟩ := ed_ok hI hn30 (vn I t) (Nat.le_refl _)
    obtain ⟨K, hK⟩ : ∃ K, K = m_up2 (edH I t (vn I t)) 72 4 (nI (t + 1)) := ⟨_, rfl⟩
    have eK : vm K = vm I := by rw [hK]; exact (congrArg vN (m_up2_ne (by decide))).trans g5
    have hIK : Iv (c + 1) K := by rw [hK]; exact Iv_now g1 (by omega) (by omega)
    have hw : ∀ i, i < vn I t → I (rwI t) i = nI (vw I t i) ∧ vw I t i < 20 := fun i hi => ⟨(nI_vN _).symm, Vw_w20 hV hn30 hi⟩
    have hcl : ∀ lg d, 9 ≤ d → m_R S M_X10_next d [.ref 0] (hh I lg) (some (.int (nI (fb_ct (fun i => decide (stC K i = 3)) (vm I))))) (hh K lg) := fun lg d hd => by
      rw [hK]
      exact k_next (by omega) hM hnow ht (fun d hd => k_endDay hd hnow ht (nI_vN _).symm (hV.2.1 t hn30) hw (fun i j hi hj e => hV.2.2.2.1 t i j hn30 hi hj e) (fun i hi => (hV.2.2.1 t i hn30 hi).2)) ((m_up2_ne (by decide)).trans ((nI_vN _).symm.trans (by show nI (vm _) = _; rw [g5])))
    refine Okc_go _ hm hC hcl (fun p q h => by rw [hK]; exact (m_up2_ne (by omega)).trans (g6 p q (Or.inl h))) hIK (fun J J' hJ hC' hgw hne hz => ?_)
    have hr : ∀ J : m_I, Cr (m_up2 (edH I t (vn I t)) 72 4 (nI (t + 1))) J → nI (fb_ct (fun i => decide (stC K i = 3)) (vm I)) = nI (fb_ct (fun i => decide (stR J i = 3)) (vm I)) := fun J h => by
      rw [← hK] at h
      have e := ow_count h (by omega)
      rw [eK] at e
      rw [e]
    have h0 : Cr (edH I t (vn I t - vn I t)) J' := by
      rw [Nat.sub_self]
      exact hC'
    obtain ⟨J2, q1, q2, q3, q4⟩ := r_next (S := S) hI ht hnow hr (vn I t) J' (Nat.le_refl _) h0
    rw [← hK] at q2
    refine ⟨J2, fun lg d hd => ?_, q2, q3, q4⟩
    have n9 : J 143 1 = nI t := hJ.now.trans hnow
    have n8 : J' 143 1 = nI t := hC'.now.trans hnow
    have m8 : J' 172 t = nI (vn I t) := (hC'.dr hV hn30).2.1
    refine ms_aload_n dX11_next_0 rfl ?_
    refine ms_aload_n dX11_next_1 rfl ?_
    refine q_geti dX11_next_2 fX11_192 (by rw [kd_11_1]; decide) (by first | decide | exact lt_sc (by omega) | exact lt_dy (by omega) | exact lt_rw (by omega) | exact lt_wa (by omega) | exact lt_le (by omega)) (by first | rfl | rw [sh_sc (by omega)] | rw [sh_dy (by omega)]) n9 ?_
    refine ms_bipush (v := nI 29) dX11_next_5 (by decide) ?_
    refine n_icmp_ne (tgt := 14) dX11_next_7 (by decide) (by omega) (by omega) (fun c7 => ?_) (fun c7 => absurd c7 (by omega))
    refine ms_iconst (v := nI 0) dX11_next_14 (by decide) ?_
    refine qRV1 dX11_next_15 kX11_138 (by show _ < 178; first | decide | exact lt_sc (by omega) | exact lt_dy (by omega)) (by show (sh0 _).1 = _; first | rfl | rw [sh_sc (by omega)] | rw [sh_dy (by omega)]) (d := d - 1) (by show d - 1 + 1 ≤ d; omega) rfl (Nat.le_of_ble_eq_true rfl) (Nat.le_of_ble_eq_true rfl) (hgw _ _) rfl ?_
    refine ms_if_ne (tgt := 23) dX11_next_18 (by decide) (fun c18 => ?_) (fun c18 => absurd c18 (by decide))
    refine ms_aload_n dX11_next_23 rfl ?_
    refine q_getr dX11_next_24 fX11_95 kd_11_36 (by first | decide | exact lt_sc (by omega) | exact lt_dy (by omega) | exact lt_rw (by omega) | exact lt_wa (by omega) | exact lt_le (by omega)) (by first | rfl | rw [sh_sc (by omega)] | rw [sh_dy (by omega)]) (by first | rfl | exact rf_wa (by omega) | exact rf_le (by omega) | exact rf_rw (by omega)) ?_
    refine ms_aload_n dX11_next_27 rfl ?_
    refine q_geti dX11_next_28 fX11_192 (by rw [kd_11_1]; decide) (by first | decide | exact lt_sc (by omega) | exact lt_dy (by omega) | exact lt_rw (by omega) | exact lt_wa (by omega) | exact lt_le (by omega)) (by first | rfl | rw [sh_sc (by omega)] | rw [sh_dy (by omega)]) n8 ?_
    refine q_iald dX11_next_31 (by first | decide | exact lt_sc (by omega) | exact lt_dy (by omega) | exact lt_rw (by omega) | exact lt_wa (by omega) | exact lt_le (by omega)) (by first | rfl | exact sh_rw (by omega) | exact sh_wa (by omega) | exact sh_le (by omega)) (by omega) (by decide) m8 ?_
    refine ms_iconst (v := nI 1) dX11_next_32 (by decide) ?_
    refine ms_isub dX11_next_33 ?_
    refine ms_istore_n dX11_next_34 (Nat.le_of_ble_eq_true rfl) ?_
    exact q1 _ _ _ hd
  · obtain rfl : t = 29 := by omega
    refine Okc_thr (k := 0) (E := xS) (b := some (.int (nI 0))) hI hC rfl (fun lg d hd => k_nextT (by omega) hnow) (fun lg d hd => ?_)
    have n9 : I 143 1 = nI 29 := hC.now.trans hnow
    refine ms_aload_n dX11_next_0 rfl ?_
    refine ms_aload_n dX11_next_1 rfl ?_
    refine q_geti dX11_next_2 fX11_192 (by rw [kd_11_1]; decide) (by first | decide | exact lt_sc (by omega) | exact lt_dy (by omega) | exact lt_rw (by omega) | exact lt_wa (by omega) | exact lt_le (by omega)) (by first | rfl | rw [sh_sc (by omega)] | rw [sh_dy (by omega)]) n9 ?_
    refine ms_bipush (v := nI 29) dX11_next_5 (by decide) ?_
    refine ms_icmp_ne (tgt := 14) dX11_next_7 (by decide) (fun c7 => absurd c7 (fun q => q rfl)) (fun c7 => ?_)
    refine ms_iconst (v := nI 1) dX11_next_10 (by decide) ?_
    refine ms_goto (tgt := 15) dX11_next_11 (by decide) ?_
    refine qRV1 dX11_next_15 kX11_138 (by show _ < 178; first | decide | exact lt_sc (by omega) | exact lt_dy (by omega)) (by show (sh0 _).1 = _; first | rfl | rw [sh_sc (by omega)] | rw [sh_dy (by omega)]) (d := d - 1) (by show d - 1 + 1 ≤ d; omega) rfl (Nat.le_of_ble_eq_true rfl) (Nat.le_of_ble_eq_true rfl) (kr_gwk 0 (by decide)) rfl ?_
    refine ms_if_ne (tgt := 23) dX11_next_18 (by decide) (fun c18 => absurd c18 (by decide)) (fun c18 => ?_)
    refine ms_iconst (v := nI 0) dX11_next_21 (by decide) ?_
    refine ms_iret dX11_next_22 rfl rfl ⟨?_, ?_⟩
    · rfl
    · rfl

