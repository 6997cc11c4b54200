-- NAME calls7
/-! calls: omit, shoot, lose, next -/
theorem deI_up {I : m_I} {t j n a b : Nat} {x : Int32} (h : a ≠ t) : deI (m_up2 I a b x) t j n = m_up2 (deI I t j n) a b x := by
  funext c d
  unfold deI m_up2
  dsimp only
  by_cases h1 : c = t ∧ j ≤ d ∧ d + 1 < n
  · rw [if_pos h1, if_neg (by omega), if_neg (by omega), if_pos h1]
  · rw [if_neg h1, if_neg h1]
theorem toI_up {I : m_I} {s t j n a b : Nat} {x : Int32} (h : a ≠ rwI t) (h2 : ¬ (a = dyI t ∧ b = 6)) (h3 : ¬ (a = scI s ∧ b = 15)) : toI (m_up2 I a b x) s t j n = m_up2 (toI I s t j n) a b x := by
  unfold toI
  rw [deI_up h, m_up2_cm _ _ _ h2, m_up2_cm _ _ _ h3]
theorem Iv_om {c c2 : Nat} {I : m_I} {s : Nat} (h : Iv c I) (hc : c ≤ c2) (hs : s < vm I) (hd : I (scI s) 15 = -1) : Iv c2 (m_up2 I (scI s) 11 (nI 1)) := by
  obtain ⟨h1, h2, h3, h4, h5, h6, h7, h8, h9, h10, h11, h12⟩ := h
  have hm := h1.1
  have hf : ∀ a d, ¬ (a = scI s ∧ d = 11) → m_up2 I (scI s) 11 (nI 1) a d = I a d := fun a d h => m_up2_ne h
  refine ⟨Vw_cong h1 (hf _ _ (by (try unfold scI); (try unfold dyI); (try unfold rwI); (try unfold waI); (try unfold leI); omega)) (fun t ht => ⟨hf (dyI t) 6 (by (try unfold scI); (try unfold dyI); (try unfold rwI); (try unfold waI); (try unfold leI); omega), fun j => hf (rwI t) j (by (try unfold scI); (try unfold dyI); (try unfold rwI); (try unfold waI); (try unfold leI); omega)⟩) (fun u hu => ⟨hf (scI u) 0 (by (try unfold scI); (try unfold dyI); (try unfold rwI); (try unfold waI); (try unfold leI); omega), hf (scI u) 15 (by (try unfold scI); (try unfold dyI); (try unfold rwI); (try unfold waI); (try unfold leI); omega)⟩), i2_c h2 (hf _ _ (by (try unfold scI); (try unfold dyI); (try unfold rwI); (try unfold waI); (try unfold leI); omega)) (hf _ _ (by (try unfold scI); (try unfold dyI); (try unfold rwI); (try unfold waI); (try unfold leI); omega)) (hf _ _ (by (try unfold scI); (try unfold dyI); (try unfold rwI); (try unfold waI); (try unfold leI); omega)), i3_c h3 (hf _ _ (by (try unfold scI); (try unfold dyI); (try unfold rwI); (try unfold waI); (try unfold leI); omega)) (fun u hu => hf (scI u) 4 (by (try unfold scI); (try unfold dyI); (try unfold rwI); (try unfold waI); (try unfold leI); omega)), i4_c hm h4 (hf _ _ (by (try unfold scI); (try unfold dyI); (try unfold rwI); (try unfold waI); (try unfold leI); omega)) (hf _ _ (by (try unfold scI); (try unfold dyI); (try unfold rwI); (try unfold waI); (try unfold leI); omega)) (fun u hu => hf (scI u) 0 (by (try unfold scI); (try unfold dyI); (try unfold rwI); (try unfold waI); (try unfold leI); omega)), i5_c h5 (hf _ _ (by (try unfold scI); (try unfold dyI); (try unfold rwI); (try unfold waI); (try unfold leI); omega)) (fun k => hf 3 k (by (try unfold scI); (try unfold dyI); (try unfold rwI); (try unfold waI); (try unfold leI); omega)), i6_c h6 (fun u hu => ⟨hf (scI u) 7 (by (try unfold scI); (try unfold dyI); (try unfold rwI); (try unfold waI); (try unfold leI); omega), hf (scI u) 3 (by (try unfold scI); (try unfold dyI); (try unfold rwI); (try unfold waI); (try unfold leI); omega), hf (scI u) 14 (by (try unfold scI); (try unfold dyI); (try unfold rwI); (try unfold waI); (try unfold leI); omega)⟩), i7_c h7 (hf _ _ (by (try unfold scI); (try unfold dyI); (try unfold rwI); (try unfold waI); (try unfold leI); omega)) (fun u hu hu2 => ⟨hf (scI u) 7 (by (try unfold scI); (try unfold dyI); (try unfold rwI); (try unfold waI); (try unfold leI); omega), hf (scI u) 15 (by (try unfold scI); (try unfold dyI); (try unfold rwI); (try unfold waI); (try unfold leI); omega), hf (scI u) 12 (by (try unfold scI); (try unfold dyI); (try unfold rwI); (try unfold waI); (try unfold leI); omega), hf (scI u) 11 (by (try unfold scI); (try unfold dyI); (try unfold rwI); (try unfold waI); (try unfold leI); omega), fun t ht => ⟨hf (waI u) t (by (try unfold scI); (try unfold dyI); (try unfold rwI); (try unfold waI); (try unfold leI); omega), hf (leI u) t (by (try unfold scI); (try unfold dyI); (try unfold rwI); (try unfold waI); (try unfold leI); omega)⟩⟩), i8_c h8 (hf _ _ (by (try unfold scI); (try unfold dyI); (try unfold rwI); (try unfold waI); (try unfold leI); omega)) (fun u hu => hf (scI u) 5 (by (try unfold scI); (try unfold dyI); (try unfold rwI); (try unfold waI); (try unfold leI); omega)), ?_, i10_c h10 (hf _ _ (by (try unfold scI); (try unfold dyI); (try unfold rwI); (try unfold waI); (try unfold leI); omega)) (fun t ht => hf (dyI t) 4 (by (try unfold scI); (try unfold dyI); (try unfold rwI); (try unfold waI); (try unfold leI); omega)), i11_c h11 (fun t ht => hf (dyI t) 0 (by (try unfold scI); (try unfold dyI); (try unfold rwI); (try unfold waI); (try unfold leI); omega)) (fun k hk => hf 71 k (by (try unfold scI); (try unfold dyI); (try unfold rwI); (try unfold waI); (try unfold leI); omega)), i12_c h12 (by omega) (hf _ _ (by (try unfold scI); (try unfold dyI); (try unfold rwI); (try unfold waI); (try unfold leI); omega)) (hf _ _ (by (try unfold scI); (try unfold dyI); (try unfold rwI); (try unfold waI); (try unfold leI); omega))⟩
  intro u hu q
  have e : vm (m_up2 I (scI s) 11 (nI 1)) = vm I := congrArg vN (hf _ _ (by unfold scI; omega))
  rw [e] at hu
  rw [hf _ _ (by unfold scI; omega)]
  by_cases z : u = s
  · rw [z]
    exact hd
  · rw [hf _ _ (by unfold scI; omega)] at q
    exact h9 u hu q
theorem r_omit {S : m_S} {I J J' J3 : m_I} {s : Nat} {lg : Int64} {d : Nat} (hd : 9 ≤ d) (hm : vm I ≤ 20) (hs : s < vm I) (hJ : Cr I J) (h1 : I (scI s) 11 = 0) (h2 : I (scI s) 12 = 0) (hgw : ∀ lg d, m_R S M_X11_goesWell d [.ref 143, .int (nI 0)] (hh J lg) (some (.int (bi true))) (hh J' lg)) (hof : m_R S M_X11_off (d - 1) [.ref 143, .int (nI s)] (hh (m_up2 J' 155 s (nI 1)) lg) none (hh J3 lg)) (hm3 : J3 143 3 = nI (vm I)) : m_R S M_X11_omit d [.ref 143, .int (nI s)] (hh J lg) (some (.int (nI (fb_ct (fun k => decide (J3 155 k = 0)) (vm I))))) (hh J3 lg) := by
  have hs20 : s < 20 := by omega
  have hM : J 143 3 = nI (vm I) := hJ.m.trans (nI_vN _).symm
  have hsc := kr_sc1 (S := S) (J := J) (lg := lg) (d := d - 1) (by omega) hM hm hs
  have o9 : J 155 s = 0 := (hJ.om hs20).trans h1
  have s9 : J 156 s = 0 := (hJ.sh hs20).trans h2
  have loop : ∀ (q k : Nat), k ≤ (vm I) → (vm I) - k < q → m_W S (M_X11_omit, d, fun w9 g9 => w9 = some (.int (nI (fb_ct (fun k => decide (J3 155 k = 0)) (vm I)))) ∧ g9 = hh (J3) lg, fun _ _ => False) 63 [some (.ref 143), some (.int (nI s)), some (.int (bi true)), some (.int (nI (fb_ct (fun k => decide (J3 155 k = 0)) k))), some (.int (nI k))] [] (hh (J3) lg) 0 0 := by
    intro q
    induction q with
    | zero => intro k  _ h; omega
    | succ q ih =>
      intro k  hk hq
      refine ms_iload dX11_omit_63 rfl ?_
      refine ms_aload_n dX11_omit_65 rfl ?_
      refine q_geti dX11_omit_66 fX11_114 (by rw [kd_11_3]; decide) (by first | decide | exact lt_sc (by omega) | exact lt_dy (by omega) | exact lt_rw (by omega) | exact lt_wa (by omega) | exact lt_le (by omega)) (by first | rfl | rw [sh_sc (by omega)] | rw [sh_dy (by omega)]) hm3 ?_
      refine n_icmp_ge (tgt := 96) dX11_omit_69 (by decide) (by omega) (by omega) (fun c69 => ?_) (fun c69 => ?_)
      · obtain rfl : k = vm I := by omega
        refine ms_iload_n dX11_omit_96 rfl ?_
        refine ms_iret dX11_omit_97 rfl rfl ⟨?_, ?_⟩
        · rfl
        · rfl
      · have e : fb_ct (fun k => decide (J3 155 k = 0)) (k + 1) = fb_ct (fun k => decide (J3 155 k = 0)) k + if decide (J3 155 k = 0) then 1 else 0 := fb_ct_succ _ k
        have h9 := ih (k + 1) (by omega) (by omega)
        refine ms_iload_n dX11_omit_72 rfl ?_
        refine ms_aload_n dX11_omit_73 rfl ?_
        refine q_getr dX11_omit_74 fX11_44 kd_11_15 (by first | decide | exact lt_sc (by omega) | exact lt_dy (by omega) | exact lt_rw (by omega) | exact lt_wa (by omega) | exact lt_le (by omega)) (by first | rfl | rw [sh_sc (by omega)] | rw [sh_dy (by omega)]) (by first | rfl | exact rf_wa (by omega) | exact rf_le (by omega) | exact rf_rw (by omega)) ?_
        refine ms_iload dX11_omit_77 rfl ?_
        refine q_zald dX11_omit_79 (by first | decide | exact lt_sc (by omega) | exact lt_dy (by omega) | exact lt_rw (by omega) | exact lt_wa (by omega) | exact lt_le (by omega)) (by first | rfl | exact sh_rw (by omega) | exact sh_wa (by omega) | exact sh_le (by omega)) (by omega) (by decide) rfl ?_
        refine ms_if_eq (tgt := 87) dX11_omit_80 (by decide) (fun c80 => ?_) (fun c80 => ?_)
        · rw [e, decide_eq_true c80] at h9
          refine ms_iconst (v := nI 1) dX11_omit_87 (by decide) ?_
          refine n_iadd dX11_omit_88 ?_
          refine ms_istore_n dX11_omit_89 (Nat.le_of_ble_eq_true rfl) ?_
          refine n_iinc dX11_omit_90 rfl ?_
          refine ms_goto (tgt := 63) dX11_omit_93 (by decide) ?_
          exact h9
        · rw [e, decide_eq_false c80] at h9
          refine ms_iconst (v := nI 0) dX11_omit_83 (by decide) ?_
          refine ms_goto (tgt := 88) dX11_omit_84 (by decide) ?_
          refine n_iadd dX11_omit_88 ?_
          refine ms_istore_n dX11_omit_89 (Nat.le_of_ble_eq_true rfl) ?_
          refine n_iinc dX11_omit_90 rfl ?_
          refine ms_goto (tgt := 63) dX11_omit_93 (by decide) ?_
          exact h9
  refine ms_aload_n dX11_omit_0 rfl ?_
  refine ms_iload_n dX11_omit_1 rfl ?_
  refine qRV1 dX11_omit_2 kX11_131 (by show _ < 178; first | decide | exact lt_sc (by omega) | exact lt_dy (by omega)) (by show (sh0 _).1 = _; first | rfl | rw [sh_sc (by omega)] | rw [sh_dy (by omega)]) (d := d - 1) (by show d - 1 + 1 ≤ d; omega) rfl (Nat.le_of_ble_eq_true rfl) (Nat.le_of_ble_eq_true rfl) (hsc) rfl ?_
  refine ms_istore_n dX11_omit_5 (Nat.le_of_ble_eq_true rfl) ?_
  refine ms_aload_n dX11_omit_6 rfl ?_
  refine ms_iload_n dX11_omit_7 rfl ?_
  refine ms_if_ne (tgt := 15) dX11_omit_8 (by decide) (fun c8 => ?_) (fun c8 => absurd c8 (by decide))
  refine ms_aload_n dX11_omit_15 rfl ?_
  refine q_getr dX11_omit_16 fX11_44 kd_11_15 (by first | decide | exact lt_sc (by omega) | exact lt_dy (by omega) | exact lt_rw (by omega) | exact lt_wa (by omega) | exact lt_le (by omega)) (by first | rfl | rw [sh_sc (by omega)] | rw [sh_dy (by omega)]) (by first | rfl | exact rf_wa (by omega) | exact rf_le (by omega) | exact rf_rw (by omega)) ?_
  refine ms_iload_n dX11_omit_19 rfl ?_
  refine q_zald dX11_omit_20 (by first | decide | exact lt_sc (by omega) | exact lt_dy (by omega) | exact lt_rw (by omega) | exact lt_wa (by omega) | exact lt_le (by omega)) (by first | rfl | exact sh_rw (by omega) | exact sh_wa (by omega) | exact sh_le (by omega)) (by omega) (by decide) o9 ?_
  refine ms_if_ne (tgt := 33) dX11_omit_21 (by decide) (fun c21 => absurd c21 (fun q => q rfl)) (fun c21 => ?_)
  refine ms_aload_n dX11_omit_24 rfl ?_
  refine q_getr dX11_omit_25 fX11_47 kd_11_16 (by first | decide | exact lt_sc (by omega) | exact lt_dy (by omega) | exact lt_rw (by omega) | exact lt_wa (by omega) | exact lt_le (by omega)) (by first | rfl | rw [sh_sc (by omega)] | rw [sh_dy (by omega)]) (by first | rfl | exact rf_wa (by omega) | exact rf_le (by omega) | exact rf_rw (by omega)) ?_
  refine ms_iload_n dX11_omit_28 rfl ?_
  refine q_zald dX11_omit_29 (by first | decide | exact lt_sc (by omega) | exact lt_dy (by omega) | exact lt_rw (by omega) | exact lt_wa (by omega) | exact lt_le (by omega)) (by first | rfl | exact sh_rw (by omega) | exact sh_wa (by omega) | exact sh_le (by omega)) (by omega) (by decide) s9 ?_
  refine ms_if_eq (tgt := 37) dX11_omit_30 (by decide) (fun c30 => ?_) (fun c30 => absurd c30 (fun q => q rfl))
  refine ms_iconst (v := nI 0) dX11_omit_37 (by decide) ?_
  refine qRV1 dX11_omit_38 kX11_138 (by show _ < 178; first | decide | exact lt_sc (by omega) | exact lt_dy (by omega)) (by show (sh0 _).1 = _; first | rfl | rw [sh_sc (by omega)] | rw [sh_dy (by omega)]) (d := d - 1) (by show d - 1 + 1 ≤ d; omega) rfl (Nat.le_of_ble_eq_true rfl) (Nat.le_of_ble_eq_true rfl) (hgw _ _) rfl ?_
  refine ms_if_ne (tgt := 46) dX11_omit_41 (by decide) (fun c41 => ?_) (fun c41 => absurd c41 (by decide))
  refine ms_aload_n dX11_omit_46 rfl ?_
  refine q_getr dX11_omit_47 fX11_44 kd_11_15 (by first | decide | exact lt_sc (by omega) | exact lt_dy (by omega) | exact lt_rw (by omega) | exact lt_wa (by omega) | exact lt_le (by omega)) (by first | rfl | rw [sh_sc (by omega)] | rw [sh_dy (by omega)]) (by first | rfl | exact rf_wa (by omega) | exact rf_le (by omega) | exact rf_rw (by omega)) ?_
  refine ms_iload_n dX11_omit_50 rfl ?_
  refine ms_iconst (v := nI 1) dX11_omit_51 (by decide) ?_
  refine q_zast dX11_omit_52 (by first | decide | exact lt_sc (by omega) | exact lt_dy (by omega) | exact lt_rw (by omega) | exact lt_wa (by omega) | exact lt_le (by omega)) (by first | rfl | exact sh_rw (by omega) | exact sh_wa (by omega) | exact sh_le (by omega)) (by omega) (by decide) (by first | exact Or.inl (by decide) | exact Or.inr (by decide) | assumption | exact bi_01 _) ?_
  refine ms_aload_n dX11_omit_53 rfl ?_
  refine ms_iload_n dX11_omit_54 rfl ?_
  refine qRV1 dX11_omit_55 kX11_148 (by show _ < 178; first | decide | exact lt_sc (by omega) | exact lt_dy (by omega)) (by show (sh0 _).1 = _; first | rfl | rw [sh_sc (by omega)] | rw [sh_dy (by omega)]) (d := d - 1) (by show d - 1 + 1 ≤ d; omega) rfl (Nat.le_of_ble_eq_true rfl) (Nat.le_of_ble_eq_true rfl) (hof) rfl ?_
  refine ms_iconst (v := nI 0) dX11_omit_58 (by decide) ?_
  refine ms_istore_n dX11_omit_59 (Nat.le_of_ble_eq_true rfl) ?_
  refine ms_iconst (v := nI 0) dX11_omit_60 (by decide) ?_
  refine ms_istore dX11_omit_61 (Nat.le_of_ble_eq_true rfl) ?_
  exact loop (vm I + 1) 0 (by omega) (by omega)
theorem om_count {K J : m_I} (h : Cr K J) (hm : vm K ≤ 20) : nI (vm K) - nI (fb_ct (fun i => decide (stC K i = 4)) (vm K)) = nI (fb_ct (fun k => decide (J 155 k = 0)) (vm K)) := by
  have e1 := fb_ct_not (fun i => decide (stC K i = 4)) (vm K)
  have e2 : fb_ct (fun k => !decide (stC K k = 4)) (vm K) = fb_ct (fun k => decide (J 155 k = 0)) (vm K) := fb_ct_cong (fun k hk => by
    rw [h.om (by omega)]
    unfold stC stN
    by_cases z : K (scI k) 11 = 0
    · rw [if_neg (fun q => q z), decide_eq_true z]
      repeat' split
      all_goals rfl
    · rw [if_pos z, decide_eq_false z]
      rfl)
  rw [pk_sub (by omega), ← e2]
  congr 1
  omega
theorem o_omit {S : m_S} {c : Nat} {I : m_I} (x : Int32) (hI : Iv c I) (hC : Cr I I) : Okc S c I M_X10_omit M_X11_omit [.ref 0, .int x] [.ref 143, .int x] [xI, xS] := by
  have hV := hI.1
  have hm := hV.1
  have hM := Iv_Md hI
  rcases ix_or x (n := vm I) (by omega) with ⟨s, hs, rfl⟩ | hx
  · have hs20 : s < 20 := by omega
    by_cases hc : I (scI s) 11 = 0 ∧ I (scI s) 12 = 0
    · obtain ⟨h1, h2⟩ := hc
      rcases hV.2.2.2.2.1 s hs with hdy | ⟨t, a, ht, ha, he⟩
      · obtain ⟨K, hK⟩ : ∃ K, K = m_up2 I (scI s) 11 (nI 1) := ⟨_, rfl⟩
        have eK : vm K = vm I := by rw [hK]; exact congrArg vN (m_up2_ne (by unfold scI; omega))
        have hIK : Iv (c + 1) K := by rw [hK]; exact Iv_om hI (by omega) hs hdy
        have hcl : ∀ lg d, 9 ≤ d → m_R S M_X10_omit d [.ref 0, .int (nI s)] (hh I lg) (some (.int (nI (vm K) - nI (fb_ct (fun i => decide (stC K i = 4)) (vm K))))) (hh K lg) := fun lg d hd => by
          rw [eK, hK]
          exact k_omit (by omega) hM hs h1 h2 (fun d hd => k_takeOff0 hs20 hdy) hM.1
        refine Okc_go _ hm hC hcl (fun p q h => by rw [hK]; exact m_up2_ne (by unfold scI; omega)) hIK (fun J J' hJ hC' hgw hne hz => ?_)
        have hC3 : Cr K (m_up2 J' 155 s (nI 1)) := by rw [hK]; exact Cr_up hm hC' (a := 155) (b := s) (by unfold lvR; omega) rfl (by unfold scI; omega) (by unfold scI; omega)
        have hd9 : m_up2 J' 155 s (nI 1) 159 s = -1 := (m_up2_ne (by omega)).trans ((hC'.dy hs).trans hdy)
        refine ⟨_, fun lg d hd => ?_, hC3, fQ_up (by decide), m_up2_ne (by omega)⟩
        rw [om_count hC3 (by omega), eK]
        exact r_omit hd hm hs hJ h1 h2 hgw (kr_off0 hs20 hd9) ((hC3.m.trans (nI_vN _).symm).trans (by show nI (vm K) = _; rw [eK]))
      · have hIt : Iv c (toI I s t a (vn I t)) := Iv_toI hI (Nat.le_refl _) ht ha he
        obtain ⟨K, hK⟩ : ∃ K, K = m_up2 (toI I s t a (vn I t)) (scI s) 11 (nI 1) := ⟨_, rfl⟩
        have eT : vm (toI I s t a (vn I t)) = vm I := congrArg vN (toI_ne (by unfold rwI; omega) (by unfold dyI; omega) (by unfold scI; omega))
        have eK : vm K = vm I := by rw [hK]; exact (congrArg vN (m_up2_ne (by unfold scI; omega))).trans eT
        have hIK : Iv (c + 1) K := by rw [hK]; exact Iv_om hIt (by omega) (by rw [eT]; exact hs) toI_dy
        have hcl : ∀ lg d, 9 ≤ d → m_R S M_X10_omit d [.ref 0, .int (nI s)] (hh I lg) (some (.int (nI (vm K) - nI (fb_ct (fun i => decide (stC K i = 4)) (vm K))))) (hh K lg) := fun lg d hd => by
          rw [eK, hK]
          exact k_omit (by omega) hM hs h1 h2 (fun d hd => k_takeV hd hV ht ha he) ((toI_ne (by unfold rwI; omega) (by unfold dyI; omega) (by unfold scI; omega)).trans hM.1)
        refine Okc_go _ hm hC hcl (fun p q h => by rw [hK]; exact (m_up2_ne (by unfold scI; omega)).trans (fH_to hs20 ht p q h)) hIK (fun J J' hJ hC' hgw hne hz => ?_)
        obtain ⟨I2, hI2⟩ : ∃ I2, I2 = m_up2 I (scI s) 11 (nI 1) := ⟨_, rfl⟩
        have hC2 : Cr I2 (m_up2 J' 155 s (nI 1)) := by rw [hI2]; exact Cr_up hm hC' (a := 155) (b := s) (by unfold lvR; omega) rfl (by unfold scI; omega) (by unfold scI; omega)
        have q2 : ∀ p q, ¬ (p = scI s ∧ q = 11) → I2 p q = I p q := fun p q h => by rw [hI2]; exact m_up2_ne h
        have hV2 : Vw I2 := Vw_cong hV (q2 _ _ (by unfold scI; omega)) (fun t ht => ⟨q2 _ _ (by unfold dyI scI; omega), fun j => q2 _ _ (by unfold rwI scI; omega)⟩) (fun u hu => ⟨q2 _ _ (by omega), q2 _ _ (by omega)⟩)
        have en : vn I2 t = vn I t := congrArg vN (q2 _ _ (by unfold dyI scI; omega))
        have ew : vw I2 t a = s := (congrArg vN (q2 _ _ (by unfold rwI scI; omega))).trans he
        have em : vm I2 = vm I := congrArg vN (q2 _ _ (by unfold scI; omega))
        have hC3 : Cr K (ofR (m_up2 J' 155 s (nI 1)) s t a (vn I2 t)) := by
          rw [hK, ← toI_up (by unfold scI rwI; omega) (by unfold scI dyI; omega) (by omega), ← hI2, en]
          exact Cr_take (by omega) hC2 ht (hV.2.1 t ht) (by rw [em]; exact hs)
        refine ⟨_, fun lg d hd => ?_, hC3, fQ_tr (fQ_up (by decide)) fQ_of, ofR_thr.trans (m_up2_ne (by omega))⟩
        rw [om_count hC3 (by omega), eK]
        exact r_omit hd hm hs hJ h1 h2 hgw (kr_offV (by omega) hC2 hV2 ht (by rw [en]; exact ha) ew) ((hC3.m.trans (nI_vN _).symm).trans (by show nI (vm K) = _; rw [eK]))
    · refine Okc_thr (k := 1) (E := xS) (b := some (.int (nI 0))) hI hC rfl (fun lg d hd => k_omitT2 (by omega) hM hs hc) (fun lg d hd => ?_)
      have hsc := kr_sc1 (S := S) (J := I) (lg := lg) (d := d - 1) (by omega) (hC.m.trans hM.1) hm hs
      have o9 : I 155 s = I (scI s) 11 := hC.om hs20
      have s9 : I 156 s = I (scI s) 12 := hC.sh hs20
      by_cases z : I (scI s) 11 = 0
      · refine ms_aload_n dX11_omit_0 rfl ?_
        refine ms_iload_n dX11_omit_1 rfl ?_
        refine qRV1 dX11_omit_2 kX11_131 (by show _ < 178; first | decide | exact lt_sc (by omega) | exact lt_dy (by omega)) (by show (sh0 _).1 = _; first | rfl | rw [sh_sc (by omega)] | rw [sh_dy (by omega)]) (d := d - 1) (by show d - 1 + 1 ≤ d; omega) rfl (Nat.le_of_ble_eq_true rfl) (Nat.le_of_ble_eq_true rfl) (hsc) rfl ?_
        refine ms_istore_n dX11_omit_5 (Nat.le_of_ble_eq_true rfl) ?_
        refine ms_aload_n dX11_omit_6 rfl ?_
        refine ms_iload_n dX11_omit_7 rfl ?_
        refine ms_if_ne (tgt := 15) dX11_omit_8 (by decide) (fun c8 => ?_) (fun c8 => absurd c8 (by decide))
        refine ms_aload_n dX11_omit_15 rfl ?_
        refine q_getr dX11_omit_16 fX11_44 kd_11_15 (by first | decide | exact lt_sc (by omega) | exact lt_dy (by omega) | exact lt_rw (by omega) | exact lt_wa (by omega) | exact lt_le (by omega)) (by first | rfl | rw [sh_sc (by omega)] | rw [sh_dy (by omega)]) (by first | rfl | exact rf_wa (by omega) | exact rf_le (by omega) | exact rf_rw (by omega)) ?_
        refine ms_iload_n dX11_omit_19 rfl ?_
        refine q_zald dX11_omit_20 (by first | decide | exact lt_sc (by omega) | exact lt_dy (by omega) | exact lt_rw (by omega) | exact lt_wa (by omega) | exact lt_le (by omega)) (by first | rfl | exact sh_rw (by omega) | exact sh_wa (by omega) | exact sh_le (by omega)) (by omega) (by decide) o9 ?_
        refine ms_if_ne (tgt := 33) dX11_omit_21 (by decide) (fun c21 => absurd c21 (fun q => q z)) (fun c21 => ?_)
        refine ms_aload_n dX11_omit_24 rfl ?_
        refine q_getr dX11_omit_25 fX11_47 kd_11_16 (by first | decide | exact lt_sc (by omega) | exact lt_dy (by omega) | exact lt_rw (by omega) | exact lt_wa (by omega) | exact lt_le (by omega)) (by first | rfl | rw [sh_sc (by omega)] | rw [sh_dy (by omega)]) (by first | rfl | exact rf_wa (by omega) | exact rf_le (by omega) | exact rf_rw (by omega)) ?_
        refine ms_iload_n dX11_omit_28 rfl ?_
        refine q_zald dX11_omit_29 (by first | decide | exact lt_sc (by omega) | exact lt_dy (by omega) | exact lt_rw (by omega) | exact lt_wa (by omega) | exact lt_le (by omega)) (by first | rfl | exact sh_rw (by omega) | exact sh_wa (by omega) | exact sh_le (by omega)) (by omega) (by decide) s9 ?_
        refine ms_if_eq (tgt := 37) dX11_omit_30 (by decide) (fun c30 => absurd c30 (fun q => hc ⟨z, q⟩)) (fun c30 => ?_)
        refine ms_iconst (v := nI 2) dX11_omit_33 (by decide) ?_
        refine ms_goto (tgt := 38) dX11_omit_34 (by decide) ?_
        refine qRV1 dX11_omit_38 kX11_138 (by show _ < 178; first | decide | exact lt_sc (by omega) | exact lt_dy (by omega)) (by show (sh0 _).1 = _; first | rfl | rw [sh_sc (by omega)] | rw [sh_dy (by omega)]) (d := d - 1) (by show d - 1 + 1 ≤ d; omega) rfl (Nat.le_of_ble_eq_true rfl) (Nat.le_of_ble_eq_true rfl) (kr_gwk 1 (by decide)) rfl ?_
        refine ms_if_ne (tgt := 46) dX11_omit_41 (by decide) (fun c41 => absurd c41 (by decide)) (fun c41 => ?_)
        refine ms_iconst (v := nI 0) dX11_omit_44 (by decide) ?_
        refine ms_iret dX11_omit_45 rfl rfl ⟨?_, ?_⟩
        · rfl
        · rfl
      · refine ms_aload_n dX11_omit_0 rfl ?_
        refine ms_iload_n dX11_omit_1 rfl ?_
        refine qRV1 dX11_omit_2 kX11_131 (by show _ < 178; first | decide | exact lt_sc (by omega) | exact lt_dy (by omega)) (by show (sh0 _).1 = _; first | rfl | rw [sh_sc (by omega)] | rw [sh_dy (by omega)]) (d := d - 1) (by show d - 1 + 1 ≤ d; omega) rfl (Nat.le_of_ble_eq_true rfl) (Nat.le_of_ble_eq_true rfl) (hsc) rfl ?_
        refine ms_istore_n dX11_omit_5 (Nat.le_of_ble_eq_true rfl) ?_
        refine ms_aload_n dX11_omit_6 rfl ?_
        refine ms_iload_n dX11_omit_7 rfl ?_
        refine ms_if_ne (tgt := 15) dX11_omit_8 (by decide) (fun c8 => ?_) (fun c8 => absurd c8 (by decide))
        refine ms_aload_n dX11_omit_15 rfl ?_
        refine q_getr dX11_omit_16 fX11_44 kd_11_15 (by first | decide | exact lt_sc (by omega) | exact lt_dy (by omega) | exact lt_rw (by omega) | exact lt_wa (by omega) | exact lt_le (by omega)) (by first | rfl | rw [sh_sc (by omega)] | rw [sh_dy (by omega)]) (by first | rfl | exact rf_wa (by omega) | exact rf_le (by omega) | exact rf_rw (by omega)) ?_
        refine ms_iload_n dX11_omit_19 rfl ?_
        refine q_zald dX11_omit_20 (by first | decide | exact lt_sc (by omega) | exact lt_dy (by omega) | exact lt_rw (by omega) | exact lt_wa (by omega) | exact lt_le (by omega)) (by first | rfl | exact sh_rw (by omega) | exact sh_wa (by omega) | exact sh_le (by omega)) (by omega) (by decide) o9 ?_
        refine ms_if_ne (tgt := 33) dX11_omit_21 (by decide) (fun c21 => ?_) (fun c21 => absurd c21 (fun q => z q))
        refine ms_iconst (v := nI 2) dX11_omit_33 (by decide) ?_
        refine ms_goto (tgt := 38) dX11_omit_34 (by decide) ?_
        refine qRV1 dX11_omit_38 kX11_138 (by show _ < 178; first | decide | exact lt_sc (by omega) | exact lt_dy (by omega)) (by show (sh0 _).1 = _; first | rfl | rw [sh_sc (by omega)] | rw [sh_dy (by omega)]) (d := d - 1) (by show d - 1 + 1 ≤ d; omega) rfl (Nat.le_of_ble_eq_true rfl) (Nat.le_of_ble_eq_true rfl) (kr_gwk 1 (by decide)) rfl ?_
        refine ms_if_ne (tgt := 46) dX11_omit_41 (by decide) (fun c41 => absurd c41 (by decide)) (fun c41 => ?_)
        refine ms_iconst (v := nI 0) dX11_omit_44 (by decide) ?_
        refine ms_iret dX11_omit_45 rfl rfl ⟨?_, ?_⟩
        · rfl
        · rfl
  · refine Okc_thr (k := 0) (E := xI) (b := some (.int (nI 0))) hI hC rfl (fun lg d hd => k_omitT1 (by omega) hM hx) (fun lg d hd => ?_)
    have hsc := kr_sc0 (S := S) (J := I) (lg := lg) (d := d - 1) (by omega) (hC.m.trans hM.1) hm hx
    refine ms_aload_n dX11_omit_0 rfl ?_
    refine ms_iload_n dX11_omit_1 rfl ?_
    refine qRV1 dX11_omit_2 kX11_131 (by show _ < 178; first | decide | exact lt_sc (by omega) | exact lt_dy (by omega)) (by show (sh0 _).1 = _; first | rfl | rw [sh_sc (by omega)] | rw [sh_dy (by omega)]) (d := d - 1) (by show d - 1 + 1 ≤ d; omega) rfl (Nat.le_of_ble_eq_true rfl) (Nat.le_of_ble_eq_true rfl) (hsc) rfl ?_
    refine ms_istore_n dX11_omit_5 (Nat.le_of_ble_eq_true rfl) ?_
    refine ms_aload_n dX11_omit_6 rfl ?_
    refine ms_iload_n dX11_omit_7 rfl ?_
    refine ms_if_ne (tgt := 15) dX11_omit_8 (by decide) (fun c8 => absurd c8 (by decide)) (fun c8 => ?_)
    refine ms_iconst (v := nI 1) dX11_omit_11 (by decide) ?_
    refine ms_goto (tgt := 38) dX11_omit_12 (by decide) ?_
    refine qRV1 dX11_omit_38 kX11_138 (by show _ < 178; first | decide | exact lt_sc (by omega) | exact lt_dy (by omega)) (by show (sh0 _).1 = _; first | rfl | rw [sh_sc (by omega)] | rw [sh_dy (by omega)]) (d := d - 1) (by show d - 1 + 1 ≤ d; omega) rfl (Nat.le_of_ble_eq_true rfl) (Nat.le_of_ble_eq_true rfl) (kr_gwk 0 (by decide)) rfl ?_
    refine ms_if_ne (tgt := 46) dX11_omit_41 (by decide) (fun c41 => absurd c41 (by decide)) (fun c41 => ?_)
    refine ms_iconst (v := nI 0) dX11_omit_44 (by decide) ?_
    refine ms_iret dX11_omit_45 rfl rfl ⟨?_, ?_⟩
    · rfl
    · rfl
theorem ow_count {K J : m_I} (h : Cr K J) (hm : vm K ≤ 20) : fb_ct (fun i => decide (stC K i = 3)) (vm K) = fb_ct (fun i => decide (stR J i = 3)) (vm K) := fb_ct_cong (fun k hk => by rw [stR_eq h hk hm])
theorem o_lose {S : m_S} {c : Nat} {I : m_I} (x : Int32) (hI : Iv c I) (hC : Cr I I) : Okc S c I M_X10_lose M_X11_lose [.ref 0, .int x] [.ref 143, .int x] [xI, xS] := by
  have hV := hI.1
  have hm := hV.1
  have hM := Iv_Md hI
  rcases ix_or x (n := vm I) (by omega) with ⟨s, hs, rfl⟩ | hx
  · have hs20 : s < 20 := by omega
    by_cases h1 : I (scI s) 12 = 0
    · refine Okc_thr (k := 1) (E := xS) (b := some (.int (nI 0))) hI hC rfl (fun lg d hd => k_loseT2 (by omega) hM hs h1) (fun lg d hd => ?_)
      have hsc := kr_sc1 (S := S) (J := I) (lg := lg) (d := d - 1) (by omega) (hC.m.trans hM.1) hm hs
      have s9 : I 156 s = 0 := (hC.sh hs20).trans h1
      refine ms_aload_n dX11_lose_0 rfl ?_
      refine ms_iload_n dX11_lose_1 rfl ?_
      refine qRV1 dX11_lose_2 kX11_131 (by show _ < 178; first | decide | exact lt_sc (by omega) | exact lt_dy (by omega)) (by show (sh0 _).1 = _; first | rfl | rw [sh_sc (by omega)] | rw [sh_dy (by omega)]) (d := d - 1) (by show d - 1 + 1 ≤ d; omega) rfl (Nat.le_of_ble_eq_true rfl) (Nat.le_of_ble_eq_true rfl) (hsc) rfl ?_
      refine ms_istore_n dX11_lose_5 (Nat.le_of_ble_eq_true rfl) ?_
      refine ms_aload_n dX11_lose_6 rfl ?_
      refine ms_iload_n dX11_lose_7 rfl ?_
      refine ms_if_ne (tgt := 15) dX11_lose_8 (by decide) (fun c8 => ?_) (fun c8 => absurd c8 (by decide))
      refine ms_aload_n dX11_lose_15 rfl ?_
      refine q_getr dX11_lose_16 fX11_47 kd_11_16 (by first | decide | exact lt_sc (by omega) | exact lt_dy (by omega) | exact lt_rw (by omega) | exact lt_wa (by omega) | exact lt_le (by omega)) (by first | rfl | rw [sh_sc (by omega)] | rw [sh_dy (by omega)]) (by first | rfl | exact rf_wa (by omega) | exact rf_le (by omega) | exact rf_rw (by omega)) ?_
      refine ms_iload_n dX11_lose_19 rfl ?_
      refine q_zald dX11_lose_20 (by first | decide | exact lt_sc (by omega) | exact lt_dy (by omega) | exact lt_rw (by omega) | exact lt_wa (by omega) | exact lt_le (by omega)) (by first | rfl | exact sh_rw (by omega) | exact sh_wa (by omega) | exact sh_le (by omega)) (by omega) (by decide) s9 ?_
      refine ms_if_eq (tgt := 28) dX11_lose_21 (by decide) (fun c21 => ?_) (fun c21 => absurd c21 (fun q => q rfl))
      refine ms_iconst (v := nI 2) dX11_lose_28 (by decide) ?_
      refine qRV1 dX11_lose_29 kX11_138 (by show _ < 178; first | decide | exact lt_sc (by omega) | exact lt_dy (by omega)) (by show (sh0 _).1 = _; first | rfl | rw [sh_sc (by omega)] | rw [sh_dy (by omega)]) (d := d - 1) (by show d - 1 + 1 ≤ d; omega) rfl (Nat.le_of_ble_eq_true rfl) (Nat.le_of_ble_eq_true rfl) (kr_gwk 1 (by decide)) rfl ?_
      refine ms_if_ne (tgt := 37) dX11_lose_32 (by decide) (fun c32 => absurd c32 (by decide)) (fun c32 => ?_)
      refine ms_iconst (v := nI 0) dX11_lose_35 (by decide) ?_
      refine ms_iret dX11_lose_36 rfl rfl ⟨?_, ?_⟩
      · rfl
      · rfl
    · obtain ⟨I2, hI2⟩ : ∃ I2, I2 = m_up2 (m_up2 I (scI s) 12 (nI 0)) (scI s) 13 (nI 1) := ⟨_, rfl⟩
      have q2 : ∀ p q, ¬ (p = scI s ∧ (q = 12 ∨ q = 13)) → I2 p q = I p q := fun p q h => by rw [hI2]; exact (m_up2_ne (by omega)).trans (m_up2_ne (by omega))
      have em : vm I2 = vm I := congrArg vN (q2 _ _ (by unfold scI; omega))
      have hIv2 : Iv c I2 := by
        rw [hI2]
        refine Iv_free ?_ (Nat.le_refl _) (by unfold usd scI; omega)
        obtain ⟨h1, h2, h3, h4, h5, h6, h7, h8, h9, h10, h11, h12⟩ := hI
        have hf : ∀ a d, ¬ (a = scI s ∧ d = 12) → m_up2 I (scI s) 12 (nI 0) a d = I a d := fun a d h => m_up2_ne h
        refine ⟨Vw_cong h1 (hf _ _ (by (try unfold scI); (try unfold dyI); (try unfold rwI); (try unfold waI); (try unfold leI); omega)) (fun t ht => ⟨hf (dyI t) 6 (by (try unfold scI); (try unfold dyI); (try unfold rwI); (try unfold waI); (try unfold leI); omega), fun j => hf (rwI t) j (by (try unfold scI); (try unfold dyI); (try unfold rwI); (try unfold waI); (try unfold leI); omega)⟩) (fun u hu => ⟨hf (scI u) 0 (by (try unfold scI); (try unfold dyI); (try unfold rwI); (try unfold waI); (try unfold leI); omega), hf (scI u) 15 (by (try unfold scI); (try unfold dyI); (try unfold rwI); (try unfold waI); (try unfold leI); omega)⟩), i2_c h2 (hf _ _ (by (try unfold scI); (try unfold dyI); (try unfold rwI); (try unfold waI); (try unfold leI); omega)) (hf _ _ (by (try unfold scI); (try unfold dyI); (try unfold rwI); (try unfold waI); (try unfold leI); omega)) (hf _ _ (by (try unfold scI); (try unfold dyI); (try unfold rwI); (try unfold waI); (try unfold leI); omega)), i3_c h3 (hf _ _ (by (try unfold scI); (try unfold dyI); (try unfold rwI); (try unfold waI); (try unfold leI); omega)) (fun u hu => hf (scI u) 4 (by (try unfold scI); (try unfold dyI); (try unfold rwI); (try unfold waI); (try unfold leI); omega)), i4_c hm h4 (hf _ _ (by (try unfold scI); (try unfold dyI); (try unfold rwI); (try unfold waI); (try unfold leI); omega)) (hf _ _ (by (try unfold scI); (try unfold dyI); (try unfold rwI); (try unfold waI); (try unfold leI); omega)) (fun u hu => hf (scI u) 0 (by (try unfold scI); (try unfold dyI); (try unfold rwI); (try unfold waI); (try unfold leI); omega)), i5_c h5 (hf _ _ (by (try unfold scI); (try unfold dyI); (try unfold rwI); (try unfold waI); (try unfold leI); omega)) (fun k => hf 3 k (by (try unfold scI); (try unfold dyI); (try unfold rwI); (try unfold waI); (try unfold leI); omega)), i6_c h6 (fun u hu => ⟨hf (scI u) 7 (by (try unfold scI); (try unfold dyI); (try unfold rwI); (try unfold waI); (try unfold leI); omega), hf (scI u) 3 (by (try unfold scI); (try unfold dyI); (try unfold rwI); (try unfold waI); (try unfold leI); omega), hf (scI u) 14 (by (try unfold scI); (try unfold dyI); (try unfold rwI); (try unfold waI); (try unfold leI); omega)⟩), i7_c h7 (hf _ _ (by (try unfold scI); (try unfold dyI); (try unfold rwI); (try unfold waI); (try unfold leI); omega)) (fun u hu hu2 => ⟨hf (scI u) 7 (by (try unfold scI); (try unfold dyI); (try unfold rwI); (try unfold waI); (try unfold leI); omega), hf (scI u) 15 (by (try unfold scI); (try unfold dyI); (try unfold rwI); (try unfold waI); (try unfold leI); omega), hf (scI u) 12 (by (try unfold scI); (try unfold dyI); (try unfold rwI); (try unfold waI); (try unfold leI); omega), hf (scI u) 11 (by (try unfold scI); (try unfold dyI); (try unfold rwI); (try unfold waI); (try unfold leI); omega), fun t ht => ⟨hf (waI u) t (by (try unfold scI); (try unfold dyI); (try unfold rwI); (try unfold waI); (try unfold leI); omega), hf (leI u) t (by (try unfold scI); (try unfold dyI); (try unfold rwI); (try unfold waI); (try unfold leI); omega)⟩⟩), i8_c h8 (hf _ _ (by (try unfold scI); (try unfold dyI); (try unfold rwI); (try unfold waI); (try unfold leI); omega)) (fun u hu => hf (scI u) 5 (by (try unfold scI); (try unfold dyI); (try unfold rwI); (try unfold waI); (try unfold leI); omega)), i9_c hm h9 (hf _ _ (by (try unfold scI); (try unfold dyI); (try unfold rwI); (try unfold waI); (try unfold leI); omega)) (fun u hu => ⟨hf (scI u) 11 (by (try unfold scI); (try unfold dyI); (try unfold rwI); (try unfold waI); (try unfold leI); omega), hf (scI u) 15 (by (try unfold scI); (try unfold dyI); (try unfold rwI); (try unfold waI); (try unfold leI); omega)⟩), i10_c h10 (hf _ _ (by (try unfold scI); (try unfold dyI); (try unfold rwI); (try unfold waI); (try unfold leI); omega)) (fun t ht => hf (dyI t) 4 (by (try unfold scI); (try unfold dyI); (try unfold rwI); (try unfold waI); (try unfold leI); omega)), i11_c h11 (fun t ht => hf (dyI t) 0 (by (try unfold scI); (try unfold dyI); (try unfold rwI); (try unfold waI); (try unfold leI); omega)) (fun k hk => hf 71 k (by (try unfold scI); (try unfold dyI); (try unfold rwI); (try unfold waI); (try unfold leI); omega)), i12_c h12 (by omega) (hf _ _ (by (try unfold scI); (try unfold dyI); (try unfold rwI); (try unfold waI); (try unfold leI); omega)) (hf _ _ (by (try unfold scI); (try unfold dyI); (try unfold rwI); (try unfold waI); (try unfold leI); omega))⟩
      have hV2 := hIv2.1
      have hM2 : I2 1 3 = nI (vm I) := (q2 _ _ (by unfold scI; omega)).trans hM.1
      -- the class's last heap, told by what the scene's place is
      have main : ∀ K : m_I, (∀ lg d, 2 ≤ d → m_R S M_X0_takeOff d [.ref 72, .int (nI s)] (hh I2 lg) none (hh K lg)) → Iv (c + 1) K → vm K = vm I → K 1 3 = nI (vm I) → (∀ a b, 143 ≤ a → K a b = I2 a b) → (∀ J3, Cr I2 J3 → ∃ J4, (∀ lg d, 2 ≤ d → m_R S M_X11_off d [.ref 143, .int (nI s)] (hh J3 lg) none (hh J4 lg)) ∧ Cr K J4 ∧ fQ J3 J4 ∧ J4 143 0 = J3 143 0) → Okc S c I M_X10_lose M_X11_lose [.ref 0, .int (nI s)] [.ref 143, .int (nI s)] [xI, xS] := by
        intro K hto hIK eK hK3 hKh hof
        have hcl : ∀ lg d, 9 ≤ d → m_R S M_X10_lose d [.ref 0, .int (nI s)] (hh I lg) (some (.int (nI (fb_ct (fun i => decide (stC K i = 3)) (vm I))))) (hh K lg) := fun lg d hd => k_lose (by omega) hM hs h1 (fun d hd => by rw [← hI2]; exact hto _ _ hd) hK3
        refine Okc_go _ hm hC hcl (fun p q h => (hKh p q h).trans (q2 p q (by unfold scI; omega))) hIK (fun J J' hJ hC' hgw hne hz => ?_)
        have c1 : Cr (m_up2 I (scI s) 12 (nI 0)) (m_up2 J' 156 s (nI 0)) := Cr_up hm hC' (a := 156) (b := s) (by unfold lvR; omega) rfl (by unfold scI; omega) (by unfold scI; omega)
        have e1 : vm (m_up2 I (scI s) 12 (nI 0)) = vm I := congrArg vN (m_up2_ne (by unfold scI; omega))
        have c2 : Cr I2 (m_up2 (m_up2 J' 156 s (nI 0)) 157 s (nI 1)) := by rw [hI2]; exact Cr_up (by rw [e1]; exact hm) c1 (a := 157) (b := s) (by unfold lvR; omega) rfl (by unfold scI; omega) (by unfold scI; omega)
        obtain ⟨J4, k1, k2, k3, k4⟩ := hof _ c2
        refine ⟨J4, fun lg d hd => ?_, k2, fQ_tr (fQ_up (by decide)) (fQ_tr (fQ_up (by decide)) k3), k4.trans ((m_up2_ne (by omega)).trans (m_up2_ne (by omega)))⟩
        have hsc := kr_sc1 (S := S) (J := J) (lg := lg) (d := d - 1) (by omega) (hJ.m.trans hM.1) hm hs
        have s9 : J 156 s = I (scI s) 12 := hJ.sh hs20
        have how := kr_owed (S := S) (I := J4) (lg := lg) (d := d - 1) (m := vm I) (by omega) (k2.m.trans hK3) hm
        have ec := ow_count k2 (by omega)
        rw [eK] at ec
        rw [ec]
        refine ms_aload_n dX11_lose_0 rfl ?_
        refine ms_iload_n dX11_lose_1 rfl ?_
        refine qRV1 dX11_lose_2 kX11_131 (by show _ < 178; first | decide | exact lt_sc (by omega) | exact lt_dy (by omega)) (by show (sh0 _).1 = _; first | rfl | rw [sh_sc (by omega)] | rw [sh_dy (by omega)]) (d := d - 1) (by show d - 1 + 1 ≤ d; omega) rfl (Nat.le_of_ble_eq_true rfl) (Nat.le_of_ble_eq_true rfl) (hsc) rfl ?_
        refine ms_istore_n dX11_lose_5 (Nat.le_of_ble_eq_true rfl) ?_
        refine ms_aload_n dX11_lose_6 rfl ?_
        refine ms_iload_n dX11_lose_7 rfl ?_
        refine ms_if_ne (tgt := 15) dX11_lose_8 (by decide) (fun c8 => ?_) (fun c8 => absurd c8 (by decide))
        refine ms_aload_n dX11_lose_15 rfl ?_
        refine q_getr dX11_lose_16 fX11_47 kd_11_16 (by first | decide | exact lt_sc (by omega) | exact lt_dy (by omega) | exact lt_rw (by omega) | exact lt_wa (by omega) | exact lt_le (by omega)) (by first | rfl | rw [sh_sc (by omega)] | rw [sh_dy (by omega)]) (by first | rfl | exact rf_wa (by omega) | exact rf_le (by omega) | exact rf_rw (by omega)) ?_
        refine ms_iload_n dX11_lose_19 rfl ?_
        refine q_zald dX11_lose_20 (by first | decide | exact lt_sc (by omega) | exact lt_dy (by omega) | exact lt_rw (by omega) | exact lt_wa (by omega) | exact lt_le (by omega)) (by first | rfl | exact sh_rw (by omega) | exact sh_wa (by omega) | exact sh_le (by omega)) (by omega) (by decide) s9 ?_
        refine ms_if_eq (tgt := 28) dX11_lose_21 (by decide) (fun c21 => absurd c21 (fun q => h1 q)) (fun c21 => ?_)
        refine ms_iconst (v := nI 0) dX11_lose_24 (by decide) ?_
        refine ms_goto (tgt := 29) dX11_lose_25 (by decide) ?_
        refine qRV1 dX11_lose_29 kX11_138 (by show _ < 178; first | decide | exact lt_sc (by omega) | exact lt_dy (by omega)) (by show (sh0 _).1 = _; first | rfl | rw [sh_sc (by omega)] | rw [sh_dy (by omega)]) (d := d - 1) (by show d - 1 + 1 ≤ d; omega) rfl (Nat.le_of_ble_eq_true rfl) (Nat.le_of_ble_eq_true rfl) (hgw _ _) rfl ?_
        refine ms_if_ne (tgt := 37) dX11_lose_32 (by decide) (fun c32 => ?_) (fun c32 => absurd c32 (by decide))
        refine ms_aload_n dX11_lose_37 rfl ?_
        refine q_getr dX11_lose_38 fX11_47 kd_11_16 (by first | decide | exact lt_sc (by omega) | exact lt_dy (by omega) | exact lt_rw (by omega) | exact lt_wa (by omega) | exact lt_le (by omega)) (by first | rfl | rw [sh_sc (by omega)] | rw [sh_dy (by omega)]) (by first | rfl | exact rf_wa (by omega) | exact rf_le (by omega) | exact rf_rw (by omega)) ?_
        refine ms_iload_n dX11_lose_41 rfl ?_
        refine ms_iconst (v := nI 0) dX11_lose_42 (by decide) ?_
        refine q_zast dX11_lose_43 (by first | decide | exact lt_sc (by omega) | exact lt_dy (by omega) | exact lt_rw (by omega) | exact lt_wa (by omega) | exact lt_le (by omega)) (by first | rfl | exact sh_rw (by omega) | exact sh_wa (by omega) | exact sh_le (by omega)) (by omega) (by decide) (by first | exact Or.inl (by decide) | exact Or.inr (by decide) | assumption | exact bi_01 _) ?_
        refine ms_aload_n dX11_lose_44 rfl ?_
        refine q_getr dX11_lose_45 fX11_50 kd_11_17 (by first | decide | exact lt_sc (by omega) | exact lt_dy (by omega) | exact lt_rw (by omega) | exact lt_wa (by omega) | exact lt_le (by omega)) (by first | rfl | rw [sh_sc (by omega)] | rw [sh_dy (by omega)]) (by first | rfl | exact rf_wa (by omega) | exact rf_le (by omega) | exact rf_rw (by omega)) ?_
        refine ms_iload_n dX11_lose_48 rfl ?_
        refine ms_iconst (v := nI 1) dX11_lose_49 (by decide) ?_
        refine q_zast dX11_lose_50 (by first | decide | exact lt_sc (by omega) | exact lt_dy (by omega) | exact lt_rw (by omega) | exact lt_wa (by omega) | exact lt_le (by omega)) (by first | rfl | exact sh_rw (by omega) | exact sh_wa (by omega) | exact sh_le (by omega)) (by omega) (by decide) (by first | exact Or.inl (by decide) | exact Or.inr (by decide) | assumption | exact bi_01 _) ?_
        refine ms_aload_n dX11_lose_51 rfl ?_
        refine ms_iload_n dX11_lose_52 rfl ?_
        refine qRV1 dX11_lose_53 kX11_148 (by show _ < 178; first | decide | exact lt_sc (by omega) | exact lt_dy (by omega)) (by show (sh0 _).1 = _; first | rfl | rw [sh_sc (by omega)] | rw [sh_dy (by omega)]) (d := d - 1) (by show d - 1 + 1 ≤ d; omega) rfl (Nat.le_of_ble_eq_true rfl) (Nat.le_of_ble_eq_true rfl) (k1 _ _ (by omega)) rfl ?_
        refine ms_aload_n dX11_lose_56 rfl ?_
        refine qRV0 dX11_lose_57 kX11_217 (by show _ < 178; first | decide | exact lt_sc (by omega) | exact lt_dy (by omega)) (by show (sh0 _).1 = _; first | rfl | rw [sh_sc (by omega)] | rw [sh_dy (by omega)]) (d := d - 1) (by show d - 1 + 1 ≤ d; omega)  (Nat.le_of_ble_eq_true rfl) (Nat.le_of_ble_eq_true rfl) (how) rfl ?_
        refine ms_iret dX11_lose_60 rfl rfl ⟨?_, ?_⟩
        · rfl
        · rfl
      rcases hV2.2.2.2.2.1 s (by omega) with hdy | ⟨t, a, ht, ha, he⟩
      · refine main I2 (fun lg d hd => k_takeOff0 hs20 hdy) (Iv_same hIv2 (by omega) (fun _ _ _ => rfl)) em hM2 (fun _ _ _ => rfl) (fun J3 h3 => ⟨J3, fun lg d hd => kr_off0 hs20 ((h3.dy (by omega)).trans hdy), h3, fun _ _ _ => rfl, rfl⟩)
      · have eT : vm (toI I2 s t a (vn I2 t)) = vm I := (congrArg vN (toI_ne (by unfold rwI; omega) (by unfold dyI; omega) (by unfold scI; omega))).trans em
        exact main _ (fun lg d hd => k_takeV hd hV2 ht ha he) (Iv_toI hIv2 (by omega) ht ha he) eT ((toI_ne (by unfold rwI; omega) (by unfold dyI; omega) (by unfold scI; omega)).trans hM2) (fH_to hs20 ht) (fun J3 h3 => ⟨_, fun lg d hd => kr_offV hd h3 hV2 ht ha he, Cr_take (by omega) h3 ht (hV2.2.1 t ht) (by omega), fQ_of, ofR_thr⟩)
  · refine Okc_thr (k := 0) (E := xI) (b := some (.int (nI 0))) hI hC rfl (fun lg d hd => k_loseT1 (by omega) hM hx) (fun lg d hd => ?_)
    have hsc := kr_sc0 (S := S) (J := I) (lg := lg) (d := d - 1) (by omega) (hC.m.trans hM.1) hm hx
    refine ms_aload_n dX11_lose_0 rfl ?_
    refine ms_iload_n dX11_lose_1 rfl ?_
    refine qRV1 dX11_lose_2 kX11_131 (by show _ < 178; first | decide | exact lt_sc (by omega) | exact lt_dy (by omega)) (by show (sh0 _).1 = _; first | rfl | rw [sh_sc (by omega)] | rw [sh_dy (by omega)]) (d := d - 1) (by show d - 1 + 1 ≤ d; omega) rfl (Nat.le_of_ble_eq_true rfl) (Nat.le_of_ble_eq_true rfl) (hsc) rfl ?_
    refine ms_istore_n dX11_lose_5 (Nat.le_of_ble_eq_true rfl) ?_
    refine ms_aload_n dX11_lose_6 rfl ?_
    refine ms_iload_n dX11_lose_7 rfl ?_
    refine ms_if_ne (tgt := 15) dX11_lose_8 (by decide) (fun c8 => absurd c8 (by decide)) (fun c8 => ?_)
    refine ms_iconst (v := nI 1) dX11_lose_11 (by decide) ?_
    refine ms_goto (tgt := 29) dX11_lose_12 (by decide) ?_
    refine qRV1 dX11_lose_29 kX11_138 (by show _ < 178; first | decide | exact lt_sc (by omega) | exact lt_dy (by omega)) (by show (sh0 _).1 = _; first | rfl | rw [sh_sc (by omega)] | rw [sh_dy (by omega)]) (d := d - 1) (by show d - 1 + 1 ≤ d; omega) rfl (Nat.le_of_ble_eq_true rfl) (Nat.le_of_ble_eq_true rfl) (kr_gwk 0 (by decide)) rfl ?_
    refine ms_if_ne (tgt := 37) dX11_lose_32 (by decide) (fun c32 => absurd c32 (by decide)) (fun c32 => ?_)
    refine ms_iconst (v := nI 0) dX11_lose_35 (by decide) ?_
    refine ms_iret dX11_lose_36 rfl rfl ⟨?_, ?_⟩
    · rfl
    · rfl
theorem vN_add {x y : Int32} {a b : Nat} (hx : vN x ≤ a) (hy : vN y ≤ b) (hab : a + b < 4294967296) : vN (x + y) ≤ a + b := by
  rw [← nI_vN x, ← nI_vN y, nI_add, vN_nI (by omega)]
  omega
theorem o_shoot {S : m_S} {c : Nat} {I : m_I} (x y : Int32) (hc : c < 512) (hI : Iv c I) (hC : Cr I I) : Okc S c I M_X10_shoot M_X11_shoot [.ref 0, .int x, .int y] [.ref 143, .int x, .int y] [xI, xA, xS] := by
  have hV := hI.1
  have hm := hV.1
  have hM := Iv_Md hI
  rcases ix_or x (n := vm I) (by omega) with ⟨s, hs, rfl⟩ | hx
  · have hs20 : s < 20 := by omega
    by_cases hy : nI 1 ≤ y ∧ y ≤ nI 1000
    · have hy2 : vN y ≤ 1000 := vN_le (by decide) ⟨Int32.le_trans (by decide) hy.1, hy.2⟩
      by_cases hcan : I (scI s) 15 = I 72 4 ∧ I (scI s) 12 = 0
      · obtain ⟨I3, hI3⟩ : ∃ I3, I3 = shS I s y := ⟨_, rfl⟩
        have q3 : ∀ p q, ¬ (p = scI s ∧ (q = 12 ∨ q = 13 ∨ q = 14)) → I3 p q = I p q := fun p q h => by rw [hI3]; exact (m_up2_ne (by omega)).trans ((m_up2_ne (by omega)).trans (m_up2_ne (by omega)))
        obtain ⟨K, hK⟩ : ∃ K, K = shJ I s y := ⟨_, rfl⟩
        have hKI : K = m_up2 (m_up2 I3 73 0 (I3 73 0 + y)) 73 1 (I3 73 1 + I3 (scI s) 3) := by rw [hK, hI3]; rfl
        have qK : ∀ p q, ¬ (p = scI s ∧ (q = 12 ∨ q = 13 ∨ q = 14)) → ¬ (p = 73 ∧ (q = 0 ∨ q = 1)) → K p q = I p q := fun p q h h2 => by rw [hKI]; exact (m_up2_ne (by omega)).trans ((m_up2_ne (by omega)).trans (q3 p q h))
        have e730 : I3 73 0 = I 73 0 := q3 _ _ (by unfold scI; omega)
        have e731 : I3 73 1 = I 73 1 := q3 _ _ (by unfold scI; omega)
        have e3 : I3 (scI s) 3 = I (scI s) 3 := q3 _ _ (by omega)
        have hIK : Iv (c + 1) K := by
          obtain ⟨h1, h2, h3, h4, h5, h6, h7, h8, h9, h10, h11, h12⟩ := hI
          have hf := fun p q (h : ¬ ((p = scI s ∧ (q = 12 ∨ q = 13 ∨ q = 14)) ∨ (p = 73 ∧ (q = 0 ∨ q = 1)))) => qK p q (fun z => h (Or.inl z)) (fun z => h (Or.inr z))
          refine ⟨Vw_cong h1 (hf _ _ (by (try unfold scI); (try unfold dyI); (try unfold rwI); (try unfold waI); (try unfold leI); omega)) (fun t ht => ⟨hf (dyI t) 6 (by (try unfold scI); (try unfold dyI); (try unfold rwI); (try unfold waI); (try unfold leI); omega), fun j => hf (rwI t) j (by (try unfold scI); (try unfold dyI); (try unfold rwI); (try unfold waI); (try unfold leI); omega)⟩) (fun u hu => ⟨hf (scI u) 0 (by (try unfold scI); (try unfold dyI); (try unfold rwI); (try unfold waI); (try unfold leI); omega), hf (scI u) 15 (by (try unfold scI); (try unfold dyI); (try unfold rwI); (try unfold waI); (try unfold leI); omega)⟩), i2_c h2 (hf _ _ (by (try unfold scI); (try unfold dyI); (try unfold rwI); (try unfold waI); (try unfold leI); omega)) (hf _ _ (by (try unfold scI); (try unfold dyI); (try unfold rwI); (try unfold waI); (try unfold leI); omega)) (hf _ _ (by (try unfold scI); (try unfold dyI); (try unfold rwI); (try unfold waI); (try unfold leI); omega)), i3_c h3 (hf _ _ (by (try unfold scI); (try unfold dyI); (try unfold rwI); (try unfold waI); (try unfold leI); omega)) (fun u hu => hf (scI u) 4 (by (try unfold scI); (try unfold dyI); (try unfold rwI); (try unfold waI); (try unfold leI); omega)), i4_c hm h4 (hf _ _ (by (try unfold scI); (try unfold dyI); (try unfold rwI); (try unfold waI); (try unfold leI); omega)) (hf _ _ (by (try unfold scI); (try unfold dyI); (try unfold rwI); (try unfold waI); (try unfold leI); omega)) (fun u hu => hf (scI u) 0 (by (try unfold scI); (try unfold dyI); (try unfold rwI); (try unfold waI); (try unfold leI); omega)), i5_c h5 (hf _ _ (by (try unfold scI); (try unfold dyI); (try unfold rwI); (try unfold waI); (try unfold leI); omega)) (fun k => hf 3 k (by (try unfold scI); (try unfold dyI); (try unfold rwI); (try unfold waI); (try unfold leI); omega)), ?_, ?_, i8_c h8 (hf _ _ (by (try unfold scI); (try unfold dyI); (try unfold rwI); (try unfold waI); (try unfold leI); omega)) (fun u hu => hf (scI u) 5 (by (try unfold scI); (try unfold dyI); (try unfold rwI); (try unfold waI); (try unfold leI); omega)), i9_c hm h9 (hf _ _ (by (try unfold scI); (try unfold dyI); (try unfold rwI); (try unfold waI); (try unfold leI); omega)) (fun u hu => ⟨hf (scI u) 11 (by (try unfold scI); (try unfold dyI); (try unfold rwI); (try unfold waI); (try unfold leI); omega), hf (scI u) 15 (by (try unfold scI); (try unfold dyI); (try unfold rwI); (try unfold waI); (try unfold leI); omega)⟩), i10_c h10 (hf _ _ (by (try unfold scI); (try unfold dyI); (try unfold rwI); (try unfold waI); (try unfold leI); omega)) (fun t ht => hf (dyI t) 4 (by (try unfold scI); (try unfold dyI); (try unfold rwI); (try unfold waI); (try unfold leI); omega)), i11_c h11 (fun t ht => hf (dyI t) 0 (by (try unfold scI); (try unfold dyI); (try unfold rwI); (try unfold waI); (try unfold leI); omega)) (fun k hk => hf 71 k (by (try unfold scI); (try unfold dyI); (try unfold rwI); (try unfold waI); (try unfold leI); omega)), ?_⟩
          · intro u hu
            rw [hf (scI u) 7 (by unfold scI; omega), hf (scI u) 3 (by unfold scI; omega)]
            refine ⟨(h6 u hu).1, (h6 u hu).2.1, ?_⟩
            by_cases z : u = s
            · have e14 : K (scI s) 14 = y := by
                rw [hKI, m_up2_ne (by unfold scI; omega), m_up2_ne (by unfold scI; omega), hI3]
                exact m_up2_eq
              rw [z, e14]
              exact hy2
            · rw [hf _ _ (by unfold scI; omega)]
              exact (h6 u hu).2.2
          · refine i7_c h7 (hf _ _ (by unfold scI; omega)) (fun u hu hu2 => ⟨hf _ _ (by unfold scI; omega), hf _ _ (by unfold scI; omega), hf _ _ (by unfold scI; omega), hf _ _ (by unfold scI; omega), fun t ht => ⟨hf _ _ (by unfold waI scI; omega), hf _ _ (by unfold leI scI; omega)⟩⟩)
          · have k0 : K 73 0 = I 73 0 + y := by
              rw [hKI, m_up2_ne (by omega), m_up2_eq, e730]
            have k1 : K 73 1 = I 73 1 + I (scI s) 3 := by
              rw [hKI, m_up2_eq, e731, e3]
            unfold i12
            rw [k0, k1]
            have a1 := vN_add h12.1 hy2 (by omega)
            have a2 := vN_add h12.2 (h6 s hs20).2.1 (by omega)
            omega
        have hcl : ∀ lg d, 9 ≤ d → m_R S M_X10_shoot d [.ref 0, .int (nI s), .int y] (hh I lg) (some (.int (eiC K))) (hh K lg) := fun lg d hd => by
          rw [hK]
          exact k_shoot (by omega) hM hs hy hcan.1 hcan.2
        refine Okc_go _ hm hC hcl (fun p q h => qK p q (by unfold scI; omega) (by omega)) hIK (fun J J' hJ hC' hgw hne hz => ?_)
        have hv : ∀ (I2 : m_I) (a d : Nat) (x : Int32), vm I2 = vm I → a ≠ 1 → vm (m_up2 I2 a d x) = vm I := fun I2 a d x h ha => (congrArg vN (m_up2_ne (by omega))).trans h
        have hsc5 : scI s ≠ 1 := by unfold scI; omega
        have v1 := hv I (scI s) 12 (nI 1) rfl hsc5
        have v2 := hv _ (scI s) 13 (nI 0) v1 hsc5
        have v3 := hv _ (scI s) 14 y v2 hsc5
        have c1 : Cr (m_up2 I (scI s) 12 (nI 1)) (m_up2 J' 156 s (nI 1)) := Cr_up hm hC' (a := 156) (b := s) (by unfold lvR; omega) rfl (by unfold scI; omega) (by unfold scI; omega)
        have c2 : Cr (m_up2 (m_up2 I (scI s) 12 (nI 1)) (scI s) 13 (nI 0)) (m_up2 (m_up2 J' 156 s (nI 1)) 157 s (nI 0)) := Cr_up (by rw [v1]; exact hm) c1 (a := 157) (b := s) (by unfold lvR; omega) rfl (by unfold scI; omega) (by unfold scI; omega)
        have c3 : Cr I3 (m_up2 (m_up2 (m_up2 J' 156 s (nI 1)) 157 s (nI 0)) 158 s y) := by rw [hI3]; exact Cr_up (by rw [v2]; exact hm) c2 (a := 158) (b := s) (by unfold lvR; omega) rfl (by unfold scI; omega) (by unfold scI; omega)
        obtain ⟨J3, hJ3⟩ : ∃ J3, J3 = m_up2 (m_up2 (m_up2 J' 156 s (nI 1)) 157 s (nI 0)) 158 s y := ⟨_, rfl⟩
        rw [← hJ3] at c3
        have vI3 : vm I3 = vm I := congrArg vN (q3 _ _ (by unfold scI; omega))
        have c4 : Cr (m_up2 I3 73 0 (I3 73 0 + y)) (m_up2 J3 143 20 (I3 73 0 + y)) := Cr_up (by rw [vI3]; exact hm) c3 (a := 143) (b := 20) (by unfold lvR; omega) rfl (by decide) (by decide)
        have v4 := hv I3 73 0 (I3 73 0 + y) vI3 (by decide)
        have c5 : Cr K (m_up2 (m_up2 J3 143 20 (I3 73 0 + y)) 143 21 (I3 73 1 + I3 (scI s) 3)) := by rw [hKI]; exact Cr_up (by rw [v4]; exact hm) c4 (a := 143) (b := 21) (by unfold lvR; omega) rfl (by decide) (by decide)
        have q5 : ∀ p q, p < 143 ∨ (p = 143 ∧ q = 0) → J3 p q = J' p q := fun p q h => by rw [hJ3]; exact (m_up2_ne (by omega)).trans ((m_up2_ne (by omega)).trans (m_up2_ne (by omega)))
        refine ⟨_, fun lg d hd => ?_, c5, fun p q h => (m_up2_ne (by omega)).trans ((m_up2_ne (by omega)).trans (q5 p q (Or.inl h))), (m_up2_ne (by omega)).trans ((m_up2_ne (by omega)).trans (q5 _ _ (Or.inr ⟨rfl, rfl⟩)))⟩
        have hsc := kr_sc1 (S := S) (J := J) (lg := lg) (d := d - 1) (by omega) (hJ.m.trans hM.1) hm hs
        have d9 : J 159 s = I 72 4 := (hJ.dy hs).trans hcan.1
        have n9 : J 143 1 = I 72 4 := hJ.now
        have s9 : J 156 s = 0 := (hJ.sh hs20).trans hcan.2
        have m9 : J3 143 20 = I3 73 0 := c3.sm
        have e9 : J3 143 21 = I3 73 1 := c3.se
        have f9 : m_up2 J3 143 20 (I3 73 0 + y) 150 s = I3 (scI s) 3 := (m_up2_ne (by omega)).trans (c3.ei hs20)
        have e8 : m_up2 J3 143 20 (I3 73 0 + y) 143 21 = I3 73 1 := (m_up2_ne (by omega)).trans e9
        have hei := kr_eighth (S := S) (I := m_up2 (m_up2 J3 143 20 (I3 73 0 + y)) 143 21 (I3 73 1 + I3 (scI s) 3)) (lg := lg) (d := d - 1)
        rw [Cr_ei c5] at hei
        refine ms_aload_n dX11_shoot_0 rfl ?_
        refine ms_iload_n dX11_shoot_1 rfl ?_
        refine qRV1 dX11_shoot_2 kX11_131 (by show _ < 178; first | decide | exact lt_sc (by omega) | exact lt_dy (by omega)) (by show (sh0 _).1 = _; first | rfl | rw [sh_sc (by omega)] | rw [sh_dy (by omega)]) (d := d - 1) (by show d - 1 + 1 ≤ d; omega) rfl (Nat.le_of_ble_eq_true rfl) (Nat.le_of_ble_eq_true rfl) (hsc) rfl ?_
        refine ms_istore_n dX11_shoot_5 (Nat.le_of_ble_eq_true rfl) ?_
        refine ms_iload_n dX11_shoot_6 rfl ?_
        refine ms_if_eq (tgt := 36) dX11_shoot_7 (by decide) (fun c7 => absurd c7 (by decide)) (fun c7 => ?_)
        refine ms_aload_n dX11_shoot_10 rfl ?_
        refine q_getr dX11_shoot_11 fX11_56 kd_11_19 (by first | decide | exact lt_sc (by omega) | exact lt_dy (by omega) | exact lt_rw (by omega) | exact lt_wa (by omega) | exact lt_le (by omega)) (by first | rfl | rw [sh_sc (by omega)] | rw [sh_dy (by omega)]) (by first | rfl | exact rf_wa (by omega) | exact rf_le (by omega) | exact rf_rw (by omega)) ?_
        refine ms_iload_n dX11_shoot_14 rfl ?_
        refine q_iald dX11_shoot_15 (by first | decide | exact lt_sc (by omega) | exact lt_dy (by omega) | exact lt_rw (by omega) | exact lt_wa (by omega) | exact lt_le (by omega)) (by first | rfl | exact sh_rw (by omega) | exact sh_wa (by omega) | exact sh_le (by omega)) (by omega) (by decide) d9 ?_
        refine ms_aload_n dX11_shoot_16 rfl ?_
        refine q_geti dX11_shoot_17 fX11_192 (by rw [kd_11_1]; decide) (by first | decide | exact lt_sc (by omega) | exact lt_dy (by omega) | exact lt_rw (by omega) | exact lt_wa (by omega) | exact lt_le (by omega)) (by first | rfl | rw [sh_sc (by omega)] | rw [sh_dy (by omega)]) n9 ?_
        refine ms_icmp_ne (tgt := 36) dX11_shoot_20 (by decide) (fun c20 => absurd c20 (fun q => q rfl)) (fun c20 => ?_)
        refine ms_aload_n dX11_shoot_23 rfl ?_
        refine q_getr dX11_shoot_24 fX11_47 kd_11_16 (by first | decide | exact lt_sc (by omega) | exact lt_dy (by omega) | exact lt_rw (by omega) | exact lt_wa (by omega) | exact lt_le (by omega)) (by first | rfl | rw [sh_sc (by omega)] | rw [sh_dy (by omega)]) (by first | rfl | exact rf_wa (by omega) | exact rf_le (by omega) | exact rf_rw (by omega)) ?_
        refine ms_iload_n dX11_shoot_27 rfl ?_
        refine q_zald dX11_shoot_28 (by first | decide | exact lt_sc (by omega) | exact lt_dy (by omega) | exact lt_rw (by omega) | exact lt_wa (by omega) | exact lt_le (by omega)) (by first | rfl | exact sh_rw (by omega) | exact sh_wa (by omega) | exact sh_le (by omega)) (by omega) (by decide) s9 ?_
        refine ms_if_ne (tgt := 36) dX11_shoot_29 (by decide) (fun c29 => absurd c29 (fun q => q rfl)) (fun c29 => ?_)
        refine ms_iconst (v := nI 1) dX11_shoot_32 (by decide) ?_
        refine ms_goto (tgt := 37) dX11_shoot_33 (by decide) ?_
        refine ms_istore dX11_shoot_37 (Nat.le_of_ble_eq_true rfl) ?_
        refine ms_aload_n dX11_shoot_39 rfl ?_
        refine ms_iload_n dX11_shoot_40 rfl ?_
        refine ms_if_ne (tgt := 48) dX11_shoot_41 (by decide) (fun c41 => ?_) (fun c41 => absurd c41 (by decide))
        refine ms_iload_n dX11_shoot_48 rfl ?_
        refine ms_iconst (v := nI 1) dX11_shoot_49 (by decide) ?_
        refine ms_sipush (v := nI 1000) dX11_shoot_50 (by decide) ?_
        refine qRS3 dX11_shoot_53 kX11_117 (d := d - 1) (by show d - 1 + 1 ≤ d; omega) rfl rfl rfl (Nat.le_of_ble_eq_true rfl) (Nat.le_of_ble_eq_true rfl) (kr_in1 hy) rfl ?_
        refine ms_if_ne (tgt := 63) dX11_shoot_56 (by decide) (fun c56 => ?_) (fun c56 => absurd c56 (by decide))
        refine ms_iload dX11_shoot_63 rfl ?_
        refine ms_if_eq (tgt := 72) dX11_shoot_65 (by decide) (fun c65 => absurd c65 (by decide)) (fun c65 => ?_)
        refine ms_iconst (v := nI 0) dX11_shoot_68 (by decide) ?_
        refine ms_goto (tgt := 73) dX11_shoot_69 (by decide) ?_
        refine qRV1 dX11_shoot_73 kX11_138 (by show _ < 178; first | decide | exact lt_sc (by omega) | exact lt_dy (by omega)) (by show (sh0 _).1 = _; first | rfl | rw [sh_sc (by omega)] | rw [sh_dy (by omega)]) (d := d - 1) (by show d - 1 + 1 ≤ d; omega) rfl (Nat.le_of_ble_eq_true rfl) (Nat.le_of_ble_eq_true rfl) (hgw _ _) rfl ?_
        refine ms_if_ne (tgt := 81) dX11_shoot_76 (by decide) (fun c76 => ?_) (fun c76 => absurd c76 (by decide))
        refine ms_aload_n dX11_shoot_81 rfl ?_
        refine q_getr dX11_shoot_82 fX11_47 kd_11_16 (by first | decide | exact lt_sc (by omega) | exact lt_dy (by omega) | exact lt_rw (by omega) | exact lt_wa (by omega) | exact lt_le (by omega)) (by first | rfl | rw [sh_sc (by omega)] | rw [sh_dy (by omega)]) (by first | rfl | exact rf_wa (by omega) | exact rf_le (by omega) | exact rf_rw (by omega)) ?_
        refine ms_iload_n dX11_shoot_85 rfl ?_
        refine ms_iconst (v := nI 1) dX11_shoot_86 (by decide) ?_
        refine q_zast dX11_shoot_87 (by first | decide | exact lt_sc (by omega) | exact lt_dy (by omega) | exact lt_rw (by omega) | exact lt_wa (by omega) | exact lt_le (by omega)) (by first | rfl | exact sh_rw (by omega) | exact sh_wa (by omega) | exact sh_le (by omega)) (by omega) (by decide) (by first | exact Or.inl (by decide) | exact Or.inr (by decide) | assumption | exact bi_01 _) ?_
        refine ms_aload_n dX11_shoot_88 rfl ?_
        refine q_getr dX11_shoot_89 fX11_50 kd_11_17 (by first | decide | exact lt_sc (by omega) | exact lt_dy (by omega) | exact lt_rw (by omega) | exact lt_wa (by omega) | exact lt_le (by omega)) (by first | rfl | rw [sh_sc (by omega)] | rw [sh_dy (by omega)]) (by first | rfl | exact rf_wa (by omega) | exact rf_le (by omega) | exact rf_rw (by omega)) ?_
        refine ms_iload_n dX11_shoot_92 rfl ?_
        refine ms_iconst (v := nI 0) dX11_shoot_93 (by decide) ?_
        refine q_zast dX11_shoot_94 (by first | decide | exact lt_sc (by omega) | exact lt_dy (by omega) | exact lt_rw (by omega) | exact lt_wa (by omega) | exact lt_le (by omega)) (by first | rfl | exact sh_rw (by omega) | exact sh_wa (by omega) | exact sh_le (by omega)) (by omega) (by decide) (by first | exact Or.inl (by decide) | exact Or.inr (by decide) | assumption | exact bi_01 _) ?_
        refine ms_aload_n dX11_shoot_95 rfl ?_
        refine q_getr dX11_shoot_96 fX11_53 kd_11_18 (by first | decide | exact lt_sc (by omega) | exact lt_dy (by omega) | exact lt_rw (by omega) | exact lt_wa (by omega) | exact lt_le (by omega)) (by first | rfl | rw [sh_sc (by omega)] | rw [sh_dy (by omega)]) (by first | rfl | exact rf_wa (by omega) | exact rf_le (by omega) | exact rf_rw (by omega)) ?_
        refine ms_iload_n dX11_shoot_99 rfl ?_
        refine ms_iload_n dX11_shoot_100 rfl ?_
        refine q_iast dX11_shoot_101 (by first | decide | exact lt_sc (by omega) | exact lt_dy (by omega) | exact lt_rw (by omega) | exact lt_wa (by omega) | exact lt_le (by omega)) (by first | rfl | exact sh_rw (by omega) | exact sh_wa (by omega) | exact sh_le (by omega)) (by omega) (by decide) ?_
        rw [← hJ3]
        refine ms_aload_n dX11_shoot_102 rfl ?_
        refine ms_dup dX11_shoot_103 rfl ?_
        refine q_geti dX11_shoot_104 fX11_175 (by rw [kd_11_20]; decide) (by first | decide | exact lt_sc (by omega) | exact lt_dy (by omega) | exact lt_rw (by omega) | exact lt_wa (by omega) | exact lt_le (by omega)) (by first | rfl | rw [sh_sc (by omega)] | rw [sh_dy (by omega)]) m9 ?_
        refine ms_iload_n dX11_shoot_107 rfl ?_
        refine ms_iadd dX11_shoot_108 ?_
        refine q_puti dX11_shoot_109 fX11_175 pX11_11_20 kd_11_20 (by first | decide | exact lt_sc (by omega) | exact lt_dy (by omega) | exact lt_rw (by omega) | exact lt_wa (by omega) | exact lt_le (by omega)) (by first | rfl | rw [sh_sc (by omega)] | rw [sh_dy (by omega)]) ?_
        refine ms_aload_n dX11_shoot_112 rfl ?_
        refine ms_dup dX11_shoot_113 rfl ?_
        refine q_geti dX11_shoot_114 fX11_172 (by rw [kd_11_21]; decide) (by first | decide | exact lt_sc (by omega) | exact lt_dy (by omega) | exact lt_rw (by omega) | exact lt_wa (by omega) | exact lt_le (by omega)) (by first | rfl | rw [sh_sc (by omega)] | rw [sh_dy (by omega)]) e8 ?_
        refine ms_aload_n dX11_shoot_117 rfl ?_
        refine q_getr dX11_shoot_118 fX11_29 kd_11_10 (by first | decide | exact lt_sc (by omega) | exact lt_dy (by omega) | exact lt_rw (by omega) | exact lt_wa (by omega) | exact lt_le (by omega)) (by first | rfl | rw [sh_sc (by omega)] | rw [sh_dy (by omega)]) (by first | rfl | exact rf_wa (by omega) | exact rf_le (by omega) | exact rf_rw (by omega)) ?_
        refine ms_iload_n dX11_shoot_121 rfl ?_
        refine q_iald dX11_shoot_122 (by first | decide | exact lt_sc (by omega) | exact lt_dy (by omega) | exact lt_rw (by omega) | exact lt_wa (by omega) | exact lt_le (by omega)) (by first | rfl | exact sh_rw (by omega) | exact sh_wa (by omega) | exact sh_le (by omega)) (by omega) (by decide) f9 ?_
        refine ms_iadd dX11_shoot_123 ?_
        refine q_puti dX11_shoot_124 fX11_172 pX11_11_21 kd_11_21 (by first | decide | exact lt_sc (by omega) | exact lt_dy (by omega) | exact lt_rw (by omega) | exact lt_wa (by omega) | exact lt_le (by omega)) (by first | rfl | rw [sh_sc (by omega)] | rw [sh_dy (by omega)]) ?_
        refine ms_aload_n dX11_shoot_127 rfl ?_
        refine qRV0 dX11_shoot_128 kX11_178 (by show _ < 178; first | decide | exact lt_sc (by omega) | exact lt_dy (by omega)) (by show (sh0 _).1 = _; first | rfl | rw [sh_sc (by omega)] | rw [sh_dy (by omega)]) (d := d - 1) (by show d - 1 + 1 ≤ d; omega)  (Nat.le_of_ble_eq_true rfl) (Nat.le_of_ble_eq_true rfl) (hei) rfl ?_
        refine ms_iret dX11_shoot_131 rfl rfl ⟨?_, ?_⟩
        · rfl
        · rfl
      · refine Okc_thr (k := 2) (E := xS) (b := some (.int (nI 0))) hI hC rfl (fun lg d hd => k_shootT3 (by omega) hM hs hy hcan) (fun lg d hd => ?_)
        have hsc := kr_sc1 (S := S) (J := I) (lg := lg) (d := d - 1) (by omega) (hC.m.trans hM.1) hm hs
        have d9 : I 159 s = I (scI s) 15 := hC.dy hs
        have n9 : I 143 1 = I 72 4 := hC.now
        have s9 : I 156 s = I (scI s) 12 := hC.sh hs20
        by_cases z : I (scI s) 15 = I 72 4
        · refine ms_aload_n dX11_shoot_0 rfl ?_
          refine ms_iload_n dX11_shoot_1 rfl ?_
          refine qRV1 dX11_shoot_2 kX11_131 (by show _ < 178; first | decide | exact lt_sc (by omega) | exact lt_dy (by omega)) (by show (sh0 _).1 = _; first | rfl | rw [sh_sc (by omega)] | rw [sh_dy (by omega)]) (d := d - 1) (by show d - 1 + 1 ≤ d; omega) rfl (Nat.le_of_ble_eq_true rfl) (Nat.le_of_ble_eq_true rfl) (hsc) rfl ?_
          refine ms_istore_n dX11_shoot_5 (Nat.le_of_ble_eq_true rfl) ?_
          refine ms_iload_n dX11_shoot_6 rfl ?_
          refine ms_if_eq (tgt := 36) dX11_shoot_7 (by decide) (fun c7 => absurd c7 (by decide)) (fun c7 => ?_)
          refine ms_aload_n dX11_shoot_10 rfl ?_
          refine q_getr dX11_shoot_11 fX11_56 kd_11_19 (by first | decide | exact lt_sc (by omega) | exact lt_dy (by omega) | exact lt_rw (by omega) | exact lt_wa (by omega) | exact lt_le (by omega)) (by first | rfl | rw [sh_sc (by omega)] | rw [sh_dy (by omega)]) (by first | rfl | exact rf_wa (by omega) | exact rf_le (by omega) | exact rf_rw (by omega)) ?_
          refine ms_iload_n dX11_shoot_14 rfl ?_
          refine q_iald dX11_shoot_15 (by first | decide | exact lt_sc (by omega) | exact lt_dy (by omega) | exact lt_rw (by omega) | exact lt_wa (by omega) | exact lt_le (by omega)) (by first | rfl | exact sh_rw (by omega) | exact sh_wa (by omega) | exact sh_le (by omega)) (by omega) (by decide) d9 ?_
          refine ms_aload_n dX11_shoot_16 rfl ?_
          refine q_geti dX11_shoot_17 fX11_192 (by rw [kd_11_1]; decide) (by first | decide | exact lt_sc (by omega) | exact lt_dy (by omega) | exact lt_rw (by omega) | exact lt_wa (by omega) | exact lt_le (by omega)) (by first | rfl | rw [sh_sc (by omega)] | rw [sh_dy (by omega)]) n9 ?_
          refine ms_icmp_ne (tgt := 36) dX11_shoot_20 (by decide) (fun c20 => absurd c20 (fun q => q z)) (fun c20 => ?_)
          refine ms_aload_n dX11_shoot_23 rfl ?_
          refine q_getr dX11_shoot_24 fX11_47 kd_11_16 (by first | decide | exact lt_sc (by omega) | exact lt_dy (by omega) | exact lt_rw (by omega) | exact lt_wa (by omega) | exact lt_le (by omega)) (by first | rfl | rw [sh_sc (by omega)] | rw [sh_dy (by omega)]) (by first | rfl | exact rf_wa (by omega) | exact rf_le (by omega) | exact rf_rw (by omega)) ?_
          refine ms_iload_n dX11_shoot_27 rfl ?_
          refine q_zald dX11_shoot_28 (by first | decide | exact lt_sc (by omega) | exact lt_dy (by omega) | exact lt_rw (by omega) | exact lt_wa (by omega) | exact lt_le (by omega)) (by first | rfl | exact sh_rw (by omega) | exact sh_wa (by omega) | exact sh_le (by omega)) (by omega) (by decide) s9 ?_
          refine ms_if_ne (tgt := 36) dX11_shoot_29 (by decide) (fun c29 => ?_) (fun c29 => absurd c29 (fun q => hcan ⟨z, q⟩))
          refine ms_iconst (v := nI 0) dX11_shoot_36 (by decide) ?_
          refine ms_istore dX11_shoot_37 (Nat.le_of_ble_eq_true rfl) ?_
          refine ms_aload_n dX11_shoot_39 rfl ?_
          refine ms_iload_n dX11_shoot_40 rfl ?_
          refine ms_if_ne (tgt := 48) dX11_shoot_41 (by decide) (fun c41 => ?_) (fun c41 => absurd c41 (by decide))
          refine ms_iload_n dX11_shoot_48 rfl ?_
          refine ms_iconst (v := nI 1) dX11_shoot_49 (by decide) ?_
          refine ms_sipush (v := nI 1000) dX11_shoot_50 (by decide) ?_
          refine qRS3 dX11_shoot_53 kX11_117 (d := d - 1) (by show d - 1 + 1 ≤ d; omega) rfl rfl rfl (Nat.le_of_ble_eq_true rfl) (Nat.le_of_ble_eq_true rfl) (kr_in1 hy) rfl ?_
          refine ms_if_ne (tgt := 63) dX11_shoot_56 (by decide) (fun c56 => ?_) (fun c56 => absurd c56 (by decide))
          refine ms_iload dX11_shoot_63 rfl ?_
          refine ms_if_eq (tgt := 72) dX11_shoot_65 (by decide) (fun c65 => ?_) (fun c65 => absurd c65 (by decide))
          refine ms_iconst (v := nI 3) dX11_shoot_72 (by decide) ?_
          refine qRV1 dX11_shoot_73 kX11_138 (by show _ < 178; first | decide | exact lt_sc (by omega) | exact lt_dy (by omega)) (by show (sh0 _).1 = _; first | rfl | rw [sh_sc (by omega)] | rw [sh_dy (by omega)]) (d := d - 1) (by show d - 1 + 1 ≤ d; omega) rfl (Nat.le_of_ble_eq_true rfl) (Nat.le_of_ble_eq_true rfl) (kr_gwk 2 (by decide)) rfl ?_
          refine ms_if_ne (tgt := 81) dX11_shoot_76 (by decide) (fun c76 => absurd c76 (by decide)) (fun c76 => ?_)
          refine ms_iconst (v := nI 0) dX11_shoot_79 (by decide) ?_
          refine ms_iret dX11_shoot_80 rfl rfl ⟨?_, ?_⟩
          · rfl
          · rfl
        · refine ms_aload_n dX11_shoot_0 rfl ?_
          refine ms_iload_n dX11_shoot_1 rfl ?_
          refine qRV1 dX11_shoot_2 kX11_131 (by show _ < 178; first | decide | exact lt_sc (by omega) | exact lt_dy (by omega)) (by show (sh0 _).1 = _; first | rfl | rw [sh_sc (by omega)] | rw [sh_dy (by omega)]) (d := d - 1) (by show d - 1 + 1 ≤ d; omega) rfl (Nat.le_of_ble_eq_true rfl) (Nat.le_of_ble_eq_true rfl) (hsc) rfl ?_
          refine ms_istore_n dX11_shoot_5 (Nat.le_of_ble_eq_true rfl) ?_
          refine ms_iload_n dX11_shoot_6 rfl ?_
          refine ms_if_eq (tgt := 36) dX11_shoot_7 (by decide) (fun c7 => absurd c7 (by decide)) (fun c7 => ?_)
          refine ms_aload_n dX11_shoot_10 rfl ?_
          refine q_getr dX11_shoot_11 fX11_56 kd_11_19 (by first | decide | exact lt_sc (by omega) | exact lt_dy (by omega) | exact lt_rw (by omega) | exact lt_wa (by omega) | exact lt_le (by omega)) (by first | rfl | rw [sh_sc (by omega)] | rw [sh_dy (by omega)]) (by first | rfl | exact rf_wa (by omega) | exact rf_le (by omega) | exact rf_rw (by omega)) ?_
          refine ms_iload_n dX11_shoot_14 rfl ?_
          refine q_iald dX11_shoot_15 (by first | decide | exact lt_sc (by omega) | exact lt_dy (by omega) | exact lt_rw (by omega) | exact lt_wa (by omega) | exact lt_le (by omega)) (by first | rfl | exact sh_rw (by omega) | exact sh_wa (by omega) | exact sh_le (by omega)) (by omega) (by decide) d9 ?_
          refine ms_aload_n dX11_shoot_16 rfl ?_
          refine q_geti dX11_shoot_17 fX11_192 (by rw [kd_11_1]; decide) (by first | decide | exact lt_sc (by omega) | exact lt_dy (by omega) | exact lt_rw (by omega) | exact lt_wa (by omega) | exact lt_le (by omega)) (by first | rfl | rw [sh_sc (by omega)] | rw [sh_dy (by omega)]) n9 ?_
          refine ms_icmp_ne (tgt := 36) dX11_shoot_20 (by decide) (fun c20 => ?_) (fun c20 => absurd c20 (fun q => z q))
          refine ms_iconst (v := nI 0) dX11_shoot_36 (by decide) ?_
          refine ms_istore dX11_shoot_37 (Nat.le_of_ble_eq_true rfl) ?_
          refine ms_aload_n dX11_shoot_39 rfl ?_
          refine ms_iload_n dX11_shoot_40 rfl ?_
          refine ms_if_ne (tgt := 48) dX11_shoot_41 (by decide) (fun c41 => ?_) (fun c41 => absurd c41 (by decide))
          refine ms_iload_n dX11_shoot_48 rfl ?_
          refine ms_iconst (v := nI 1) dX11_shoot_49 (by decide) ?_
          refine ms_sipush (v := nI 1000) dX11_shoot_50 (by decide) ?_
          refine qRS3 dX11_shoot_53 kX11_117 (d := d - 1) (by show d - 1 + 1 ≤ d; omega) rfl rfl rfl (Nat.le_of_ble_eq_true rfl) (Nat.le_of_ble_eq_true rfl) (kr_in1 hy) rfl ?_
          refine ms_if_ne (tgt := 63) dX11_shoot_56 (by decide) (fun c56 => ?_) (fun c56 => absurd c56 (by decide))
          refine ms_iload dX11_shoot_63 rfl ?_
          refine ms_if_eq (tgt := 72) dX11_shoot_65 (by decide) (fun c65 => ?_) (fun c65 => absurd c65 (by decide))
          refine ms_iconst (v := nI 3) dX11_shoot_72 (by decide) ?_
          refine qRV1 dX11_shoot_73 kX11_138 (by show _ < 178; first | decide | exact lt_sc (by omega) | exact lt_dy (by omega)) (by show (sh0 _).1 = _; first | rfl | rw [sh_sc (by omega)] | rw [sh_dy (by omega)]) (d := d - 1) (by show d - 1 + 1 ≤ d; omega) rfl (Nat.le_of_ble_eq_true rfl) (Nat.le_of_ble_eq_true rfl) (kr_gwk 2 (by decide)) rfl ?_
          refine ms_if_ne (tgt := 81) dX11_shoot_76 (by decide) (fun c76 => absurd c76 (by decide)) (fun c76 => ?_)
          refine ms_iconst (v := nI 0) dX11_shoot_79 (by decide) ?_
          refine ms_iret dX11_shoot_80 rfl rfl ⟨?_, ?_⟩
          · rfl
          · rfl
    · refine Okc_thr (k := 1) (E := xA) (b := some (.int (nI 0))) hI hC rfl (fun lg d hd => k_shootT2 (by omega) hM hs hy) (fun lg d hd => ?_)
      have hsc := kr_sc1 (S := S) (J := I) (lg := lg) (d := d - 1) (by omega) (hC.m.trans hM.1) hm hs
      have d9 : I 159 s = I (scI s) 15 := hC.dy hs
      have n9 : I 143 1 = I 72 4 := hC.now
      have s9 : I 156 s = I (scI s) 12 := hC.sh hs20
      have tail : ∀ q : Bool, m_W S (M_X11_shoot, d, fun w9 g => w9 = some (.int (nI 0)) ∧ g = hh (m_up2 I 143 0 (nI (1 + 1))) lg, fun _ _ => False) 37 [some (.ref 143), some (.int (nI s)), some (.int y), some (.int (bi true)), none] [.int (bi q)] (hh I lg) 0 0 := by
        intro q
        refine ms_istore dX11_shoot_37 (Nat.le_of_ble_eq_true rfl) ?_
        refine ms_aload_n dX11_shoot_39 rfl ?_
        refine ms_iload_n dX11_shoot_40 rfl ?_
        refine ms_if_ne (tgt := 48) dX11_shoot_41 (by decide) (fun c41 => ?_) (fun c41 => absurd c41 (by decide))
        refine ms_iload_n dX11_shoot_48 rfl ?_
        refine ms_iconst (v := nI 1) dX11_shoot_49 (by decide) ?_
        refine ms_sipush (v := nI 1000) dX11_shoot_50 (by decide) ?_
        refine qRS3 dX11_shoot_53 kX11_117 (d := d - 1) (by show d - 1 + 1 ≤ d; omega) rfl rfl rfl (Nat.le_of_ble_eq_true rfl) (Nat.le_of_ble_eq_true rfl) (kr_in0 hy) rfl ?_
        refine ms_if_ne (tgt := 63) dX11_shoot_56 (by decide) (fun c56 => absurd c56 (by decide)) (fun c56 => ?_)
        refine ms_iconst (v := nI 2) dX11_shoot_59 (by decide) ?_
        refine ms_goto (tgt := 73) dX11_shoot_60 (by decide) ?_
        refine qRV1 dX11_shoot_73 kX11_138 (by show _ < 178; first | decide | exact lt_sc (by omega) | exact lt_dy (by omega)) (by show (sh0 _).1 = _; first | rfl | rw [sh_sc (by omega)] | rw [sh_dy (by omega)]) (d := d - 1) (by show d - 1 + 1 ≤ d; omega) rfl (Nat.le_of_ble_eq_true rfl) (Nat.le_of_ble_eq_true rfl) (kr_gwk 1 (by decide)) rfl ?_
        refine ms_if_ne (tgt := 81) dX11_shoot_76 (by decide) (fun c76 => absurd c76 (by decide)) (fun c76 => ?_)
        refine ms_iconst (v := nI 0) dX11_shoot_79 (by decide) ?_
        refine ms_iret dX11_shoot_80 rfl rfl ⟨?_, ?_⟩
        · rfl
        · rfl
      by_cases z : I (scI s) 15 = I 72 4
      · by_cases z2 : I (scI s) 12 = 0
        · refine ms_aload_n dX11_shoot_0 rfl ?_
          refine ms_iload_n dX11_shoot_1 rfl ?_
          refine qRV1 dX11_shoot_2 kX11_131 (by show _ < 178; first | decide | exact lt_sc (by omega) | exact lt_dy (by omega)) (by show (sh0 _).1 = _; first | rfl | rw [sh_sc (by omega)] | rw [sh_dy (by omega)]) (d := d - 1) (by show d - 1 + 1 ≤ d; omega) rfl (Nat.le_of_ble_eq_true rfl) (Nat.le_of_ble_eq_true rfl) (hsc) rfl ?_
          refine ms_istore_n dX11_shoot_5 (Nat.le_of_ble_eq_true rfl) ?_
          refine ms_iload_n dX11_shoot_6 rfl ?_
          refine ms_if_eq (tgt := 36) dX11_shoot_7 (by decide) (fun c7 => absurd c7 (by decide)) (fun c7 => ?_)
          refine ms_aload_n dX11_shoot_10 rfl ?_
          refine q_getr dX11_shoot_11 fX11_56 kd_11_19 (by first | decide | exact lt_sc (by omega) | exact lt_dy (by omega) | exact lt_rw (by omega) | exact lt_wa (by omega) | exact lt_le (by omega)) (by first | rfl | rw [sh_sc (by omega)] | rw [sh_dy (by omega)]) (by first | rfl | exact rf_wa (by omega) | exact rf_le (by omega) | exact rf_rw (by omega)) ?_
          refine ms_iload_n dX11_shoot_14 rfl ?_
          refine q_iald dX11_shoot_15 (by first | decide | exact lt_sc (by omega) | exact lt_dy (by omega) | exact lt_rw (by omega) | exact lt_wa (by omega) | exact lt_le (by omega)) (by first | rfl | exact sh_rw (by omega) | exact sh_wa (by omega) | exact sh_le (by omega)) (by omega) (by decide) d9 ?_
          refine ms_aload_n dX11_shoot_16 rfl ?_
          refine q_geti dX11_shoot_17 fX11_192 (by rw [kd_11_1]; decide) (by first | decide | exact lt_sc (by omega) | exact lt_dy (by omega) | exact lt_rw (by omega) | exact lt_wa (by omega) | exact lt_le (by omega)) (by first | rfl | rw [sh_sc (by omega)] | rw [sh_dy (by omega)]) n9 ?_
          refine ms_icmp_ne (tgt := 36) dX11_shoot_20 (by decide) (fun c20 => absurd c20 (fun q => q z)) (fun c20 => ?_)
          refine ms_aload_n dX11_shoot_23 rfl ?_
          refine q_getr dX11_shoot_24 fX11_47 kd_11_16 (by first | decide | exact lt_sc (by omega) | exact lt_dy (by omega) | exact lt_rw (by omega) | exact lt_wa (by omega) | exact lt_le (by omega)) (by first | rfl | rw [sh_sc (by omega)] | rw [sh_dy (by omega)]) (by first | rfl | exact rf_wa (by omega) | exact rf_le (by omega) | exact rf_rw (by omega)) ?_
          refine ms_iload_n dX11_shoot_27 rfl ?_
          refine q_zald dX11_shoot_28 (by first | decide | exact lt_sc (by omega) | exact lt_dy (by omega) | exact lt_rw (by omega) | exact lt_wa (by omega) | exact lt_le (by omega)) (by first | rfl | exact sh_rw (by omega) | exact sh_wa (by omega) | exact sh_le (by omega)) (by omega) (by decide) s9 ?_
          refine ms_if_ne (tgt := 36) dX11_shoot_29 (by decide) (fun c29 => absurd c29 (fun q => q z2)) (fun c29 => ?_)
          refine ms_iconst (v := nI 1) dX11_shoot_32 (by decide) ?_
          refine ms_goto (tgt := 37) dX11_shoot_33 (by decide) ?_
          exact tail true
        · refine ms_aload_n dX11_shoot_0 rfl ?_
          refine ms_iload_n dX11_shoot_1 rfl ?_
          refine qRV1 dX11_shoot_2 kX11_131 (by show _ < 178; first | decide | exact lt_sc (by omega) | exact lt_dy (by omega)) (by show (sh0 _).1 = _; first | rfl | rw [sh_sc (by omega)] | rw [sh_dy (by omega)]) (d := d - 1) (by show d - 1 + 1 ≤ d; omega) rfl (Nat.le_of_ble_eq_true rfl) (Nat.le_of_ble_eq_true rfl) (hsc) rfl ?_
          refine ms_istore_n dX11_shoot_5 (Nat.le_of_ble_eq_true rfl) ?_
          refine ms_iload_n dX11_shoot_6 rfl ?_
          refine ms_if_eq (tgt := 36) dX11_shoot_7 (by decide) (fun c7 => absurd c7 (by decide)) (fun c7 => ?_)
          refine ms_aload_n dX11_shoot_10 rfl ?_
          refine q_getr dX11_shoot_11 fX11_56 kd_11_19 (by first | decide | exact lt_sc (by omega) | exact lt_dy (by omega) | exact lt_rw (by omega) | exact lt_wa (by omega) | exact lt_le (by omega)) (by first | rfl | rw [sh_sc (by omega)] | rw [sh_dy (by omega)]) (by first | rfl | exact rf_wa (by omega) | exact rf_le (by omega) | exact rf_rw (by omega)) ?_
          refine ms_iload_n dX11_shoot_14 rfl ?_
          refine q_iald dX11_shoot_15 (by first | decide | exact lt_sc (by omega) | exact lt_dy (by omega) | exact lt_rw (by omega) | exact lt_wa (by omega) | exact lt_le (by omega)) (by first | rfl | exact sh_rw (by omega) | exact sh_wa (by omega) | exact sh_le (by omega)) (by omega) (by decide) d9 ?_
          refine ms_aload_n dX11_shoot_16 rfl ?_
          refine q_geti dX11_shoot_17 fX11_192 (by rw [kd_11_1]; decide) (by first | decide | exact lt_sc (by omega) | exact lt_dy (by omega) | exact lt_rw (by omega) | exact lt_wa (by omega) | exact lt_le (by omega)) (by first | rfl | rw [sh_sc (by omega)] | rw [sh_dy (by omega)]) n9 ?_
          refine ms_icmp_ne (tgt := 36) dX11_shoot_20 (by decide) (fun c20 => absurd c20 (fun q => q z)) (fun c20 => ?_)
          refine ms_aload_n dX11_shoot_23 rfl ?_
          refine q_getr dX11_shoot_24 fX11_47 kd_11_16 (by first | decide | exact lt_sc (by omega) | exact lt_dy (by omega) | exact lt_rw (by omega) | exact lt_wa (by omega) | exact lt_le (by omega)) (by first | rfl | rw [sh_sc (by omega)] | rw [sh_dy (by omega)]) (by first | rfl | exact rf_wa (by omega) | exact rf_le (by omega) | exact rf_rw (by omega)) ?_
          refine ms_iload_n dX11_shoot_27 rfl ?_
          refine q_zald dX11_shoot_28 (by first | decide | exact lt_sc (by omega) | exact lt_dy (by omega) | exact lt_rw (by omega) | exact lt_wa (by omega) | exact lt_le (by omega)) (by first | rfl | exact sh_rw (by omega) | exact sh_wa (by omega) | exact sh_le (by omega)) (by omega) (by decide) s9 ?_
          refine ms_if_ne (tgt := 36) dX11_shoot_29 (by decide) (fun c29 => ?_) (fun c29 => absurd c29 (fun q => z2 q))
          refine ms_iconst (v := nI 0) dX11_shoot_36 (by decide) ?_
          exact tail false
      · refine ms_aload_n dX11_shoot_0 rfl ?_
        refine ms_iload_n dX11_shoot_1 rfl ?_
        refine qRV1 dX11_shoot_2 kX11_131 (by show _ < 178; first | decide | exact lt_sc (by omega) | exact lt_dy (by omega)) (by show (sh0 _).1 = _; first | rfl | rw [sh_sc (by omega)] | rw [sh_dy (by omega)]) (d := d - 1) (by show d - 1 + 1 ≤ d; omega) rfl (Nat.le_of_ble_eq_true rfl) (Nat.le_of_ble_eq_true rfl) (hsc) rfl ?_
        refine ms_istore_n dX11_shoot_5 (Nat.le_of_ble_eq_true rfl) ?_
        refine ms_iload_n dX11_shoot_6 rfl ?_
        refine ms_if_eq (tgt := 36) dX11_shoot_7 (by decide) (fun c7 => absurd c7 (by decide)) (fun c7 => ?_)
        refine ms_aload_n dX11_shoot_10 rfl ?_
        refine q_getr dX11_shoot_11 fX11_56 kd_11_19 (by first | decide | exact lt_sc (by omega) | exact lt_dy (by omega) | exact lt_rw (by omega) | exact lt_wa (by omega) | exact lt_le (by omega)) (by first | rfl | rw [sh_sc (by omega)] | rw [sh_dy (by omega)]) (by first | rfl | exact rf_wa (by omega) | exact rf_le (by omega) | exact rf_rw (by omega)) ?_
        refine ms_iload_n dX11_shoot_14 rfl ?_
        refine q_iald dX11_shoot_15 (by first | decide | exact lt_sc (by omega) | exact lt_dy (by omega) | exact lt_rw (by omega) | exact lt_wa (by omega) | exact lt_le (by omega)) (by first | rfl | exact sh_rw (by omega) | exact sh_wa (by omega) | exact sh_le (by omega)) (by omega) (by decide) d9 ?_
        refine ms_aload_n dX11_shoot_16 rfl ?_
        refine q_geti dX11_shoot_17 fX11_192 (by rw [kd_11_1]; decide) (by first | decide | exact lt_sc (by omega) | exact lt_dy (by omega) | exact lt_rw (by omega) | exact lt_wa (by omega) | exact lt_le (by omega)) (by first | rfl | rw [sh_sc (by omega)] | rw [sh_dy (by omega)]) n9 ?_
        refine ms_icmp_ne (tgt := 36) dX11_shoot_20 (by decide) (fun c20 => ?_) (fun c20 => absurd c20 (fun q => z q))
        refine ms_iconst (v := nI 0) dX11_shoot_36 (by decide) ?_
        exact tail false
  · refine Okc_thr (k := 0) (E := xI) (b := some (.int (nI 0))) hI hC rfl (fun lg d hd => k_shootT1 (by omega) hM hx) (fun lg d hd => ?_)
    have hsc := kr_sc0 (S := S) (J := I) (lg := lg) (d := d - 1) (by omega) (hC.m.trans hM.1) hm hx
    refine ms_aload_n dX11_shoot_0 rfl ?_
    refine ms_iload_n dX11_shoot_1 rfl ?_
    refine qRV1 dX11_shoot_2 kX11_131 (by show _ < 178; first | decide | exact lt_sc (by omega) | exact lt_dy (by omega)) (by show (sh0 _).1 = _; first | rfl | rw [sh_sc (by omega)] | rw [sh_dy (by omega)]) (d := d - 1) (by show d - 1 + 1 ≤ d; omega) rfl (Nat.le_of_ble_eq_true rfl) (Nat.le_of_ble_eq_true rfl) (hsc) rfl ?_
    refine ms_istore_n dX11_shoot_5 (Nat.le_of_ble_eq_true rfl) ?_
    refine ms_iload_n dX11_shoot_6 rfl ?_
    refine ms_if_eq (tgt := 36) dX11_shoot_7 (by decide) (fun c7 => ?_) (fun c7 => absurd c7 (by decide))
    refine ms_iconst (v := nI 0) dX11_shoot_36 (by decide) ?_
    refine ms_istore dX11_shoot_37 (Nat.le_of_ble_eq_true rfl) ?_
    refine ms_aload_n dX11_shoot_39 rfl ?_
    refine ms_iload_n dX11_shoot_40 rfl ?_
    refine ms_if_ne (tgt := 48) dX11_shoot_41 (by decide) (fun c41 => absurd c41 (by decide)) (fun c41 => ?_)
    refine ms_iconst (v := nI 1) dX11_shoot_44 (by decide) ?_
    refine ms_goto (tgt := 73) dX11_shoot_45 (by decide) ?_
    refine qRV1 dX11_shoot_73 kX11_138 (by show _ < 178; first | decide | exact lt_sc (by omega) | exact lt_dy (by omega)) (by show (sh0 _).1 = _; first | rfl | rw [sh_sc (by omega)] | rw [sh_dy (by omega)]) (d := d - 1) (by show d - 1 + 1 ≤ d; omega) rfl (Nat.le_of_ble_eq_true rfl) (Nat.le_of_ble_eq_true rfl) (kr_gwk 0 (by decide)) rfl ?_
    refine ms_if_ne (tgt := 81) dX11_shoot_76 (by decide) (fun c76 => absurd c76 (by decide)) (fun c76 => ?_)
    refine ms_iconst (v := nI 0) dX11_shoot_79 (by decide) ?_
    refine ms_iret dX11_shoot_80 rfl rfl ⟨?_, ?_⟩
    · rfl
    · rfl

