-- NAME calls6
/-! calls: take, put -/
theorem Iv_toI {c c2 : Nat} {I : m_I} {s t a : Nat} (h : Iv c I) (hc : c ≤ c2) (ht : t < 30) (ha : a < vn I t) (hs : vw I t a = s) : Iv c2 (toI I s t a (vn I t)) := by
  have hV := h.1
  have hm := hV.1
  have hs1 : s < vm I := by rw [← hs]; exact (hV.2.2.1 t a ht ha).1
  have e1 : vm (toI I s t a (vn I t)) = vm I := congrArg vN (toI_ne (by unfold rwI; omega) (by unfold dyI; omega) (by unfold scI; omega))
  refine Iv_board h hc (Vw_take hV ht ha hs) (fun u hu q => ?_) (fun u hu hu2 => ?_) (fun x y z1 z2 z3 => toI_ne (by unfold rwI; omega) (by unfold dyI; omega) (by unfold scI; omega))
  · rw [e1] at hu
    by_cases z : u = s
    · rw [z]
      exact toI_dy
    · rw [toI_ne (by unfold scI rwI; omega) (by unfold scI dyI; omega) (by unfold scI; omega)] at q
      rw [toI_ne (by unfold scI rwI; omega) (by unfold scI dyI; omega) (by unfold scI; omega)]
      exact h.2.2.2.2.2.2.2.2.1 u hu q
  · rw [toI_ne (by unfold scI rwI; omega) (by unfold scI dyI; omega) (by unfold scI; omega)]
    exact (h.2.2.2.2.2.2.1 u hu hu2).2.1
theorem Iv_puI {c c2 : Nat} {I : m_I} {s t a : Nat} (h : Iv c I) (hc : c ≤ c2) (hs : s < vm I) (ht : t < 30) (hn : vn I t < 8) (ha : a ≤ vn I t) (hd : I (scI s) 15 = -1) (hom : I (scI s) 11 = 0) : Iv c2 (puI I s t a (vn I t)) := by
  have hV := h.1
  have hm := hV.1
  have e1 : vm (puI I s t a (vn I t)) = vm I := congrArg vN (puI_ne (by unfold rwI; omega) (by unfold dyI; omega) (by unfold scI; omega))
  refine Iv_board h hc (Vw_put hV hs ht hn ha hd) (fun u hu q => ?_) (fun u hu hu2 => ?_) (fun x y z1 z2 z3 => puI_ne (by unfold rwI; omega) (by unfold dyI; omega) (by unfold scI; omega))
  · rw [e1] at hu
    have e11 : puI I s t a (vn I t) (scI u) 11 = I (scI u) 11 := puI_ne (by unfold scI rwI; omega) (by unfold scI dyI; omega) (by unfold scI; omega)
    rw [e11] at q
    by_cases z : u = s
    · rw [z] at q
      exact absurd hom q
    · rw [puI_ne (by unfold scI rwI; omega) (by unfold scI dyI; omega) (by unfold scI; omega)]
      exact h.2.2.2.2.2.2.2.2.1 u hu q
  · rw [puI_ne (by unfold scI rwI; omega) (by unfold scI dyI; omega) (by unfold scI; omega)]
    exact (h.2.2.2.2.2.2.1 u hu hu2).2.1
theorem fH_to {I : m_I} {s t j n : Nat} (hs : s < 20) (ht : t < 30) : ∀ a b, 143 ≤ a → toI I s t j n a b = I a b := fun a b h => toI_ne (by unfold rwI; omega) (by unfold dyI; omega) (by unfold scI; omega)
theorem fH_pu {I : m_I} {s t j n : Nat} (hs : s < 20) (ht : t < 30) : ∀ a b, 143 ≤ a → puI I s t j n a b = I a b := fun a b h => puI_ne (by unfold rwI; omega) (by unfold dyI; omega) (by unfold scI; omega)
/-- the reference takes off what stands on the board -/
theorem kr_offV {S : m_S} {I J : m_I} {lg : Int64} {d t a s : Nat} (hd : 2 ≤ d) (h : Cr I J) (hV : Vw I) (ht : t < 30) (ha : a < vn I t) (hs : vw I t a = s) : m_R S M_X11_off d [.ref 143, .int (nI s)] (hh J lg) none (hh (ofR J s t a (vn I t)) lg) := by
  have hd9 := (hV.2.2.1 t a ht ha)
  rw [hs] at hd9
  exact kr_off hd (h.dr hV ht) ha hs (fun j hj e => by have := hV.2.2.2.1 t j a ht (by omega) ha e; omega) ((h.dy hd9.1).trans hd9.2)
theorem fQ_of {J : m_I} {s t a n : Nat} : fQ J (ofR J s t a n) := fQ_R fR_of
theorem ofR_thr {J : m_I} {s t a n : Nat} : ofR J s t a n 143 0 = J 143 0 := fR_of _ _ (Or.inr (Or.inl ⟨rfl, rfl⟩))
theorem o_take {S : m_S} {c : Nat} {I : m_I} (x : Int32) (hI : Iv c I) (hC : Cr I I) : Okc S c I M_X10_take M_X11_take [.ref 0, .int x] [.ref 143, .int x] [xI, xS] := by
  have hV := hI.1
  have hm := hV.1
  have hM := Iv_Md hI
  rcases ix_or x (n := vm I) (by omega) with ⟨s, hs, rfl⟩ | hx
  · have hs20 : s < 20 := by omega
    rcases hV.2.2.2.2.1 s hs with hdy | ⟨t, a, ht, ha, he⟩
    · have h1 : stC I s ≠ 1 := by
        unfold stC stN
        rw [hdy]
        repeat' split
        all_goals first | decide | (next z => exact absurd rfl z)
      refine Okc_thr (k := 1) (E := xS) (b := some (.int (nI 0))) hI hC rfl (fun lg d hd => k_takeT2 (by omega) hM hs h1) (fun lg d hd => ?_)
      have hsc := kr_sc1 (S := S) (J := I) (lg := lg) (d := d - 1) (by omega) (hC.m.trans hM.1) hm hs
      have hd9 : I 159 s = -1 := (hC.dy hs).trans hdy
      refine ms_aload_n dX11_take_0 rfl ?_
      refine ms_iload_n dX11_take_1 rfl ?_
      refine qRV1 dX11_take_2 kX11_131 (by show _ < 178; first | decide | exact lt_sc (by omega) | exact lt_dy (by omega)) (by show (sh0 _).1 = _; first | rfl | rw [sh_sc (by omega)] | rw [sh_dy (by omega)]) (d := d - 1) (by show d - 1 + 1 ≤ d; omega) rfl (Nat.le_of_ble_eq_true rfl) (Nat.le_of_ble_eq_true rfl) (hsc) rfl ?_
      refine ms_istore_n dX11_take_5 (Nat.le_of_ble_eq_true rfl) ?_
      refine ms_aload_n dX11_take_6 rfl ?_
      refine ms_iload_n dX11_take_7 rfl ?_
      refine ms_if_ne (tgt := 15) dX11_take_8 (by decide) (fun c8 => ?_) (fun c8 => absurd c8 (by decide))
      refine ms_aload_n dX11_take_15 rfl ?_
      refine q_getr dX11_take_16 fX11_56 kd_11_19 (by first | decide | exact lt_sc (by omega) | exact lt_dy (by omega) | exact lt_rw (by omega) | exact lt_wa (by omega) | exact lt_le (by omega)) (by first | rfl | rw [sh_sc (by omega)] | rw [sh_dy (by omega)]) (by first | rfl | exact rf_wa (by omega) | exact rf_le (by omega) | exact rf_rw (by omega)) ?_
      refine ms_iload_n dX11_take_19 rfl ?_
      refine q_iald dX11_take_20 (by first | decide | exact lt_sc (by omega) | exact lt_dy (by omega) | exact lt_rw (by omega) | exact lt_wa (by omega) | exact lt_le (by omega)) (by first | rfl | exact sh_rw (by omega) | exact sh_wa (by omega) | exact sh_le (by omega)) (by omega) (by decide) hd9 ?_
      refine ms_iconst (v := -1) dX11_take_21 (by decide) ?_
      refine ms_icmp_eq (tgt := 34) dX11_take_22 (by decide) (fun c22 => ?_) (fun c22 => absurd c22 (fun q => q rfl))
      refine ms_iconst (v := nI 2) dX11_take_34 (by decide) ?_
      refine ms_goto (tgt := 39) dX11_take_35 (by decide) ?_
      refine qRV1 dX11_take_39 kX11_138 (by show _ < 178; first | decide | exact lt_sc (by omega) | exact lt_dy (by omega)) (by show (sh0 _).1 = _; first | rfl | rw [sh_sc (by omega)] | rw [sh_dy (by omega)]) (d := d - 1) (by show d - 1 + 1 ≤ d; omega) rfl (Nat.le_of_ble_eq_true rfl) (Nat.le_of_ble_eq_true rfl) (kr_gwk 1 (by decide)) rfl ?_
      refine ms_if_ne (tgt := 47) dX11_take_42 (by decide) (fun c42 => absurd c42 (by decide)) (fun c42 => ?_)
      refine ms_iconst (v := nI 0) dX11_take_45 (by decide) ?_
      refine ms_iret dX11_take_46 rfl rfl ⟨?_, ?_⟩
      · rfl
      · rfl
    · have hdy := (hV.2.2.1 t a ht ha).2
      rw [he] at hdy
      have hdn : ¬ I (scI s) 15 = -1 := fun z => by
        have h0 := nI_pos (n := t) (by omega)
        rw [← hdy, z] at h0
        exact absurd (by decide) h0
      have hnt : ¬ nI t = -1 := fun z => hdn (hdy.trans z)
      have hom : I (scI s) 11 = 0 := Decidable.byContradiction (fun z => hdn (hI.2.2.2.2.2.2.2.2.1 s hs z))
      by_cases hsh : I (scI s) 12 = 0
      · have h1 : stC I s = 1 := by
          unfold stC stN
          rw [if_neg (fun z => z hom), if_neg (fun z => z hsh), if_pos hdn]
        have hcl : ∀ lg d, 9 ≤ d → m_R S M_X10_take d [.ref 0, .int (nI s)] (hh I lg) (some (.int (nI t))) (hh (toI I s t a (vn I t)) lg) := fun lg d hd => by
          rw [← hdy]
          exact k_take (by omega) hM hs h1 (fun d hd => k_takeV hd hV ht ha he)
        refine Okc_go _ hm hC hcl (fH_to hs20 ht) (Iv_toI hI (by omega) ht ha he) (fun J J' hJ hC' hgw hne hz => ?_)
        refine ⟨_, fun lg d hd => ?_, Cr_take hm hC' ht (hV.2.1 t ht) hs, fQ_of, ofR_thr⟩
        have hsc := kr_sc1 (S := S) (J := J) (lg := lg) (d := d - 1) (by omega) (hJ.m.trans hM.1) hm hs
        have hd9 : J 159 s = nI t := (hJ.dy hs).trans hdy
        have hd8 : J' 159 s = nI t := (hC'.dy hs).trans hdy
        have hs9 : J 156 s = 0 := (hJ.sh hs20).trans hsh
        have hof := kr_offV (S := S) (lg := lg) (d := d - 1) (by omega) hC' hV ht ha he
        refine ms_aload_n dX11_take_0 rfl ?_
        refine ms_iload_n dX11_take_1 rfl ?_
        refine qRV1 dX11_take_2 kX11_131 (by show _ < 178; first | decide | exact lt_sc (by omega) | exact lt_dy (by omega)) (by show (sh0 _).1 = _; first | rfl | rw [sh_sc (by omega)] | rw [sh_dy (by omega)]) (d := d - 1) (by show d - 1 + 1 ≤ d; omega) rfl (Nat.le_of_ble_eq_true rfl) (Nat.le_of_ble_eq_true rfl) (hsc) rfl ?_
        refine ms_istore_n dX11_take_5 (Nat.le_of_ble_eq_true rfl) ?_
        refine ms_aload_n dX11_take_6 rfl ?_
        refine ms_iload_n dX11_take_7 rfl ?_
        refine ms_if_ne (tgt := 15) dX11_take_8 (by decide) (fun c8 => ?_) (fun c8 => absurd c8 (by decide))
        refine ms_aload_n dX11_take_15 rfl ?_
        refine q_getr dX11_take_16 fX11_56 kd_11_19 (by first | decide | exact lt_sc (by omega) | exact lt_dy (by omega) | exact lt_rw (by omega) | exact lt_wa (by omega) | exact lt_le (by omega)) (by first | rfl | rw [sh_sc (by omega)] | rw [sh_dy (by omega)]) (by first | rfl | exact rf_wa (by omega) | exact rf_le (by omega) | exact rf_rw (by omega)) ?_
        refine ms_iload_n dX11_take_19 rfl ?_
        refine q_iald dX11_take_20 (by first | decide | exact lt_sc (by omega) | exact lt_dy (by omega) | exact lt_rw (by omega) | exact lt_wa (by omega) | exact lt_le (by omega)) (by first | rfl | exact sh_rw (by omega) | exact sh_wa (by omega) | exact sh_le (by omega)) (by omega) (by decide) hd9 ?_
        refine ms_iconst (v := -1) dX11_take_21 (by decide) ?_
        refine ms_icmp_eq (tgt := 34) dX11_take_22 (by decide) (fun c22 => absurd c22 (fun q => hnt q)) (fun c22 => ?_)
        refine ms_aload_n dX11_take_25 rfl ?_
        refine q_getr dX11_take_26 fX11_47 kd_11_16 (by first | decide | exact lt_sc (by omega) | exact lt_dy (by omega) | exact lt_rw (by omega) | exact lt_wa (by omega) | exact lt_le (by omega)) (by first | rfl | rw [sh_sc (by omega)] | rw [sh_dy (by omega)]) (by first | rfl | exact rf_wa (by omega) | exact rf_le (by omega) | exact rf_rw (by omega)) ?_
        refine ms_iload_n dX11_take_29 rfl ?_
        refine q_zald dX11_take_30 (by first | decide | exact lt_sc (by omega) | exact lt_dy (by omega) | exact lt_rw (by omega) | exact lt_wa (by omega) | exact lt_le (by omega)) (by first | rfl | exact sh_rw (by omega) | exact sh_wa (by omega) | exact sh_le (by omega)) (by omega) (by decide) hs9 ?_
        refine ms_if_eq (tgt := 38) dX11_take_31 (by decide) (fun c31 => ?_) (fun c31 => absurd c31 (fun q => q rfl))
        refine ms_iconst (v := nI 0) dX11_take_38 (by decide) ?_
        refine qRV1 dX11_take_39 kX11_138 (by show _ < 178; first | decide | exact lt_sc (by omega) | exact lt_dy (by omega)) (by show (sh0 _).1 = _; first | rfl | rw [sh_sc (by omega)] | rw [sh_dy (by omega)]) (d := d - 1) (by show d - 1 + 1 ≤ d; omega) rfl (Nat.le_of_ble_eq_true rfl) (Nat.le_of_ble_eq_true rfl) (hgw _ _) rfl ?_
        refine ms_if_ne (tgt := 47) dX11_take_42 (by decide) (fun c42 => ?_) (fun c42 => absurd c42 (by decide))
        refine ms_aload_n dX11_take_47 rfl ?_
        refine q_getr dX11_take_48 fX11_56 kd_11_19 (by first | decide | exact lt_sc (by omega) | exact lt_dy (by omega) | exact lt_rw (by omega) | exact lt_wa (by omega) | exact lt_le (by omega)) (by first | rfl | rw [sh_sc (by omega)] | rw [sh_dy (by omega)]) (by first | rfl | exact rf_wa (by omega) | exact rf_le (by omega) | exact rf_rw (by omega)) ?_
        refine ms_iload_n dX11_take_51 rfl ?_
        refine q_iald dX11_take_52 (by first | decide | exact lt_sc (by omega) | exact lt_dy (by omega) | exact lt_rw (by omega) | exact lt_wa (by omega) | exact lt_le (by omega)) (by first | rfl | exact sh_rw (by omega) | exact sh_wa (by omega) | exact sh_le (by omega)) (by omega) (by decide) hd8 ?_
        refine ms_istore_n dX11_take_53 (Nat.le_of_ble_eq_true rfl) ?_
        refine ms_aload_n dX11_take_54 rfl ?_
        refine ms_iload_n dX11_take_55 rfl ?_
        refine qRV1 dX11_take_56 kX11_148 (by show _ < 178; first | decide | exact lt_sc (by omega) | exact lt_dy (by omega)) (by show (sh0 _).1 = _; first | rfl | rw [sh_sc (by omega)] | rw [sh_dy (by omega)]) (d := d - 1) (by show d - 1 + 1 ≤ d; omega) rfl (Nat.le_of_ble_eq_true rfl) (Nat.le_of_ble_eq_true rfl) (hof) rfl ?_
        refine ms_iload_n dX11_take_59 rfl ?_
        refine ms_iret dX11_take_60 rfl rfl ⟨?_, ?_⟩
        · rfl
        · rfl
      · have h1 : stC I s ≠ 1 := by
          unfold stC stN
          rw [if_neg (fun z => z hom), if_pos hsh]
          decide
        refine Okc_thr (k := 1) (E := xS) (b := some (.int (nI 0))) hI hC rfl (fun lg d hd => k_takeT2 (by omega) hM hs h1) (fun lg d hd => ?_)
        have hsc := kr_sc1 (S := S) (J := I) (lg := lg) (d := d - 1) (by omega) (hC.m.trans hM.1) hm hs
        have hd9 : I 159 s = nI t := (hC.dy hs).trans hdy
        have hs9 : I 156 s = I (scI s) 12 := hC.sh hs20
        refine ms_aload_n dX11_take_0 rfl ?_
        refine ms_iload_n dX11_take_1 rfl ?_
        refine qRV1 dX11_take_2 kX11_131 (by show _ < 178; first | decide | exact lt_sc (by omega) | exact lt_dy (by omega)) (by show (sh0 _).1 = _; first | rfl | rw [sh_sc (by omega)] | rw [sh_dy (by omega)]) (d := d - 1) (by show d - 1 + 1 ≤ d; omega) rfl (Nat.le_of_ble_eq_true rfl) (Nat.le_of_ble_eq_true rfl) (hsc) rfl ?_
        refine ms_istore_n dX11_take_5 (Nat.le_of_ble_eq_true rfl) ?_
        refine ms_aload_n dX11_take_6 rfl ?_
        refine ms_iload_n dX11_take_7 rfl ?_
        refine ms_if_ne (tgt := 15) dX11_take_8 (by decide) (fun c8 => ?_) (fun c8 => absurd c8 (by decide))
        refine ms_aload_n dX11_take_15 rfl ?_
        refine q_getr dX11_take_16 fX11_56 kd_11_19 (by first | decide | exact lt_sc (by omega) | exact lt_dy (by omega) | exact lt_rw (by omega) | exact lt_wa (by omega) | exact lt_le (by omega)) (by first | rfl | rw [sh_sc (by omega)] | rw [sh_dy (by omega)]) (by first | rfl | exact rf_wa (by omega) | exact rf_le (by omega) | exact rf_rw (by omega)) ?_
        refine ms_iload_n dX11_take_19 rfl ?_
        refine q_iald dX11_take_20 (by first | decide | exact lt_sc (by omega) | exact lt_dy (by omega) | exact lt_rw (by omega) | exact lt_wa (by omega) | exact lt_le (by omega)) (by first | rfl | exact sh_rw (by omega) | exact sh_wa (by omega) | exact sh_le (by omega)) (by omega) (by decide) hd9 ?_
        refine ms_iconst (v := -1) dX11_take_21 (by decide) ?_
        refine ms_icmp_eq (tgt := 34) dX11_take_22 (by decide) (fun c22 => absurd c22 (fun q => hnt q)) (fun c22 => ?_)
        refine ms_aload_n dX11_take_25 rfl ?_
        refine q_getr dX11_take_26 fX11_47 kd_11_16 (by first | decide | exact lt_sc (by omega) | exact lt_dy (by omega) | exact lt_rw (by omega) | exact lt_wa (by omega) | exact lt_le (by omega)) (by first | rfl | rw [sh_sc (by omega)] | rw [sh_dy (by omega)]) (by first | rfl | exact rf_wa (by omega) | exact rf_le (by omega) | exact rf_rw (by omega)) ?_
        refine ms_iload_n dX11_take_29 rfl ?_
        refine q_zald dX11_take_30 (by first | decide | exact lt_sc (by omega) | exact lt_dy (by omega) | exact lt_rw (by omega) | exact lt_wa (by omega) | exact lt_le (by omega)) (by first | rfl | exact sh_rw (by omega) | exact sh_wa (by omega) | exact sh_le (by omega)) (by omega) (by decide) hs9 ?_
        refine ms_if_eq (tgt := 38) dX11_take_31 (by decide) (fun c31 => absurd c31 (fun q => hsh q)) (fun c31 => ?_)
        refine ms_iconst (v := nI 2) dX11_take_34 (by decide) ?_
        refine ms_goto (tgt := 39) dX11_take_35 (by decide) ?_
        refine qRV1 dX11_take_39 kX11_138 (by show _ < 178; first | decide | exact lt_sc (by omega) | exact lt_dy (by omega)) (by show (sh0 _).1 = _; first | rfl | rw [sh_sc (by omega)] | rw [sh_dy (by omega)]) (d := d - 1) (by show d - 1 + 1 ≤ d; omega) rfl (Nat.le_of_ble_eq_true rfl) (Nat.le_of_ble_eq_true rfl) (kr_gwk 1 (by decide)) rfl ?_
        refine ms_if_ne (tgt := 47) dX11_take_42 (by decide) (fun c42 => absurd c42 (by decide)) (fun c42 => ?_)
        refine ms_iconst (v := nI 0) dX11_take_45 (by decide) ?_
        refine ms_iret dX11_take_46 rfl rfl ⟨?_, ?_⟩
        · rfl
        · rfl
  · refine Okc_thr (k := 0) (E := xI) (b := some (.int (nI 0))) hI hC rfl (fun lg d hd => k_takeT1 (by omega) hM hx) (fun lg d hd => ?_)
    have hsc := kr_sc0 (S := S) (J := I) (lg := lg) (d := d - 1) (by omega) (hC.m.trans hM.1) hm hx
    refine ms_aload_n dX11_take_0 rfl ?_
    refine ms_iload_n dX11_take_1 rfl ?_
    refine qRV1 dX11_take_2 kX11_131 (by show _ < 178; first | decide | exact lt_sc (by omega) | exact lt_dy (by omega)) (by show (sh0 _).1 = _; first | rfl | rw [sh_sc (by omega)] | rw [sh_dy (by omega)]) (d := d - 1) (by show d - 1 + 1 ≤ d; omega) rfl (Nat.le_of_ble_eq_true rfl) (Nat.le_of_ble_eq_true rfl) (hsc) rfl ?_
    refine ms_istore_n dX11_take_5 (Nat.le_of_ble_eq_true rfl) ?_
    refine ms_aload_n dX11_take_6 rfl ?_
    refine ms_iload_n dX11_take_7 rfl ?_
    refine ms_if_ne (tgt := 15) dX11_take_8 (by decide) (fun c8 => absurd c8 (by decide)) (fun c8 => ?_)
    refine ms_iconst (v := nI 1) dX11_take_11 (by decide) ?_
    refine ms_goto (tgt := 39) dX11_take_12 (by decide) ?_
    refine qRV1 dX11_take_39 kX11_138 (by show _ < 178; first | decide | exact lt_sc (by omega) | exact lt_dy (by omega)) (by show (sh0 _).1 = _; first | rfl | rw [sh_sc (by omega)] | rw [sh_dy (by omega)]) (d := d - 1) (by show d - 1 + 1 ≤ d; omega) rfl (Nat.le_of_ble_eq_true rfl) (Nat.le_of_ble_eq_true rfl) (kr_gwk 0 (by decide)) rfl ?_
    refine ms_if_ne (tgt := 47) dX11_take_42 (by decide) (fun c42 => absurd c42 (by decide)) (fun c42 => ?_)
    refine ms_iconst (v := nI 0) dX11_take_45 (by decide) ?_
    refine ms_iret dX11_take_46 rfl rfl ⟨?_, ?_⟩
    · rfl
    · rfl
theorem o_put {S : m_S} {c : Nat} {I : m_I} (x y z : Int32) (hc : c < 512) (hI : Iv c I) (hC : Cr I I) : Okc S c I M_X10_put M_X11_put [.ref 0, .int x, .int y, .int z] [.ref 143, .int x, .int y, .int z] [xI, xS] := by
  have hV := hI.1
  have hm := hV.1
  have hM := Iv_Md hI
  have hP := Iv_Pn hI
  have hS := Iv_St hI (by omega)
  rcases ix_or x (n := vm I) (by omega) with ⟨s, hs, rfl⟩ | hx
  · have hs20 : s < 20 := by omega
    rcases ix_or y (n := 30) (by omega) with ⟨t, ht, rfl⟩ | hy
    · have hn8 := hV.2.1 t ht
      have hnI : I (dyI t) 6 = nI (vn I t) := (nI_vN _).symm
      have en : nI (vn I t + 1) - nI 1 = nI (vn I t) := pk_sub (by omega)
      rcases ix_or z (n := vn I t + 1) (by omega) with ⟨a, ha, rfl⟩ | hz
      · have hnow : I 72 4 = nI (vt I) := (nI_vN _).symm
        have hn30 := hI.2.1.2.2
        have hin : ∀ (J : m_I) (lg : Int64) (d : Nat), m_R S M_X11_in d [.int (nI a), .int (nI 0), .int (nI (vn I t))] (hh J lg) (some (.int (bi true))) (hh J lg) := fun J lg d => kr_in1 ⟨(nI_leI (by omega) (by omega)).mpr (by omega), (nI_leI (by omega) (by omega)).mpr (by omega)⟩
        by_cases hcan : loC I s = true ∧ vt I ≤ t ∧ vn I t < 8
        · obtain ⟨hlo, hnt, hn⟩ := hcan
          obtain ⟨l1, l2, l3⟩ := of_decide_eq_true hlo
          have hV2 : Vw (puI I s t a (vn I t)) := Vw_put hV hs ht hn (by omega) l3
          have hIv2 : Iv (c + 1) (puI I s t a (vn I t)) := Iv_puI hI (by omega) hs ht hn (by omega) l3 l1
          obtain ⟨K, hK⟩ : ∃ K, K = puI I s t a (vn I t) := ⟨_, rfl⟩
          have hKne : ∀ p q, p ≠ rwI t → ¬ (p = dyI t ∧ q = 6) → ¬ (p = scI s ∧ q = 15) → K p q = I p q := fun p q h1 h2 h3 => by rw [hK]; exact puI_ne h1 h2 h3
          have hKn : vn K t = vn I t + 1 := by
            rw [hK]
            exact (congrArg vN (puI_n hs20)).trans (vN_nI (by omega))
          have hKw : vw K t a = s := by
            rw [hK]
            exact (congrArg vN ((puI_r hs20).trans (if_pos rfl))).trans (vN_nI (by omega))
          rw [← hK] at hV2 hIv2
          have hPK : Pn K (vpn I) := ⟨(hKne _ _ (by unfold rwI; omega) (by unfold dyI; omega) (by unfold scI; omega)).trans hP.1, hP.2⟩
          have hvpn : vpn K = vpn I := congrArg vN (hKne _ _ (by unfold rwI; omega) (by unfold dyI; omega) (by unfold scI; omega))
          have hSK : St K (vpn I) := by
            have e := Iv_St hIv2 (by omega)
            rw [hvpn] at e
            exact e
          have hcl : ∀ lg d, 9 ≤ d → m_R S M_X10_put d [.ref 0, .int (nI s), .int (nI t), .int (nI a)] (hh I lg) (some (.int (nI (faV K t (vpn I) a)))) (hh (rdV K t (vpn I)) lg) := fun lg d hd => by
            refine k_put (by omega) hM hs ht hnI hn (by omega) hlo hnow hnt (fun d hd => ?_)
            have e := k_foV (S := S) (lg := lg) (d := d) (pn := vpn I) hd hV2 hPK ht (a := a) (by rw [hKn]; omega)
            rw [hKw] at e
            rw [← hK]
            exact e
          refine Okc_go _ hm hC hcl (fun p q h => (fR_rd p q h).trans (hKne p q (by unfold rwI; omega) (by unfold dyI; omega) (by unfold scI; omega))) (Iv_rd hIv2 (Nat.le_refl _)) (fun J J' hJ hC' hgw hne hz => ?_)
          have hD := hC'.dr hV ht
          have hmn := hD.2.1
          have hCK : Cr K (onR J' s t a (vn I t)) := by rw [hK]; exact Cr_put hm hC' ht hn (by omega) hs
          obtain ⟨J2, k1, k2, k3, k4⟩ := kr_clkV (S := S) hCK hV2 ht
          have hm2 := hV2.1
          refine ⟨J2, fun lg d hd => ?_, Cr_smC hm2 k3 smC_rdV, fQ_tr (fQ_R fR_on) (fQ_sm k2), (k2 _ _ (by decide)).trans (fR_on _ _ (Or.inr (Or.inl ⟨rfl, rfl⟩)))⟩
          have hsc := kr_sc1 (S := S) (J := J) (lg := lg) (d := d - 1) (by omega) (hJ.m.trans hM.1) hm hs
          have hdy := kr_dy1 (S := S) (h := hh J lg) (d := d - 1) (by omega) ht
          have hmnJ : J 172 t = nI (vn I t) := (hJ.dr hV ht).2.1
          have d9 : J 159 s = -1 := (hJ.dy hs).trans l3
          have s9 : J 156 s = 0 := (hJ.sh hs20).trans l2
          have o9 : J 155 s = 0 := (hJ.om hs20).trans l1
          have n9 : J 143 1 = nI (vt I) := hJ.now.trans hnow
          have hon := kr_on (S := S) (I := J') (lg := lg) (d := d - 1) (t := t) (n := vn I t) (s := s) (a := a) ht hs20 hmn hn (by omega)
          have hfa := kr_faultsV (S := S) (lg := lg) (d := d - 1) (by omega) k3 hV2 hSK ht (a := a) (by rw [hKn]; omega) k4
          rw [hKw] at hfa
          refine ms_aload_n dX11_put_0 rfl ?_
          refine ms_iload_n dX11_put_1 rfl ?_
          refine qRV1 dX11_put_2 kX11_131 (by show _ < 178; first | decide | exact lt_sc (by omega) | exact lt_dy (by omega)) (by show (sh0 _).1 = _; first | rfl | rw [sh_sc (by omega)] | rw [sh_dy (by omega)]) (d := d - 1) (by show d - 1 + 1 ≤ d; omega) rfl (Nat.le_of_ble_eq_true rfl) (Nat.le_of_ble_eq_true rfl) (hsc) rfl ?_
          refine ms_if_eq (tgt := 19) dX11_put_5 (by decide) (fun c5 => absurd c5 (by decide)) (fun c5 => ?_)
          refine ms_iload_n dX11_put_8 rfl ?_
          refine qRS1 dX11_put_9 kX11_168 (d := d - 1) (by show d - 1 + 1 ≤ d; omega) rfl (Nat.le_of_ble_eq_true rfl) (Nat.le_of_ble_eq_true rfl) (hdy) rfl ?_
          refine ms_if_eq (tgt := 19) dX11_put_12 (by decide) (fun c12 => absurd c12 (by decide)) (fun c12 => ?_)
          refine ms_iconst (v := nI 1) dX11_put_15 (by decide) ?_
          refine ms_goto (tgt := 20) dX11_put_16 (by decide) ?_
          refine ms_istore dX11_put_20 (Nat.le_of_ble_eq_true rfl) ?_
          refine ms_iload dX11_put_22 rfl ?_
          refine ms_if_eq (tgt := 45) dX11_put_24 (by decide) (fun c24 => absurd c24 (by decide)) (fun c24 => ?_)
          refine ms_iload_n dX11_put_27 rfl ?_
          refine ms_iconst (v := nI 0) dX11_put_28 (by decide) ?_
          refine ms_aload_n dX11_put_29 rfl ?_
          refine q_getr dX11_put_30 fX11_95 kd_11_36 (by first | decide | exact lt_sc (by omega) | exact lt_dy (by omega) | exact lt_rw (by omega) | exact lt_wa (by omega) | exact lt_le (by omega)) (by first | rfl | rw [sh_sc (by omega)] | rw [sh_dy (by omega)]) (by first | rfl | exact rf_wa (by omega) | exact rf_le (by omega) | exact rf_rw (by omega)) ?_
          refine ms_iload_n dX11_put_33 rfl ?_
          refine q_iald dX11_put_34 (by first | decide | exact lt_sc (by omega) | exact lt_dy (by omega) | exact lt_rw (by omega) | exact lt_wa (by omega) | exact lt_le (by omega)) (by first | rfl | exact sh_rw (by omega) | exact sh_wa (by omega) | exact sh_le (by omega)) (by omega) (by decide) hmnJ ?_
          refine qRS3 dX11_put_35 kX11_117 (d := d - 1) (by show d - 1 + 1 ≤ d; omega) rfl rfl rfl (Nat.le_of_ble_eq_true rfl) (Nat.le_of_ble_eq_true rfl) (hin _ _ _) rfl ?_
          refine ms_if_eq (tgt := 45) dX11_put_38 (by decide) (fun c38 => absurd c38 (by decide)) (fun c38 => ?_)
          refine ms_iconst (v := nI 1) dX11_put_41 (by decide) ?_
          refine ms_goto (tgt := 46) dX11_put_42 (by decide) ?_
          refine ms_istore dX11_put_46 (Nat.le_of_ble_eq_true rfl) ?_
          refine ms_iload dX11_put_48 rfl ?_
          refine ms_if_eq (tgt := 104) dX11_put_50 (by decide) (fun c50 => absurd c50 (by decide)) (fun c50 => ?_)
          refine ms_aload_n dX11_put_53 rfl ?_
          refine q_getr dX11_put_54 fX11_56 kd_11_19 (by first | decide | exact lt_sc (by omega) | exact lt_dy (by omega) | exact lt_rw (by omega) | exact lt_wa (by omega) | exact lt_le (by omega)) (by first | rfl | rw [sh_sc (by omega)] | rw [sh_dy (by omega)]) (by first | rfl | exact rf_wa (by omega) | exact rf_le (by omega) | exact rf_rw (by omega)) ?_
          refine ms_iload_n dX11_put_57 rfl ?_
          refine q_iald dX11_put_58 (by first | decide | exact lt_sc (by omega) | exact lt_dy (by omega) | exact lt_rw (by omega) | exact lt_wa (by omega) | exact lt_le (by omega)) (by first | rfl | exact sh_rw (by omega) | exact sh_wa (by omega) | exact sh_le (by omega)) (by omega) (by decide) d9 ?_
          refine ms_iconst (v := -1) dX11_put_59 (by decide) ?_
          refine ms_icmp_ne (tgt := 104) dX11_put_60 (by decide) (fun c60 => absurd c60 (fun q => q rfl)) (fun c60 => ?_)
          refine ms_aload_n dX11_put_63 rfl ?_
          refine q_getr dX11_put_64 fX11_47 kd_11_16 (by first | decide | exact lt_sc (by omega) | exact lt_dy (by omega) | exact lt_rw (by omega) | exact lt_wa (by omega) | exact lt_le (by omega)) (by first | rfl | rw [sh_sc (by omega)] | rw [sh_dy (by omega)]) (by first | rfl | exact rf_wa (by omega) | exact rf_le (by omega) | exact rf_rw (by omega)) ?_
          refine ms_iload_n dX11_put_67 rfl ?_
          refine q_zald dX11_put_68 (by first | decide | exact lt_sc (by omega) | exact lt_dy (by omega) | exact lt_rw (by omega) | exact lt_wa (by omega) | exact lt_le (by omega)) (by first | rfl | exact sh_rw (by omega) | exact sh_wa (by omega) | exact sh_le (by omega)) (by omega) (by decide) s9 ?_
          refine ms_if_ne (tgt := 104) dX11_put_69 (by decide) (fun c69 => absurd c69 (fun q => q rfl)) (fun c69 => ?_)
          refine ms_aload_n dX11_put_72 rfl ?_
          refine q_getr dX11_put_73 fX11_44 kd_11_15 (by first | decide | exact lt_sc (by omega) | exact lt_dy (by omega) | exact lt_rw (by omega) | exact lt_wa (by omega) | exact lt_le (by omega)) (by first | rfl | rw [sh_sc (by omega)] | rw [sh_dy (by omega)]) (by first | rfl | exact rf_wa (by omega) | exact rf_le (by omega) | exact rf_rw (by omega)) ?_
          refine ms_iload_n dX11_put_76 rfl ?_
          refine q_zald dX11_put_77 (by first | decide | exact lt_sc (by omega) | exact lt_dy (by omega) | exact lt_rw (by omega) | exact lt_wa (by omega) | exact lt_le (by omega)) (by first | rfl | exact sh_rw (by omega) | exact sh_wa (by omega) | exact sh_le (by omega)) (by omega) (by decide) o9 ?_
          refine ms_if_ne (tgt := 104) dX11_put_78 (by decide) (fun c78 => absurd c78 (fun q => q rfl)) (fun c78 => ?_)
          refine ms_iload_n dX11_put_81 rfl ?_
          refine ms_aload_n dX11_put_82 rfl ?_
          refine q_geti dX11_put_83 fX11_192 (by rw [kd_11_1]; decide) (by first | decide | exact lt_sc (by omega) | exact lt_dy (by omega) | exact lt_rw (by omega) | exact lt_wa (by omega) | exact lt_le (by omega)) (by first | rfl | rw [sh_sc (by omega)] | rw [sh_dy (by omega)]) n9 ?_
          refine n_icmp_lt (tgt := 104) dX11_put_86 (by decide) (by omega) (by omega) (fun c86 => absurd c86 (by omega)) (fun c86 => ?_)
          refine ms_aload_n dX11_put_89 rfl ?_
          refine q_getr dX11_put_90 fX11_95 kd_11_36 (by first | decide | exact lt_sc (by omega) | exact lt_dy (by omega) | exact lt_rw (by omega) | exact lt_wa (by omega) | exact lt_le (by omega)) (by first | rfl | rw [sh_sc (by omega)] | rw [sh_dy (by omega)]) (by first | rfl | exact rf_wa (by omega) | exact rf_le (by omega) | exact rf_rw (by omega)) ?_
          refine ms_iload_n dX11_put_93 rfl ?_
          refine q_iald dX11_put_94 (by first | decide | exact lt_sc (by omega) | exact lt_dy (by omega) | exact lt_rw (by omega) | exact lt_wa (by omega) | exact lt_le (by omega)) (by first | rfl | exact sh_rw (by omega) | exact sh_wa (by omega) | exact sh_le (by omega)) (by omega) (by decide) hmnJ ?_
          refine ms_bipush (v := nI 8) dX11_put_95 (by decide) ?_
          refine n_icmp_ge (tgt := 104) dX11_put_97 (by decide) (by omega) (by omega) (fun c97 => absurd c97 (by omega)) (fun c97 => ?_)
          refine ms_iconst (v := nI 1) dX11_put_100 (by decide) ?_
          refine ms_goto (tgt := 105) dX11_put_101 (by decide) ?_
          refine ms_istore dX11_put_105 (Nat.le_of_ble_eq_true rfl) ?_
          refine ms_aload_n dX11_put_107 rfl ?_
          refine ms_iload dX11_put_108 rfl ?_
          refine ms_if_ne (tgt := 117) dX11_put_110 (by decide) (fun c110 => ?_) (fun c110 => absurd c110 (by decide))
          refine ms_iload dX11_put_117 rfl ?_
          refine ms_if_eq (tgt := 126) dX11_put_119 (by decide) (fun c119 => absurd c119 (by decide)) (fun c119 => ?_)
          refine ms_iconst (v := nI 0) dX11_put_122 (by decide) ?_
          refine ms_goto (tgt := 127) dX11_put_123 (by decide) ?_
          refine qRV1 dX11_put_127 kX11_138 (by show _ < 178; first | decide | exact lt_sc (by omega) | exact lt_dy (by omega)) (by show (sh0 _).1 = _; first | rfl | rw [sh_sc (by omega)] | rw [sh_dy (by omega)]) (d := d - 1) (by show d - 1 + 1 ≤ d; omega) rfl (Nat.le_of_ble_eq_true rfl) (Nat.le_of_ble_eq_true rfl) (hgw _ _) rfl ?_
          refine ms_if_ne (tgt := 135) dX11_put_130 (by decide) (fun c130 => ?_) (fun c130 => absurd c130 (by decide))
          refine ms_aload_n dX11_put_135 rfl ?_
          refine ms_iload_n dX11_put_136 rfl ?_
          refine ms_iload_n dX11_put_137 rfl ?_
          refine ms_iload_n dX11_put_138 rfl ?_
          refine qRV3 dX11_put_139 kX11_195 (by show _ < 178; first | decide | exact lt_sc (by omega) | exact lt_dy (by omega)) (by show (sh0 _).1 = _; first | rfl | rw [sh_sc (by omega)] | rw [sh_dy (by omega)]) (d := d - 1) (by show d - 1 + 1 ≤ d; omega) rfl rfl rfl (Nat.le_of_ble_eq_true rfl) (Nat.le_of_ble_eq_true rfl) (hon) rfl ?_
          refine ms_aload_n dX11_put_142 rfl ?_
          refine ms_iload_n dX11_put_143 rfl ?_
          refine qRV1 dX11_put_144 kX11_199 (by show _ < 178; first | decide | exact lt_sc (by omega) | exact lt_dy (by omega)) (by show (sh0 _).1 = _; first | rfl | rw [sh_sc (by omega)] | rw [sh_dy (by omega)]) (d := d - 1) (by show d - 1 + 1 ≤ d; omega) rfl (Nat.le_of_ble_eq_true rfl) (Nat.le_of_ble_eq_true rfl) (k1 _ _ (by omega)) rfl ?_
          refine ms_aload_n dX11_put_147 rfl ?_
          refine ms_iload_n dX11_put_148 rfl ?_
          refine qRV1 dX11_put_149 kX11_202 (by show _ < 178; first | decide | exact lt_sc (by omega) | exact lt_dy (by omega)) (by show (sh0 _).1 = _; first | rfl | rw [sh_sc (by omega)] | rw [sh_dy (by omega)]) (d := d - 1) (by show d - 1 + 1 ≤ d; omega) rfl (Nat.le_of_ble_eq_true rfl) (Nat.le_of_ble_eq_true rfl) (hfa) rfl ?_
          refine ms_iret dX11_put_152 rfl rfl ⟨?_, ?_⟩
          · rfl
          · rfl
        · refine Okc_thr (k := 1) (E := xS) (b := some (.int (nI 0))) hI hC rfl (fun lg d hd => k_putT4 (by omega) hM hs ht hnI hn8 (by omega) hnow hn30 hcan) (fun lg d hd => ?_)
          have hsc := kr_sc1 (S := S) (J := I) (lg := lg) (d := d - 1) (by omega) (hC.m.trans hM.1) hm hs
          have hdy := kr_dy1 (S := S) (h := hh I lg) (d := d - 1) (by omega) ht
          have hmnJ : I 172 t = nI (vn I t) := (hC.dr hV ht).2.1
          have d9 : I 159 s = I (scI s) 15 := hC.dy hs
          have s9 : I 156 s = I (scI s) 12 := hC.sh hs20
          have o9 : I 155 s = I (scI s) 11 := hC.om hs20
          have n9 : I 143 1 = nI (vt I) := hC.now.trans hnow
          have no : m_W S (M_X11_put, d, fun w9 g => w9 = some (.int (nI 0)) ∧ g = hh (m_up2 I 143 0 (nI (1 + 1))) lg, fun _ _ => False) 104 [some (.ref 143), some (.int (nI s)), some (.int (nI t)), some (.int (nI a)), some (.int (bi true)), none] [] (hh I lg) 0 0 := by
            refine ms_iconst (v := nI 0) dX11_put_104 (by decide) ?_
            refine ms_istore dX11_put_105 (Nat.le_of_ble_eq_true rfl) ?_
            refine ms_aload_n dX11_put_107 rfl ?_
            refine ms_iload dX11_put_108 rfl ?_
            refine ms_if_ne (tgt := 117) dX11_put_110 (by decide) (fun c110 => ?_) (fun c110 => absurd c110 (by decide))
            refine ms_iload dX11_put_117 rfl ?_
            refine ms_if_eq (tgt := 126) dX11_put_119 (by decide) (fun c119 => ?_) (fun c119 => absurd c119 (by decide))
            refine ms_iconst (v := nI 2) dX11_put_126 (by decide) ?_
            refine qRV1 dX11_put_127 kX11_138 (by show _ < 178; first | decide | exact lt_sc (by omega) | exact lt_dy (by omega)) (by show (sh0 _).1 = _; first | rfl | rw [sh_sc (by omega)] | rw [sh_dy (by omega)]) (d := d - 1) (by show d - 1 + 1 ≤ d; omega) rfl (Nat.le_of_ble_eq_true rfl) (Nat.le_of_ble_eq_true rfl) (kr_gwk 1 (by decide)) rfl ?_
            refine ms_if_ne (tgt := 135) dX11_put_130 (by decide) (fun c130 => absurd c130 (by decide)) (fun c130 => ?_)
            refine ms_iconst (v := nI 0) dX11_put_133 (by decide) ?_
            refine ms_iret dX11_put_134 rfl rfl ⟨?_, ?_⟩
            · rfl
            · rfl
          refine ms_aload_n dX11_put_0 rfl ?_
          refine ms_iload_n dX11_put_1 rfl ?_
          refine qRV1 dX11_put_2 kX11_131 (by show _ < 178; first | decide | exact lt_sc (by omega) | exact lt_dy (by omega)) (by show (sh0 _).1 = _; first | rfl | rw [sh_sc (by omega)] | rw [sh_dy (by omega)]) (d := d - 1) (by show d - 1 + 1 ≤ d; omega) rfl (Nat.le_of_ble_eq_true rfl) (Nat.le_of_ble_eq_true rfl) (hsc) rfl ?_
          refine ms_if_eq (tgt := 19) dX11_put_5 (by decide) (fun c5 => absurd c5 (by decide)) (fun c5 => ?_)
          refine ms_iload_n dX11_put_8 rfl ?_
          refine qRS1 dX11_put_9 kX11_168 (d := d - 1) (by show d - 1 + 1 ≤ d; omega) rfl (Nat.le_of_ble_eq_true rfl) (Nat.le_of_ble_eq_true rfl) (hdy) rfl ?_
          refine ms_if_eq (tgt := 19) dX11_put_12 (by decide) (fun c12 => absurd c12 (by decide)) (fun c12 => ?_)
          refine ms_iconst (v := nI 1) dX11_put_15 (by decide) ?_
          refine ms_goto (tgt := 20) dX11_put_16 (by decide) ?_
          refine ms_istore dX11_put_20 (Nat.le_of_ble_eq_true rfl) ?_
          refine ms_iload dX11_put_22 rfl ?_
          refine ms_if_eq (tgt := 45) dX11_put_24 (by decide) (fun c24 => absurd c24 (by decide)) (fun c24 => ?_)
          refine ms_iload_n dX11_put_27 rfl ?_
          refine ms_iconst (v := nI 0) dX11_put_28 (by decide) ?_
          refine ms_aload_n dX11_put_29 rfl ?_
          refine q_getr dX11_put_30 fX11_95 kd_11_36 (by first | decide | exact lt_sc (by omega) | exact lt_dy (by omega) | exact lt_rw (by omega) | exact lt_wa (by omega) | exact lt_le (by omega)) (by first | rfl | rw [sh_sc (by omega)] | rw [sh_dy (by omega)]) (by first | rfl | exact rf_wa (by omega) | exact rf_le (by omega) | exact rf_rw (by omega)) ?_
          refine ms_iload_n dX11_put_33 rfl ?_
          refine q_iald dX11_put_34 (by first | decide | exact lt_sc (by omega) | exact lt_dy (by omega) | exact lt_rw (by omega) | exact lt_wa (by omega) | exact lt_le (by omega)) (by first | rfl | exact sh_rw (by omega) | exact sh_wa (by omega) | exact sh_le (by omega)) (by omega) (by decide) hmnJ ?_
          refine qRS3 dX11_put_35 kX11_117 (d := d - 1) (by show d - 1 + 1 ≤ d; omega) rfl rfl rfl (Nat.le_of_ble_eq_true rfl) (Nat.le_of_ble_eq_true rfl) (hin _ _ _) rfl ?_
          refine ms_if_eq (tgt := 45) dX11_put_38 (by decide) (fun c38 => absurd c38 (by decide)) (fun c38 => ?_)
          refine ms_iconst (v := nI 1) dX11_put_41 (by decide) ?_
          refine ms_goto (tgt := 46) dX11_put_42 (by decide) ?_
          refine ms_istore dX11_put_46 (Nat.le_of_ble_eq_true rfl) ?_
          refine ms_iload dX11_put_48 rfl ?_
          refine ms_if_eq (tgt := 104) dX11_put_50 (by decide) (fun c50 => absurd c50 (by decide)) (fun c50 => ?_)
          refine ms_aload_n dX11_put_53 rfl ?_
          refine q_getr dX11_put_54 fX11_56 kd_11_19 (by first | decide | exact lt_sc (by omega) | exact lt_dy (by omega) | exact lt_rw (by omega) | exact lt_wa (by omega) | exact lt_le (by omega)) (by first | rfl | rw [sh_sc (by omega)] | rw [sh_dy (by omega)]) (by first | rfl | exact rf_wa (by omega) | exact rf_le (by omega) | exact rf_rw (by omega)) ?_
          refine ms_iload_n dX11_put_57 rfl ?_
          refine q_iald dX11_put_58 (by first | decide | exact lt_sc (by omega) | exact lt_dy (by omega) | exact lt_rw (by omega) | exact lt_wa (by omega) | exact lt_le (by omega)) (by first | rfl | exact sh_rw (by omega) | exact sh_wa (by omega) | exact sh_le (by omega)) (by omega) (by decide) d9 ?_
          refine ms_iconst (v := -1) dX11_put_59 (by decide) ?_
          refine ms_icmp_ne (tgt := 104) dX11_put_60 (by decide) (fun c60 => ?_) (fun c60 => ?_)
          · exact no
          · refine ms_aload_n dX11_put_63 rfl ?_
            refine q_getr dX11_put_64 fX11_47 kd_11_16 (by first | decide | exact lt_sc (by omega) | exact lt_dy (by omega) | exact lt_rw (by omega) | exact lt_wa (by omega) | exact lt_le (by omega)) (by first | rfl | rw [sh_sc (by omega)] | rw [sh_dy (by omega)]) (by first | rfl | exact rf_wa (by omega) | exact rf_le (by omega) | exact rf_rw (by omega)) ?_
            refine ms_iload_n dX11_put_67 rfl ?_
            refine q_zald dX11_put_68 (by first | decide | exact lt_sc (by omega) | exact lt_dy (by omega) | exact lt_rw (by omega) | exact lt_wa (by omega) | exact lt_le (by omega)) (by first | rfl | exact sh_rw (by omega) | exact sh_wa (by omega) | exact sh_le (by omega)) (by omega) (by decide) s9 ?_
            refine ms_if_ne (tgt := 104) dX11_put_69 (by decide) (fun c69 => ?_) (fun c69 => ?_)
            · exact no
            · refine ms_aload_n dX11_put_72 rfl ?_
              refine q_getr dX11_put_73 fX11_44 kd_11_15 (by first | decide | exact lt_sc (by omega) | exact lt_dy (by omega) | exact lt_rw (by omega) | exact lt_wa (by omega) | exact lt_le (by omega)) (by first | rfl | rw [sh_sc (by omega)] | rw [sh_dy (by omega)]) (by first | rfl | exact rf_wa (by omega) | exact rf_le (by omega) | exact rf_rw (by omega)) ?_
              refine ms_iload_n dX11_put_76 rfl ?_
              refine q_zald dX11_put_77 (by first | decide | exact lt_sc (by omega) | exact lt_dy (by omega) | exact lt_rw (by omega) | exact lt_wa (by omega) | exact lt_le (by omega)) (by first | rfl | exact sh_rw (by omega) | exact sh_wa (by omega) | exact sh_le (by omega)) (by omega) (by decide) o9 ?_
              refine ms_if_ne (tgt := 104) dX11_put_78 (by decide) (fun c78 => ?_) (fun c78 => ?_)
              · exact no
              · refine ms_iload_n dX11_put_81 rfl ?_
                refine ms_aload_n dX11_put_82 rfl ?_
                refine q_geti dX11_put_83 fX11_192 (by rw [kd_11_1]; decide) (by first | decide | exact lt_sc (by omega) | exact lt_dy (by omega) | exact lt_rw (by omega) | exact lt_wa (by omega) | exact lt_le (by omega)) (by first | rfl | rw [sh_sc (by omega)] | rw [sh_dy (by omega)]) n9 ?_
                refine n_icmp_lt (tgt := 104) dX11_put_86 (by decide) (by omega) (by omega) (fun c86 => ?_) (fun c86 => ?_)
                · exact no
                · refine ms_aload_n dX11_put_89 rfl ?_
                  refine q_getr dX11_put_90 fX11_95 kd_11_36 (by first | decide | exact lt_sc (by omega) | exact lt_dy (by omega) | exact lt_rw (by omega) | exact lt_wa (by omega) | exact lt_le (by omega)) (by first | rfl | rw [sh_sc (by omega)] | rw [sh_dy (by omega)]) (by first | rfl | exact rf_wa (by omega) | exact rf_le (by omega) | exact rf_rw (by omega)) ?_
                  refine ms_iload_n dX11_put_93 rfl ?_
                  refine q_iald dX11_put_94 (by first | decide | exact lt_sc (by omega) | exact lt_dy (by omega) | exact lt_rw (by omega) | exact lt_wa (by omega) | exact lt_le (by omega)) (by first | rfl | exact sh_rw (by omega) | exact sh_wa (by omega) | exact sh_le (by omega)) (by omega) (by decide) hmnJ ?_
                  refine ms_bipush (v := nI 8) dX11_put_95 (by decide) ?_
                  refine n_icmp_ge (tgt := 104) dX11_put_97 (by decide) (by omega) (by omega) (fun c97 => ?_) (fun c97 => ?_)
                  · exact no
                  · exact absurd ⟨decide_eq_true ⟨c78, c69, c60⟩, by omega, by omega⟩ hcan
      · refine Okc_thr (k := 0) (E := xI) (b := some (.int (nI 0))) hI hC rfl (fun lg d hd => k_putT3 (by omega) hM hs ht hnI hn8 hz) (fun lg d hd => ?_)
        have hsc := kr_sc1 (S := S) (J := I) (lg := lg) (d := d - 1) (by omega) (hC.m.trans hM.1) hm hs
        have hdy := kr_dy1 (S := S) (h := hh I lg) (d := d - 1) (by omega) ht
        have hmnJ : I 172 t = nI (vn I t) := (hC.dr hV ht).2.1
        have hin : m_R S M_X11_in (d - 1) [.int z, .int (nI 0), .int (nI (vn I t))] (hh I lg) (some (.int (bi false))) (hh I lg) := by
          have e := kr_in (S := S) (h := hh I lg) (d := d - 1) (v := z) (a := nI 0) (b := nI (vn I t))
          rw [show inB z (nI 0) (nI (vn I t)) = false by rw [← en]; exact inB_0 (by omega) hz] at e
          exact e
        refine ms_aload_n dX11_put_0 rfl ?_
        refine ms_iload_n dX11_put_1 rfl ?_
        refine qRV1 dX11_put_2 kX11_131 (by show _ < 178; first | decide | exact lt_sc (by omega) | exact lt_dy (by omega)) (by show (sh0 _).1 = _; first | rfl | rw [sh_sc (by omega)] | rw [sh_dy (by omega)]) (d := d - 1) (by show d - 1 + 1 ≤ d; omega) rfl (Nat.le_of_ble_eq_true rfl) (Nat.le_of_ble_eq_true rfl) (hsc) rfl ?_
        refine ms_if_eq (tgt := 19) dX11_put_5 (by decide) (fun c5 => absurd c5 (by decide)) (fun c5 => ?_)
        refine ms_iload_n dX11_put_8 rfl ?_
        refine qRS1 dX11_put_9 kX11_168 (d := d - 1) (by show d - 1 + 1 ≤ d; omega) rfl (Nat.le_of_ble_eq_true rfl) (Nat.le_of_ble_eq_true rfl) (hdy) rfl ?_
        refine ms_if_eq (tgt := 19) dX11_put_12 (by decide) (fun c12 => absurd c12 (by decide)) (fun c12 => ?_)
        refine ms_iconst (v := nI 1) dX11_put_15 (by decide) ?_
        refine ms_goto (tgt := 20) dX11_put_16 (by decide) ?_
        refine ms_istore dX11_put_20 (Nat.le_of_ble_eq_true rfl) ?_
        refine ms_iload dX11_put_22 rfl ?_
        refine ms_if_eq (tgt := 45) dX11_put_24 (by decide) (fun c24 => absurd c24 (by decide)) (fun c24 => ?_)
        refine ms_iload_n dX11_put_27 rfl ?_
        refine ms_iconst (v := nI 0) dX11_put_28 (by decide) ?_
        refine ms_aload_n dX11_put_29 rfl ?_
        refine q_getr dX11_put_30 fX11_95 kd_11_36 (by first | decide | exact lt_sc (by omega) | exact lt_dy (by omega) | exact lt_rw (by omega) | exact lt_wa (by omega) | exact lt_le (by omega)) (by first | rfl | rw [sh_sc (by omega)] | rw [sh_dy (by omega)]) (by first | rfl | exact rf_wa (by omega) | exact rf_le (by omega) | exact rf_rw (by omega)) ?_
        refine ms_iload_n dX11_put_33 rfl ?_
        refine q_iald dX11_put_34 (by first | decide | exact lt_sc (by omega) | exact lt_dy (by omega) | exact lt_rw (by omega) | exact lt_wa (by omega) | exact lt_le (by omega)) (by first | rfl | exact sh_rw (by omega) | exact sh_wa (by omega) | exact sh_le (by omega)) (by omega) (by decide) hmnJ ?_
        refine qRS3 dX11_put_35 kX11_117 (d := d - 1) (by show d - 1 + 1 ≤ d; omega) rfl rfl rfl (Nat.le_of_ble_eq_true rfl) (Nat.le_of_ble_eq_true rfl) (hin) rfl ?_
        refine ms_if_eq (tgt := 45) dX11_put_38 (by decide) (fun c38 => ?_) (fun c38 => absurd c38 (by decide))
        refine ms_iconst (v := nI 0) dX11_put_45 (by decide) ?_
        refine ms_istore dX11_put_46 (Nat.le_of_ble_eq_true rfl) ?_
        refine ms_iload dX11_put_48 rfl ?_
        refine ms_if_eq (tgt := 104) dX11_put_50 (by decide) (fun c50 => ?_) (fun c50 => absurd c50 (by decide))
        refine ms_iconst (v := nI 0) dX11_put_104 (by decide) ?_
        refine ms_istore dX11_put_105 (Nat.le_of_ble_eq_true rfl) ?_
        refine ms_aload_n dX11_put_107 rfl ?_
        refine ms_iload dX11_put_108 rfl ?_
        refine ms_if_ne (tgt := 117) dX11_put_110 (by decide) (fun c110 => absurd c110 (by decide)) (fun c110 => ?_)
        refine ms_iconst (v := nI 1) dX11_put_113 (by decide) ?_
        refine ms_goto (tgt := 127) dX11_put_114 (by decide) ?_
        refine qRV1 dX11_put_127 kX11_138 (by show _ < 178; first | decide | exact lt_sc (by omega) | exact lt_dy (by omega)) (by show (sh0 _).1 = _; first | rfl | rw [sh_sc (by omega)] | rw [sh_dy (by omega)]) (d := d - 1) (by show d - 1 + 1 ≤ d; omega) rfl (Nat.le_of_ble_eq_true rfl) (Nat.le_of_ble_eq_true rfl) (kr_gwk 0 (by decide)) rfl ?_
        refine ms_if_ne (tgt := 135) dX11_put_130 (by decide) (fun c130 => absurd c130 (by decide)) (fun c130 => ?_)
        refine ms_iconst (v := nI 0) dX11_put_133 (by decide) ?_
        refine ms_iret dX11_put_134 rfl rfl ⟨?_, ?_⟩
        · rfl
        · rfl
    · refine Okc_thr (k := 0) (E := xI) (b := some (.int (nI 0))) hI hC rfl (fun lg d hd => k_putT2 (by omega) hM hs hy) (fun lg d hd => ?_)
      have hsc := kr_sc1 (S := S) (J := I) (lg := lg) (d := d - 1) (by omega) (hC.m.trans hM.1) hm hs
      have hdy := kr_dy0 (S := S) (h := hh I lg) (d := d - 1) (by omega) hy
      refine ms_aload_n dX11_put_0 rfl ?_
      refine ms_iload_n dX11_put_1 rfl ?_
      refine qRV1 dX11_put_2 kX11_131 (by show _ < 178; first | decide | exact lt_sc (by omega) | exact lt_dy (by omega)) (by show (sh0 _).1 = _; first | rfl | rw [sh_sc (by omega)] | rw [sh_dy (by omega)]) (d := d - 1) (by show d - 1 + 1 ≤ d; omega) rfl (Nat.le_of_ble_eq_true rfl) (Nat.le_of_ble_eq_true rfl) (hsc) rfl ?_
      refine ms_if_eq (tgt := 19) dX11_put_5 (by decide) (fun c5 => absurd c5 (by decide)) (fun c5 => ?_)
      refine ms_iload_n dX11_put_8 rfl ?_
      refine qRS1 dX11_put_9 kX11_168 (d := d - 1) (by show d - 1 + 1 ≤ d; omega) rfl (Nat.le_of_ble_eq_true rfl) (Nat.le_of_ble_eq_true rfl) (hdy) rfl ?_
      refine ms_if_eq (tgt := 19) dX11_put_12 (by decide) (fun c12 => ?_) (fun c12 => absurd c12 (by decide))
      refine ms_iconst (v := nI 0) dX11_put_19 (by decide) ?_
      refine ms_istore dX11_put_20 (Nat.le_of_ble_eq_true rfl) ?_
      refine ms_iload dX11_put_22 rfl ?_
      refine ms_if_eq (tgt := 45) dX11_put_24 (by decide) (fun c24 => ?_) (fun c24 => absurd c24 (by decide))
      refine ms_iconst (v := nI 0) dX11_put_45 (by decide) ?_
      refine ms_istore dX11_put_46 (Nat.le_of_ble_eq_true rfl) ?_
      refine ms_iload dX11_put_48 rfl ?_
      refine ms_if_eq (tgt := 104) dX11_put_50 (by decide) (fun c50 => ?_) (fun c50 => absurd c50 (by decide))
      refine ms_iconst (v := nI 0) dX11_put_104 (by decide) ?_
      refine ms_istore dX11_put_105 (Nat.le_of_ble_eq_true rfl) ?_
      refine ms_aload_n dX11_put_107 rfl ?_
      refine ms_iload dX11_put_108 rfl ?_
      refine ms_if_ne (tgt := 117) dX11_put_110 (by decide) (fun c110 => absurd c110 (by decide)) (fun c110 => ?_)
      refine ms_iconst (v := nI 1) dX11_put_113 (by decide) ?_
      refine ms_goto (tgt := 127) dX11_put_114 (by decide) ?_
      refine qRV1 dX11_put_127 kX11_138 (by show _ < 178; first | decide | exact lt_sc (by omega) | exact lt_dy (by omega)) (by show (sh0 _).1 = _; first | rfl | rw [sh_sc (by omega)] | rw [sh_dy (by omega)]) (d := d - 1) (by show d - 1 + 1 ≤ d; omega) rfl (Nat.le_of_ble_eq_true rfl) (Nat.le_of_ble_eq_true rfl) (kr_gwk 0 (by decide)) rfl ?_
      refine ms_if_ne (tgt := 135) dX11_put_130 (by decide) (fun c130 => absurd c130 (by decide)) (fun c130 => ?_)
      refine ms_iconst (v := nI 0) dX11_put_133 (by decide) ?_
      refine ms_iret dX11_put_134 rfl rfl ⟨?_, ?_⟩
      · rfl
      · rfl
  · refine Okc_thr (k := 0) (E := xI) (b := some (.int (nI 0))) hI hC rfl (fun lg d hd => k_putT1 (by omega) hM hx) (fun lg d hd => ?_)
    have hsc := kr_sc0 (S := S) (J := I) (lg := lg) (d := d - 1) (by omega) (hC.m.trans hM.1) hm hx
    refine ms_aload_n dX11_put_0 rfl ?_
    refine ms_iload_n dX11_put_1 rfl ?_
    refine qRV1 dX11_put_2 kX11_131 (by show _ < 178; first | decide | exact lt_sc (by omega) | exact lt_dy (by omega)) (by show (sh0 _).1 = _; first | rfl | rw [sh_sc (by omega)] | rw [sh_dy (by omega)]) (d := d - 1) (by show d - 1 + 1 ≤ d; omega) rfl (Nat.le_of_ble_eq_true rfl) (Nat.le_of_ble_eq_true rfl) (hsc) rfl ?_
    refine ms_if_eq (tgt := 19) dX11_put_5 (by decide) (fun c5 => ?_) (fun c5 => absurd c5 (by decide))
    refine ms_iconst (v := nI 0) dX11_put_19 (by decide) ?_
    refine ms_istore dX11_put_20 (Nat.le_of_ble_eq_true rfl) ?_
    refine ms_iload dX11_put_22 rfl ?_
    refine ms_if_eq (tgt := 45) dX11_put_24 (by decide) (fun c24 => ?_) (fun c24 => absurd c24 (by decide))
    refine ms_iconst (v := nI 0) dX11_put_45 (by decide) ?_
    refine ms_istore dX11_put_46 (Nat.le_of_ble_eq_true rfl) ?_
    refine ms_iload dX11_put_48 rfl ?_
    refine ms_if_eq (tgt := 104) dX11_put_50 (by decide) (fun c50 => ?_) (fun c50 => absurd c50 (by decide))
    refine ms_iconst (v := nI 0) dX11_put_104 (by decide) ?_
    refine ms_istore dX11_put_105 (Nat.le_of_ble_eq_true rfl) ?_
    refine ms_aload_n dX11_put_107 rfl ?_
    refine ms_iload dX11_put_108 rfl ?_
    refine ms_if_ne (tgt := 117) dX11_put_110 (by decide) (fun c110 => absurd c110 (by decide)) (fun c110 => ?_)
    refine ms_iconst (v := nI 1) dX11_put_113 (by decide) ?_
    refine ms_goto (tgt := 127) dX11_put_114 (by decide) ?_
    refine qRV1 dX11_put_127 kX11_138 (by show _ < 178; first | decide | exact lt_sc (by omega) | exact lt_dy (by omega)) (by show (sh0 _).1 = _; first | rfl | rw [sh_sc (by omega)] | rw [sh_dy (by omega)]) (d := d - 1) (by show d - 1 + 1 ≤ d; omega) rfl (Nat.le_of_ble_eq_true rfl) (Nat.le_of_ble_eq_true rfl) (kr_gwk 0 (by decide)) rfl ?_
    refine ms_if_ne (tgt := 135) dX11_put_130 (by decide) (fun c130 => absurd c130 (by decide)) (fun c130 => ?_)
    refine ms_iconst (v := nI 0) dX11_put_133 (by decide) ?_
    refine ms_iret dX11_put_134 rfl rfl ⟨?_, ?_⟩
    · rfl
    · rfl

